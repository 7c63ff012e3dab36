theorem dX0_init_0 : decode cX0_init 0 = .ok (.aload_n 0, 1) := by decide +kernel
theorem dX0_init_1 : decode cX0_init 1 = .ok (.invokespecial 3, 3) := by decide +kernel
theorem dX0_init_4 : decode cX0_init 4 = .ok (.aload_n 0, 1) := by decide +kernel
theorem dX0_init_5 : decode cX0_init 5 = .ok (.bipush 14, 2) := by decide +kernel
theorem dX0_init_7 : decode cX0_init 7 = .ok (.anewarray 9, 3) := by decide +kernel
theorem dX0_init_10 : decode cX0_init 10 = .ok (.putfield 11, 3) := by decide +kernel
theorem dX0_init_13 : decode cX0_init 13 = .ok (.iconst 0, 1) := by decide +kernel
theorem dX0_init_14 : decode cX0_init 14 = .ok (.istore_n 1, 1) := by decide +kernel
theorem dX0_init_15 : decode cX0_init 15 = .ok (.iload_n 1, 1) := by decide +kernel
theorem dX0_init_16 : decode cX0_init 16 = .ok (.aload_n 0, 1) := by decide +kernel
theorem dX0_init_17 : decode cX0_init 17 = .ok (.getfield 11, 3) := by decide +kernel
theorem dX0_init_20 : decode cX0_init 20 = .ok (.arraylength, 1) := by decide +kernel
theorem dX0_init_21 : decode cX0_init 21 = .ok (.if_icmp .ge 22, 3) := by decide +kernel
theorem dX0_init_24 : decode cX0_init 24 = .ok (.aload_n 0, 1) := by decide +kernel
theorem dX0_init_25 : decode cX0_init 25 = .ok (.getfield 11, 3) := by decide +kernel
theorem dX0_init_28 : decode cX0_init 28 = .ok (.iload_n 1, 1) := by decide +kernel
theorem dX0_init_29 : decode cX0_init 29 = .ok (.new 9, 3) := by decide +kernel
theorem dX0_init_32 : decode cX0_init 32 = .ok (.dup, 1) := by decide +kernel
theorem dX0_init_33 : decode cX0_init 33 = .ok (.invokespecial 17, 3) := by decide +kernel
theorem dX0_init_36 : decode cX0_init 36 = .ok (.aastore, 1) := by decide +kernel
theorem dX0_init_37 : decode cX0_init 37 = .ok (.iinc 1 1, 3) := by decide +kernel
theorem dX0_init_40 : decode cX0_init 40 = .ok (.goto (-25), 3) := by decide +kernel
theorem dX0_init_43 : decode cX0_init 43 = .ok (.return_, 1) := by decide +kernel
theorem dX0_at_0 : decode cX0_at 0 = .ok (.aload_n 0, 1) := by decide +kernel
theorem dX0_at_1 : decode cX0_at 1 = .ok (.getfield 11, 3) := by decide +kernel
theorem dX0_at_4 : decode cX0_at 4 = .ok (.iload_n 1, 1) := by decide +kernel
theorem dX0_at_5 : decode cX0_at 5 = .ok (.bipush 14, 2) := by decide +kernel
theorem dX0_at_7 : decode cX0_at 7 = .ok (.invokestatic 18, 3) := by decide +kernel
theorem dX0_at_10 : decode cX0_at 10 = .ok (.aaload, 1) := by decide +kernel
theorem dX0_at_11 : decode cX0_at 11 = .ok (.areturn, 1) := by decide +kernel
theorem dX0_remember_0 : decode cX0_remember 0 = .ok (.aload_n 0, 1) := by decide +kernel
theorem dX0_remember_1 : decode cX0_remember 1 = .ok (.aload_n 0, 1) := by decide +kernel
theorem dX0_remember_2 : decode cX0_remember 2 = .ok (.getfield 24, 3) := by decide +kernel
theorem dX0_remember_5 : decode cX0_remember 5 = .ok (.invokevirtual 28, 3) := by decide +kernel
theorem dX0_remember_8 : decode cX0_remember 8 = .ok (.aload_n 1, 1) := by decide +kernel
theorem dX0_remember_9 : decode cX0_remember 9 = .ok (.invokevirtual 32, 3) := by decide +kernel
theorem dX0_remember_12 : decode cX0_remember 12 = .ok (.aload_n 0, 1) := by decide +kernel
theorem dX0_remember_13 : decode cX0_remember 13 = .ok (.dup, 1) := by decide +kernel
theorem dX0_remember_14 : decode cX0_remember 14 = .ok (.getfield 24, 3) := by decide +kernel
theorem dX0_remember_17 : decode cX0_remember 17 = .ok (.iconst 1, 1) := by decide +kernel
theorem dX0_remember_18 : decode cX0_remember 18 = .ok (.iadd, 1) := by decide +kernel
theorem dX0_remember_19 : decode cX0_remember 19 = .ok (.putfield 24, 3) := by decide +kernel
theorem dX0_remember_22 : decode cX0_remember 22 = .ok (.aload_n 0, 1) := by decide +kernel
theorem dX0_remember_23 : decode cX0_remember 23 = .ok (.aload_n 0, 1) := by decide +kernel
theorem dX0_remember_24 : decode cX0_remember 24 = .ok (.getfield 36, 3) := by decide +kernel
theorem dX0_remember_27 : decode cX0_remember 27 = .ok (.iconst 1, 1) := by decide +kernel
theorem dX0_remember_28 : decode cX0_remember 28 = .ok (.iadd, 1) := by decide +kernel
theorem dX0_remember_29 : decode cX0_remember 29 = .ok (.bipush 14, 2) := by decide +kernel
theorem dX0_remember_31 : decode cX0_remember 31 = .ok (.invokestatic 39, 3) := by decide +kernel
theorem dX0_remember_34 : decode cX0_remember 34 = .ok (.putfield 36, 3) := by decide +kernel
theorem dX0_remember_37 : decode cX0_remember 37 = .ok (.return_, 1) := by decide +kernel
theorem dX0_takeBack_0 : decode cX0_takeBack 0 = .ok (.aload_n 0, 1) := by decide +kernel
theorem dX0_takeBack_1 : decode cX0_takeBack 1 = .ok (.getfield 36, 3) := by decide +kernel
theorem dX0_takeBack_4 : decode cX0_takeBack 4 = .ok (.ifCond .ne 5, 3) := by decide +kernel
theorem dX0_takeBack_7 : decode cX0_takeBack 7 = .ok (.iconst 0, 1) := by decide +kernel
theorem dX0_takeBack_8 : decode cX0_takeBack 8 = .ok (.ireturn, 1) := by decide +kernel
theorem dX0_takeBack_9 : decode cX0_takeBack 9 = .ok (.aload_n 0, 1) := by decide +kernel
theorem dX0_takeBack_10 : decode cX0_takeBack 10 = .ok (.dup, 1) := by decide +kernel
theorem dX0_takeBack_11 : decode cX0_takeBack 11 = .ok (.getfield 36, 3) := by decide +kernel
theorem dX0_takeBack_14 : decode cX0_takeBack 14 = .ok (.iconst 1, 1) := by decide +kernel
theorem dX0_takeBack_15 : decode cX0_takeBack 15 = .ok (.isub, 1) := by decide +kernel
theorem dX0_takeBack_16 : decode cX0_takeBack 16 = .ok (.putfield 36, 3) := by decide +kernel
theorem dX0_takeBack_19 : decode cX0_takeBack 19 = .ok (.aload_n 0, 1) := by decide +kernel
theorem dX0_takeBack_20 : decode cX0_takeBack 20 = .ok (.dup, 1) := by decide +kernel
theorem dX0_takeBack_21 : decode cX0_takeBack 21 = .ok (.getfield 24, 3) := by decide +kernel
theorem dX0_takeBack_24 : decode cX0_takeBack 24 = .ok (.iconst 1, 1) := by decide +kernel
theorem dX0_takeBack_25 : decode cX0_takeBack 25 = .ok (.isub, 1) := by decide +kernel
theorem dX0_takeBack_26 : decode cX0_takeBack 26 = .ok (.putfield 24, 3) := by decide +kernel
theorem dX0_takeBack_29 : decode cX0_takeBack 29 = .ok (.aload_n 1, 1) := by decide +kernel
theorem dX0_takeBack_30 : decode cX0_takeBack 30 = .ok (.aload_n 0, 1) := by decide +kernel
theorem dX0_takeBack_31 : decode cX0_takeBack 31 = .ok (.aload_n 0, 1) := by decide +kernel
theorem dX0_takeBack_32 : decode cX0_takeBack 32 = .ok (.getfield 24, 3) := by decide +kernel
theorem dX0_takeBack_35 : decode cX0_takeBack 35 = .ok (.invokevirtual 28, 3) := by decide +kernel
theorem dX0_takeBack_38 : decode cX0_takeBack 38 = .ok (.invokevirtual 32, 3) := by decide +kernel
theorem dX0_takeBack_41 : decode cX0_takeBack 41 = .ok (.iconst 1, 1) := by decide +kernel
theorem dX0_takeBack_42 : decode cX0_takeBack 42 = .ok (.ireturn, 1) := by decide +kernel
theorem dX0_forget_0 : decode cX0_forget 0 = .ok (.aload_n 0, 1) := by decide +kernel
theorem dX0_forget_1 : decode cX0_forget 1 = .ok (.iconst 0, 1) := by decide +kernel
theorem dX0_forget_2 : decode cX0_forget 2 = .ok (.putfield 36, 3) := by decide +kernel
theorem dX0_forget_5 : decode cX0_forget 5 = .ok (.return_, 1) := by decide +kernel
theorem dX1_root_0 : decode cX1_root 0 = .ok (.iload_n 0, 1) := by decide +kernel
theorem dX1_root_1 : decode cX1_root 1 = .ok (.iconst 1, 1) := by decide +kernel
theorem dX1_root_2 : decode cX1_root 2 = .ok (.if_icmp .lt 8, 3) := by decide +kernel
theorem dX1_root_5 : decode cX1_root 5 = .ok (.iload_n 1, 1) := by decide +kernel
theorem dX1_root_6 : decode cX1_root 6 = .ok (.iconst 1, 1) := by decide +kernel
theorem dX1_root_7 : decode cX1_root 7 = .ok (.if_icmp .ge 5, 3) := by decide +kernel
theorem dX1_root_10 : decode cX1_root 10 = .ok (.iconst 0, 1) := by decide +kernel
theorem dX1_root_11 : decode cX1_root 11 = .ok (.ireturn, 1) := by decide +kernel
theorem dX1_root_12 : decode cX1_root 12 = .ok (.ldc2_w 11, 3) := by decide +kernel
theorem dX1_root_15 : decode cX1_root 15 = .ok (.iload_n 1, 1) := by decide +kernel
theorem dX1_root_16 : decode cX1_root 16 = .ok (.i2l, 1) := by decide +kernel
theorem dX1_root_17 : decode cX1_root 17 = .ok (.lmul, 1) := by decide +kernel
theorem dX1_root_18 : decode cX1_root 18 = .ok (.iload_n 0, 1) := by decide +kernel
theorem dX1_root_19 : decode cX1_root 19 = .ok (.i2l, 1) := by decide +kernel
theorem dX1_root_20 : decode cX1_root 20 = .ok (.ldiv, 1) := by decide +kernel
theorem dX1_root_21 : decode cX1_root 21 = .ok (.lstore_n 3, 1) := by decide +kernel
theorem dX1_root_22 : decode cX1_root 22 = .ok (.iload_n 2, 1) := by decide +kernel
theorem dX1_root_23 : decode cX1_root 23 = .ok (.i2l, 1) := by decide +kernel
theorem dX1_root_24 : decode cX1_root 24 = .ok (.lstore 5, 2) := by decide +kernel
theorem dX1_root_26 : decode cX1_root 26 = .ok (.iconst 0, 1) := by decide +kernel
theorem dX1_root_27 : decode cX1_root 27 = .ok (.istore 7, 2) := by decide +kernel
theorem dX1_root_29 : decode cX1_root 29 = .ok (.iload 7, 2) := by decide +kernel
theorem dX1_root_31 : decode cX1_root 31 = .ok (.bipush 64, 2) := by decide +kernel
theorem dX1_root_33 : decode cX1_root 33 = .ok (.if_icmp .ge 44, 3) := by decide +kernel
theorem dX1_root_36 : decode cX1_root 36 = .ok (.lload 5, 2) := by decide +kernel
theorem dX1_root_38 : decode cX1_root 38 = .ok (.lconst 0, 1) := by decide +kernel
theorem dX1_root_39 : decode cX1_root 39 = .ok (.lcmp, 1) := by decide +kernel
theorem dX1_root_40 : decode cX1_root 40 = .ok (.ifCond .le 37, 3) := by decide +kernel
theorem dX1_root_43 : decode cX1_root 43 = .ok (.lload 5, 2) := by decide +kernel
theorem dX1_root_45 : decode cX1_root 45 = .ok (.lload_n 3, 1) := by decide +kernel
theorem dX1_root_46 : decode cX1_root 46 = .ok (.lload 5, 2) := by decide +kernel
theorem dX1_root_48 : decode cX1_root 48 = .ok (.ldiv, 1) := by decide +kernel
theorem dX1_root_49 : decode cX1_root 49 = .ok (.ladd, 1) := by decide +kernel
theorem dX1_root_50 : decode cX1_root 50 = .ok (.ldc2_w 13, 3) := by decide +kernel
theorem dX1_root_53 : decode cX1_root 53 = .ok (.ldiv, 1) := by decide +kernel
theorem dX1_root_54 : decode cX1_root 54 = .ok (.lstore 8, 2) := by decide +kernel
theorem dX1_root_56 : decode cX1_root 56 = .ok (.lload 8, 2) := by decide +kernel
theorem dX1_root_58 : decode cX1_root 58 = .ok (.lload 5, 2) := by decide +kernel
theorem dX1_root_60 : decode cX1_root 60 = .ok (.lcmp, 1) := by decide +kernel
theorem dX1_root_61 : decode cX1_root 61 = .ok (.ifCond .lt 6, 3) := by decide +kernel
theorem dX1_root_64 : decode cX1_root 64 = .ok (.goto 13, 3) := by decide +kernel
theorem dX1_root_67 : decode cX1_root 67 = .ok (.lload 8, 2) := by decide +kernel
theorem dX1_root_69 : decode cX1_root 69 = .ok (.lstore 5, 2) := by decide +kernel
theorem dX1_root_71 : decode cX1_root 71 = .ok (.iinc 7 1, 3) := by decide +kernel
theorem dX1_root_74 : decode cX1_root 74 = .ok (.goto (-45), 3) := by decide +kernel
theorem dX1_root_77 : decode cX1_root 77 = .ok (.lload 5, 2) := by decide +kernel
theorem dX1_root_79 : decode cX1_root 79 = .ok (.l2i, 1) := by decide +kernel
theorem dX1_root_80 : decode cX1_root 80 = .ok (.ireturn, 1) := by decide +kernel
theorem dX1_rootAfter_0 : decode cX1_rootAfter 0 = .ok (.iload_n 1, 1) := by decide +kernel
theorem dX1_rootAfter_1 : decode cX1_rootAfter 1 = .ok (.iconst 1, 1) := by decide +kernel
theorem dX1_rootAfter_2 : decode cX1_rootAfter 2 = .ok (.if_icmp .ge 8, 3) := by decide +kernel
theorem dX1_rootAfter_5 : decode cX1_rootAfter 5 = .ok (.ldc 15, 2) := by decide +kernel
theorem dX1_rootAfter_7 : decode cX1_rootAfter 7 = .ok (.goto 14, 3) := by decide +kernel
theorem dX1_rootAfter_10 : decode cX1_rootAfter 10 = .ok (.iload_n 2, 1) := by decide +kernel
theorem dX1_rootAfter_11 : decode cX1_rootAfter 11 = .ok (.iconst 1, 1) := by decide +kernel
theorem dX1_rootAfter_12 : decode cX1_rootAfter 12 = .ok (.iadd, 1) := by decide +kernel
theorem dX1_rootAfter_13 : decode cX1_rootAfter 13 = .ok (.iload_n 2, 1) := by decide +kernel
theorem dX1_rootAfter_14 : decode cX1_rootAfter 14 = .ok (.iconst 1, 1) := by decide +kernel
theorem dX1_rootAfter_15 : decode cX1_rootAfter 15 = .ok (.iadd, 1) := by decide +kernel
theorem dX1_rootAfter_16 : decode cX1_rootAfter 16 = .ok (.iconst 2, 1) := by decide +kernel
theorem dX1_rootAfter_17 : decode cX1_rootAfter 17 = .ok (.iload_n 1, 1) := by decide +kernel
theorem dX1_rootAfter_18 : decode cX1_rootAfter 18 = .ok (.imul, 1) := by decide +kernel
theorem dX1_rootAfter_19 : decode cX1_rootAfter 19 = .ok (.idiv, 1) := by decide +kernel
theorem dX1_rootAfter_20 : decode cX1_rootAfter 20 = .ok (.iadd, 1) := by decide +kernel
theorem dX1_rootAfter_21 : decode cX1_rootAfter 21 = .ok (.istore_n 3, 1) := by decide +kernel
theorem dX1_rootAfter_22 : decode cX1_rootAfter 22 = .ok (.iload_n 0, 1) := by decide +kernel
theorem dX1_rootAfter_23 : decode cX1_rootAfter 23 = .ok (.iload_n 1, 1) := by decide +kernel
theorem dX1_rootAfter_24 : decode cX1_rootAfter 24 = .ok (.iconst 1, 1) := by decide +kernel
theorem dX1_rootAfter_25 : decode cX1_rootAfter 25 = .ok (.iadd, 1) := by decide +kernel
theorem dX1_rootAfter_26 : decode cX1_rootAfter 26 = .ok (.iload_n 3, 1) := by decide +kernel
theorem dX1_rootAfter_27 : decode cX1_rootAfter 27 = .ok (.invokestatic 16, 3) := by decide +kernel
theorem dX1_rootAfter_30 : decode cX1_rootAfter 30 = .ok (.ireturn, 1) := by decide +kernel
theorem dX1_cruiseInterval_0 : decode cX1_cruiseInterval 0 = .ok (.iload_n 0, 1) := by decide +kernel
theorem dX1_cruiseInterval_1 : decode cX1_cruiseInterval 1 = .ok (.iconst 1, 1) := by decide +kernel
theorem dX1_cruiseInterval_2 : decode cX1_cruiseInterval 2 = .ok (.if_icmp .ge 9, 3) := by decide +kernel
theorem dX1_cruiseInterval_5 : decode cX1_cruiseInterval 5 = .ok (.sipush 10000, 3) := by decide +kernel
theorem dX1_cruiseInterval_8 : decode cX1_cruiseInterval 8 = .ok (.goto 12, 3) := by decide +kernel
theorem dX1_cruiseInterval_11 : decode cX1_cruiseInterval 11 = .ok (.sipush 10000, 3) := by decide +kernel
theorem dX1_cruiseInterval_14 : decode cX1_cruiseInterval 14 = .ok (.iload_n 0, 1) := by decide +kernel
theorem dX1_cruiseInterval_15 : decode cX1_cruiseInterval 15 = .ok (.iadd, 1) := by decide +kernel
theorem dX1_cruiseInterval_16 : decode cX1_cruiseInterval 16 = .ok (.iconst 1, 1) := by decide +kernel
theorem dX1_cruiseInterval_17 : decode cX1_cruiseInterval 17 = .ok (.isub, 1) := by decide +kernel
theorem dX1_cruiseInterval_18 : decode cX1_cruiseInterval 18 = .ok (.iload_n 0, 1) := by decide +kernel
theorem dX1_cruiseInterval_19 : decode cX1_cruiseInterval 19 = .ok (.idiv, 1) := by decide +kernel
theorem dX1_cruiseInterval_20 : decode cX1_cruiseInterval 20 = .ok (.ireturn, 1) := by decide +kernel
theorem dX1_rampAtLeast_0 : decode cX1_rampAtLeast 0 = .ok (.ldc2_w 20, 3) := by decide +kernel
theorem dX1_rampAtLeast_3 : decode cX1_rampAtLeast 3 = .ok (.iload_n 0, 1) := by decide +kernel
theorem dX1_rampAtLeast_4 : decode cX1_rampAtLeast 4 = .ok (.i2l, 1) := by decide +kernel
theorem dX1_rampAtLeast_5 : decode cX1_rampAtLeast 5 = .ok (.lmul, 1) := by decide +kernel
theorem dX1_rampAtLeast_6 : decode cX1_rampAtLeast 6 = .ok (.iload_n 1, 1) := by decide +kernel
theorem dX1_rampAtLeast_7 : decode cX1_rampAtLeast 7 = .ok (.iconst 1, 1) := by decide +kernel
theorem dX1_rampAtLeast_8 : decode cX1_rampAtLeast 8 = .ok (.iadd, 1) := by decide +kernel
theorem dX1_rampAtLeast_9 : decode cX1_rampAtLeast 9 = .ok (.i2l, 1) := by decide +kernel
theorem dX1_rampAtLeast_10 : decode cX1_rampAtLeast 10 = .ok (.lmul, 1) := by decide +kernel
theorem dX1_rampAtLeast_11 : decode cX1_rampAtLeast 11 = .ok (.iload_n 1, 1) := by decide +kernel
theorem dX1_rampAtLeast_12 : decode cX1_rampAtLeast 12 = .ok (.iconst 1, 1) := by decide +kernel
theorem dX1_rampAtLeast_13 : decode cX1_rampAtLeast 13 = .ok (.iadd, 1) := by decide +kernel
theorem dX1_rampAtLeast_14 : decode cX1_rampAtLeast 14 = .ok (.i2l, 1) := by decide +kernel
theorem dX1_rampAtLeast_15 : decode cX1_rampAtLeast 15 = .ok (.lmul, 1) := by decide +kernel
theorem dX1_rampAtLeast_16 : decode cX1_rampAtLeast 16 = .ok (.lstore_n 3, 1) := by decide +kernel
theorem dX1_rampAtLeast_17 : decode cX1_rampAtLeast 17 = .ok (.lload_n 3, 1) := by decide +kernel
theorem dX1_rampAtLeast_18 : decode cX1_rampAtLeast 18 = .ok (.lconst 1, 1) := by decide +kernel
theorem dX1_rampAtLeast_19 : decode cX1_rampAtLeast 19 = .ok (.lcmp, 1) := by decide +kernel
theorem dX1_rampAtLeast_20 : decode cX1_rampAtLeast 20 = .ok (.ifCond .ge 7, 3) := by decide +kernel
theorem dX1_rampAtLeast_23 : decode cX1_rampAtLeast 23 = .ok (.iconst 0, 1) := by decide +kernel
theorem dX1_rampAtLeast_24 : decode cX1_rampAtLeast 24 = .ok (.goto 14, 3) := by decide +kernel
theorem dX1_rampAtLeast_27 : decode cX1_rampAtLeast 27 = .ok (.iload_n 2, 1) := by decide +kernel
theorem dX1_rampAtLeast_28 : decode cX1_rampAtLeast 28 = .ok (.i2l, 1) := by decide +kernel
theorem dX1_rampAtLeast_29 : decode cX1_rampAtLeast 29 = .ok (.ldc2_w 11, 3) := by decide +kernel
theorem dX1_rampAtLeast_32 : decode cX1_rampAtLeast 32 = .ok (.lload_n 3, 1) := by decide +kernel
theorem dX1_rampAtLeast_33 : decode cX1_rampAtLeast 33 = .ok (.ldiv, 1) := by decide +kernel
theorem dX1_rampAtLeast_34 : decode cX1_rampAtLeast 34 = .ok (.invokestatic 22, 3) := by decide +kernel
theorem dX1_rampAtLeast_37 : decode cX1_rampAtLeast 37 = .ok (.l2i, 1) := by decide +kernel
theorem dX1_rampAtLeast_38 : decode cX1_rampAtLeast 38 = .ok (.ireturn, 1) := by decide +kernel
theorem dX1_ticksOfMove_0 : decode cX1_ticksOfMove 0 = .ok (.iload_n 2, 1) := by decide +kernel
theorem dX1_ticksOfMove_1 : decode cX1_ticksOfMove 1 = .ok (.iconst 2, 1) := by decide +kernel
theorem dX1_ticksOfMove_2 : decode cX1_ticksOfMove 2 = .ok (.idiv, 1) := by decide +kernel
theorem dX1_ticksOfMove_3 : decode cX1_ticksOfMove 3 = .ok (.istore_n 3, 1) := by decide +kernel
theorem dX1_ticksOfMove_4 : decode cX1_ticksOfMove 4 = .ok (.iload_n 0, 1) := by decide +kernel
theorem dX1_ticksOfMove_5 : decode cX1_ticksOfMove 5 = .ok (.iload_n 1, 1) := by decide +kernel
theorem dX1_ticksOfMove_6 : decode cX1_ticksOfMove 6 = .ok (.iload_n 3, 1) := by decide +kernel
theorem dX1_ticksOfMove_7 : decode cX1_ticksOfMove 7 = .ok (.invokestatic 28, 3) := by decide +kernel
theorem dX1_ticksOfMove_10 : decode cX1_ticksOfMove 10 = .ok (.istore 4, 2) := by decide +kernel
theorem dX1_ticksOfMove_12 : decode cX1_ticksOfMove 12 = .ok (.iload_n 0, 1) := by decide +kernel
theorem dX1_ticksOfMove_13 : decode cX1_ticksOfMove 13 = .ok (.iload 4, 2) := by decide +kernel
theorem dX1_ticksOfMove_15 : decode cX1_ticksOfMove 15 = .ok (.ldc 15, 2) := by decide +kernel
theorem dX1_ticksOfMove_17 : decode cX1_ticksOfMove 17 = .ok (.invokestatic 16, 3) := by decide +kernel
theorem dX1_ticksOfMove_20 : decode cX1_ticksOfMove 20 = .ok (.istore 5, 2) := by decide +kernel
theorem dX1_ticksOfMove_22 : decode cX1_ticksOfMove 22 = .ok (.iload_n 0, 1) := by decide +kernel
theorem dX1_ticksOfMove_23 : decode cX1_ticksOfMove 23 = .ok (.iload 4, 2) := by decide +kernel
theorem dX1_ticksOfMove_25 : decode cX1_ticksOfMove 25 = .ok (.iload 5, 2) := by decide +kernel
theorem dX1_ticksOfMove_27 : decode cX1_ticksOfMove 27 = .ok (.invokestatic 31, 3) := by decide +kernel
theorem dX1_ticksOfMove_30 : decode cX1_ticksOfMove 30 = .ok (.istore 6, 2) := by decide +kernel
theorem dX1_ticksOfMove_32 : decode cX1_ticksOfMove 32 = .ok (.iload 4, 2) := by decide +kernel
theorem dX1_ticksOfMove_34 : decode cX1_ticksOfMove 34 = .ok (.iload_n 3, 1) := by decide +kernel
theorem dX1_ticksOfMove_35 : decode cX1_ticksOfMove 35 = .ok (.if_icmp .ge 32, 3) := by decide +kernel
theorem dX1_ticksOfMove_38 : decode cX1_ticksOfMove 38 = .ok (.iload 6, 2) := by decide +kernel
theorem dX1_ticksOfMove_40 : decode cX1_ticksOfMove 40 = .ok (.iload 5, 2) := by decide +kernel
theorem dX1_ticksOfMove_42 : decode cX1_ticksOfMove 42 = .ok (.isub, 1) := by decide +kernel
theorem dX1_ticksOfMove_43 : decode cX1_ticksOfMove 43 = .ok (.iload_n 1, 1) := by decide +kernel
theorem dX1_ticksOfMove_44 : decode cX1_ticksOfMove 44 = .ok (.if_icmp .le 23, 3) := by decide +kernel
theorem dX1_ticksOfMove_47 : decode cX1_ticksOfMove 47 = .ok (.iinc 4 1, 3) := by decide +kernel
theorem dX1_ticksOfMove_50 : decode cX1_ticksOfMove 50 = .ok (.iload 6, 2) := by decide +kernel
theorem dX1_ticksOfMove_52 : decode cX1_ticksOfMove 52 = .ok (.istore 5, 2) := by decide +kernel
theorem dX1_ticksOfMove_54 : decode cX1_ticksOfMove 54 = .ok (.iload_n 0, 1) := by decide +kernel
theorem dX1_ticksOfMove_55 : decode cX1_ticksOfMove 55 = .ok (.iload 4, 2) := by decide +kernel
theorem dX1_ticksOfMove_57 : decode cX1_ticksOfMove 57 = .ok (.iload 5, 2) := by decide +kernel
theorem dX1_ticksOfMove_59 : decode cX1_ticksOfMove 59 = .ok (.invokestatic 31, 3) := by decide +kernel
theorem dX1_ticksOfMove_62 : decode cX1_ticksOfMove 62 = .ok (.istore 6, 2) := by decide +kernel
theorem dX1_ticksOfMove_64 : decode cX1_ticksOfMove 64 = .ok (.goto (-32), 3) := by decide +kernel
theorem dX1_ticksOfMove_67 : decode cX1_ticksOfMove 67 = .ok (.iconst 2, 1) := by decide +kernel
theorem dX1_ticksOfMove_68 : decode cX1_ticksOfMove 68 = .ok (.iload 5, 2) := by decide +kernel
theorem dX1_ticksOfMove_70 : decode cX1_ticksOfMove 70 = .ok (.imul, 1) := by decide +kernel
theorem dX1_ticksOfMove_71 : decode cX1_ticksOfMove 71 = .ok (.iload_n 2, 1) := by decide +kernel
theorem dX1_ticksOfMove_72 : decode cX1_ticksOfMove 72 = .ok (.iconst 2, 1) := by decide +kernel
theorem dX1_ticksOfMove_73 : decode cX1_ticksOfMove 73 = .ok (.iload 4, 2) := by decide +kernel
theorem dX1_ticksOfMove_75 : decode cX1_ticksOfMove 75 = .ok (.imul, 1) := by decide +kernel
theorem dX1_ticksOfMove_76 : decode cX1_ticksOfMove 76 = .ok (.isub, 1) := by decide +kernel
theorem dX1_ticksOfMove_77 : decode cX1_ticksOfMove 77 = .ok (.iload 6, 2) := by decide +kernel
theorem dX1_ticksOfMove_79 : decode cX1_ticksOfMove 79 = .ok (.iload 5, 2) := by decide +kernel
theorem dX1_ticksOfMove_81 : decode cX1_ticksOfMove 81 = .ok (.isub, 1) := by decide +kernel
theorem dX1_ticksOfMove_82 : decode cX1_ticksOfMove 82 = .ok (.iload_n 1, 1) := by decide +kernel
theorem dX1_ticksOfMove_83 : decode cX1_ticksOfMove 83 = .ok (.invokestatic 34, 3) := by decide +kernel
theorem dX1_ticksOfMove_86 : decode cX1_ticksOfMove 86 = .ok (.imul, 1) := by decide +kernel
theorem dX1_ticksOfMove_87 : decode cX1_ticksOfMove 87 = .ok (.iadd, 1) := by decide +kernel
theorem dX1_ticksOfMove_88 : decode cX1_ticksOfMove 88 = .ok (.ireturn, 1) := by decide +kernel
theorem dX1_leastCandidate_0 : decode cX1_leastCandidate 0 = .ok (.iload_n 0, 1) := by decide +kernel
theorem dX1_leastCandidate_1 : decode cX1_leastCandidate 1 = .ok (.iconst 1, 1) := by decide +kernel
theorem dX1_leastCandidate_2 : decode cX1_leastCandidate 2 = .ok (.if_icmp .ge 5, 3) := by decide +kernel
theorem dX1_leastCandidate_5 : decode cX1_leastCandidate 5 = .ok (.iconst 1, 1) := by decide +kernel
theorem dX1_leastCandidate_6 : decode cX1_leastCandidate 6 = .ok (.ireturn, 1) := by decide +kernel
theorem dX1_leastCandidate_7 : decode cX1_leastCandidate 7 = .ok (.iload_n 2, 1) := by decide +kernel
theorem dX1_leastCandidate_8 : decode cX1_leastCandidate 8 = .ok (.i2l, 1) := by decide +kernel
theorem dX1_leastCandidate_9 : decode cX1_leastCandidate 9 = .ok (.iload_n 0, 1) := by decide +kernel
theorem dX1_leastCandidate_10 : decode cX1_leastCandidate 10 = .ok (.iconst 1, 1) := by decide +kernel
theorem dX1_leastCandidate_11 : decode cX1_leastCandidate 11 = .ok (.iadd, 1) := by decide +kernel
theorem dX1_leastCandidate_12 : decode cX1_leastCandidate 12 = .ok (.i2l, 1) := by decide +kernel
theorem dX1_leastCandidate_13 : decode cX1_leastCandidate 13 = .ok (.lmul, 1) := by decide +kernel
theorem dX1_leastCandidate_14 : decode cX1_leastCandidate 14 = .ok (.iconst 2, 1) := by decide +kernel
theorem dX1_leastCandidate_15 : decode cX1_leastCandidate 15 = .ok (.iload_n 0, 1) := by decide +kernel
theorem dX1_leastCandidate_16 : decode cX1_leastCandidate 16 = .ok (.imul, 1) := by decide +kernel
theorem dX1_leastCandidate_17 : decode cX1_leastCandidate 17 = .ok (.i2l, 1) := by decide +kernel
theorem dX1_leastCandidate_18 : decode cX1_leastCandidate 18 = .ok (.ldiv, 1) := by decide +kernel
theorem dX1_leastCandidate_19 : decode cX1_leastCandidate 19 = .ok (.lconst 1, 1) := by decide +kernel
theorem dX1_leastCandidate_20 : decode cX1_leastCandidate 20 = .ok (.ladd, 1) := by decide +kernel
theorem dX1_leastCandidate_21 : decode cX1_leastCandidate 21 = .ok (.lstore_n 3, 1) := by decide +kernel
theorem dX1_leastCandidate_22 : decode cX1_leastCandidate 22 = .ok (.lload_n 3, 1) := by decide +kernel
theorem dX1_leastCandidate_23 : decode cX1_leastCandidate 23 = .ok (.lload_n 3, 1) := by decide +kernel
theorem dX1_leastCandidate_24 : decode cX1_leastCandidate 24 = .ok (.lmul, 1) := by decide +kernel
theorem dX1_leastCandidate_25 : decode cX1_leastCandidate 25 = .ok (.lstore 5, 2) := by decide +kernel
theorem dX1_leastCandidate_27 : decode cX1_leastCandidate 27 = .ok (.lload 5, 2) := by decide +kernel
theorem dX1_leastCandidate_29 : decode cX1_leastCandidate 29 = .ok (.lconst 1, 1) := by decide +kernel
theorem dX1_leastCandidate_30 : decode cX1_leastCandidate 30 = .ok (.lcmp, 1) := by decide +kernel
theorem dX1_leastCandidate_31 : decode cX1_leastCandidate 31 = .ok (.ifCond .ge 7, 3) := by decide +kernel
theorem dX1_leastCandidate_34 : decode cX1_leastCandidate 34 = .ok (.iconst 1, 1) := by decide +kernel
theorem dX1_leastCandidate_35 : decode cX1_leastCandidate 35 = .ok (.goto 23, 3) := by decide +kernel
theorem dX1_leastCandidate_38 : decode cX1_leastCandidate 38 = .ok (.ldc2_w 38, 3) := by decide +kernel
theorem dX1_leastCandidate_41 : decode cX1_leastCandidate 41 = .ok (.ldc2_w 11, 3) := by decide +kernel
theorem dX1_leastCandidate_44 : decode cX1_leastCandidate 44 = .ok (.iload_n 1, 1) := by decide +kernel
theorem dX1_leastCandidate_45 : decode cX1_leastCandidate 45 = .ok (.iconst 2, 1) := by decide +kernel
theorem dX1_leastCandidate_46 : decode cX1_leastCandidate 46 = .ok (.idiv, 1) := by decide +kernel
theorem dX1_leastCandidate_47 : decode cX1_leastCandidate 47 = .ok (.i2l, 1) := by decide +kernel
theorem dX1_leastCandidate_48 : decode cX1_leastCandidate 48 = .ok (.lmul, 1) := by decide +kernel
theorem dX1_leastCandidate_49 : decode cX1_leastCandidate 49 = .ok (.lload 5, 2) := by decide +kernel
theorem dX1_leastCandidate_51 : decode cX1_leastCandidate 51 = .ok (.ldiv, 1) := by decide +kernel
theorem dX1_leastCandidate_52 : decode cX1_leastCandidate 52 = .ok (.invokestatic 22, 3) := by decide +kernel
theorem dX1_leastCandidate_55 : decode cX1_leastCandidate 55 = .ok (.l2i, 1) := by decide +kernel
theorem dX1_leastCandidate_56 : decode cX1_leastCandidate 56 = .ok (.iconst 1, 1) := by decide +kernel
theorem dX1_leastCandidate_57 : decode cX1_leastCandidate 57 = .ok (.iadd, 1) := by decide +kernel
theorem dX1_leastCandidate_58 : decode cX1_leastCandidate 58 = .ok (.ireturn, 1) := by decide +kernel
theorem dX2_init_0 : decode cX2_init 0 = .ok (.aload_n 0, 1) := by decide +kernel
theorem dX2_init_1 : decode cX2_init 1 = .ok (.invokespecial 3, 3) := by decide +kernel
theorem dX2_init_4 : decode cX2_init 4 = .ok (.aload_n 0, 1) := by decide +kernel
theorem dX2_init_5 : decode cX2_init 5 = .ok (.sipush 1001, 3) := by decide +kernel
theorem dX2_init_8 : decode cX2_init 8 = .ok (.newarray .int, 2) := by decide +kernel
theorem dX2_init_10 : decode cX2_init 10 = .ok (.putfield 9, 3) := by decide +kernel
theorem dX2_init_13 : decode cX2_init 13 = .ok (.return_, 1) := by decide +kernel
theorem dX2_prepare_0 : decode cX2_prepare 0 = .ok (.aload_n 0, 1) := by decide +kernel
theorem dX2_prepare_1 : decode cX2_prepare 1 = .ok (.getfield 15, 3) := by decide +kernel
theorem dX2_prepare_4 : decode cX2_prepare 4 = .ok (.iload_n 1, 1) := by decide +kernel
theorem dX2_prepare_5 : decode cX2_prepare 5 = .ok (.if_icmp .ne 12, 3) := by decide +kernel
theorem dX2_prepare_8 : decode cX2_prepare 8 = .ok (.aload_n 0, 1) := by decide +kernel
theorem dX2_prepare_9 : decode cX2_prepare 9 = .ok (.getfield 19, 3) := by decide +kernel
theorem dX2_prepare_12 : decode cX2_prepare 12 = .ok (.iload_n 2, 1) := by decide +kernel
theorem dX2_prepare_13 : decode cX2_prepare 13 = .ok (.if_icmp .ne 4, 3) := by decide +kernel
theorem dX2_prepare_16 : decode cX2_prepare 16 = .ok (.return_, 1) := by decide +kernel
theorem dX2_prepare_17 : decode cX2_prepare 17 = .ok (.aload_n 0, 1) := by decide +kernel
theorem dX2_prepare_18 : decode cX2_prepare 18 = .ok (.getfield 15, 3) := by decide +kernel
theorem dX2_prepare_21 : decode cX2_prepare 21 = .ok (.iload_n 1, 1) := by decide +kernel
theorem dX2_prepare_22 : decode cX2_prepare 22 = .ok (.if_icmp .eq 12, 3) := by decide +kernel
theorem dX2_prepare_25 : decode cX2_prepare 25 = .ok (.aload_n 0, 1) := by decide +kernel
theorem dX2_prepare_26 : decode cX2_prepare 26 = .ok (.iload_n 1, 1) := by decide +kernel
theorem dX2_prepare_27 : decode cX2_prepare 27 = .ok (.putfield 15, 3) := by decide +kernel
theorem dX2_prepare_30 : decode cX2_prepare 30 = .ok (.aload_n 0, 1) := by decide +kernel
theorem dX2_prepare_31 : decode cX2_prepare 31 = .ok (.invokevirtual 22, 3) := by decide +kernel
theorem dX2_prepare_34 : decode cX2_prepare 34 = .ok (.aload_n 0, 1) := by decide +kernel
theorem dX2_prepare_35 : decode cX2_prepare 35 = .ok (.iload_n 2, 1) := by decide +kernel
theorem dX2_prepare_36 : decode cX2_prepare 36 = .ok (.putfield 19, 3) := by decide +kernel
theorem dX2_prepare_39 : decode cX2_prepare 39 = .ok (.aload_n 0, 1) := by decide +kernel
theorem dX2_prepare_40 : decode cX2_prepare 40 = .ok (.aload_n 0, 1) := by decide +kernel
theorem dX2_prepare_41 : decode cX2_prepare 41 = .ok (.getfield 19, 3) := by decide +kernel
theorem dX2_prepare_44 : decode cX2_prepare 44 = .ok (.invokestatic 25, 3) := by decide +kernel
theorem dX2_prepare_47 : decode cX2_prepare 47 = .ok (.putfield 31, 3) := by decide +kernel
theorem dX2_prepare_50 : decode cX2_prepare 50 = .ok (.aload_n 0, 1) := by decide +kernel
theorem dX2_prepare_51 : decode cX2_prepare 51 = .ok (.aload_n 0, 1) := by decide +kernel
theorem dX2_prepare_52 : decode cX2_prepare 52 = .ok (.invokevirtual 34, 3) := by decide +kernel
theorem dX2_prepare_55 : decode cX2_prepare 55 = .ok (.putfield 38, 3) := by decide +kernel
theorem dX2_prepare_58 : decode cX2_prepare 58 = .ok (.return_, 1) := by decide +kernel
theorem dX2_fillRoots_0 : decode cX2_fillRoots 0 = .ok (.iconst 0, 1) := by decide +kernel
theorem dX2_fillRoots_1 : decode cX2_fillRoots 1 = .ok (.istore_n 1, 1) := by decide +kernel
theorem dX2_fillRoots_2 : decode cX2_fillRoots 2 = .ok (.iload_n 1, 1) := by decide +kernel
theorem dX2_fillRoots_3 : decode cX2_fillRoots 3 = .ok (.iconst 1, 1) := by decide +kernel
theorem dX2_fillRoots_4 : decode cX2_fillRoots 4 = .ok (.iadd, 1) := by decide +kernel
theorem dX2_fillRoots_5 : decode cX2_fillRoots 5 = .ok (.aload_n 0, 1) := by decide +kernel
theorem dX2_fillRoots_6 : decode cX2_fillRoots 6 = .ok (.getfield 9, 3) := by decide +kernel
theorem dX2_fillRoots_9 : decode cX2_fillRoots 9 = .ok (.arraylength, 1) := by decide +kernel
theorem dX2_fillRoots_10 : decode cX2_fillRoots 10 = .ok (.if_icmp .ge 31, 3) := by decide +kernel
theorem dX2_fillRoots_13 : decode cX2_fillRoots 13 = .ok (.aload_n 0, 1) := by decide +kernel
theorem dX2_fillRoots_14 : decode cX2_fillRoots 14 = .ok (.getfield 9, 3) := by decide +kernel
theorem dX2_fillRoots_17 : decode cX2_fillRoots 17 = .ok (.iload_n 1, 1) := by decide +kernel
theorem dX2_fillRoots_18 : decode cX2_fillRoots 18 = .ok (.iconst 1, 1) := by decide +kernel
theorem dX2_fillRoots_19 : decode cX2_fillRoots 19 = .ok (.iadd, 1) := by decide +kernel
theorem dX2_fillRoots_20 : decode cX2_fillRoots 20 = .ok (.aload_n 0, 1) := by decide +kernel
theorem dX2_fillRoots_21 : decode cX2_fillRoots 21 = .ok (.getfield 15, 3) := by decide +kernel
theorem dX2_fillRoots_24 : decode cX2_fillRoots 24 = .ok (.iload_n 1, 1) := by decide +kernel
theorem dX2_fillRoots_25 : decode cX2_fillRoots 25 = .ok (.aload_n 0, 1) := by decide +kernel
theorem dX2_fillRoots_26 : decode cX2_fillRoots 26 = .ok (.getfield 9, 3) := by decide +kernel
theorem dX2_fillRoots_29 : decode cX2_fillRoots 29 = .ok (.iload_n 1, 1) := by decide +kernel
theorem dX2_fillRoots_30 : decode cX2_fillRoots 30 = .ok (.iaload, 1) := by decide +kernel
theorem dX2_fillRoots_31 : decode cX2_fillRoots 31 = .ok (.invokestatic 41, 3) := by decide +kernel
theorem dX2_fillRoots_34 : decode cX2_fillRoots 34 = .ok (.iastore, 1) := by decide +kernel
theorem dX2_fillRoots_35 : decode cX2_fillRoots 35 = .ok (.iinc 1 1, 3) := by decide +kernel
theorem dX2_fillRoots_38 : decode cX2_fillRoots 38 = .ok (.goto (-36), 3) := by decide +kernel
theorem dX2_fillRoots_41 : decode cX2_fillRoots 41 = .ok (.return_, 1) := by decide +kernel
theorem dX2_findTop_0 : decode cX2_findTop 0 = .ok (.aload_n 0, 1) := by decide +kernel
theorem dX2_findTop_1 : decode cX2_findTop 1 = .ok (.getfield 15, 3) := by decide +kernel
theorem dX2_findTop_4 : decode cX2_findTop 4 = .ok (.aload_n 0, 1) := by decide +kernel
theorem dX2_findTop_5 : decode cX2_findTop 5 = .ok (.getfield 31, 3) := by decide +kernel
theorem dX2_findTop_8 : decode cX2_findTop 8 = .ok (.sipush 999, 3) := by decide +kernel
theorem dX2_findTop_11 : decode cX2_findTop 11 = .ok (.invokestatic 45, 3) := by decide +kernel
theorem dX2_findTop_14 : decode cX2_findTop 14 = .ok (.istore_n 1, 1) := by decide +kernel
theorem dX2_findTop_15 : decode cX2_findTop 15 = .ok (.iload_n 1, 1) := by decide +kernel
theorem dX2_findTop_16 : decode cX2_findTop 16 = .ok (.sipush 999, 3) := by decide +kernel
theorem dX2_findTop_19 : decode cX2_findTop 19 = .ok (.if_icmp .ge 21, 3) := by decide +kernel
theorem dX2_findTop_22 : decode cX2_findTop 22 = .ok (.aload_n 0, 1) := by decide +kernel
theorem dX2_findTop_23 : decode cX2_findTop 23 = .ok (.iload_n 1, 1) := by decide +kernel
theorem dX2_findTop_24 : decode cX2_findTop 24 = .ok (.invokevirtual 48, 3) := by decide +kernel
theorem dX2_findTop_27 : decode cX2_findTop 27 = .ok (.aload_n 0, 1) := by decide +kernel
theorem dX2_findTop_28 : decode cX2_findTop 28 = .ok (.getfield 31, 3) := by decide +kernel
theorem dX2_findTop_31 : decode cX2_findTop 31 = .ok (.if_icmp .le 9, 3) := by decide +kernel
theorem dX2_findTop_34 : decode cX2_findTop 34 = .ok (.iinc 1 1, 3) := by decide +kernel
theorem dX2_findTop_37 : decode cX2_findTop 37 = .ok (.goto (-22), 3) := by decide +kernel
theorem dX2_findTop_40 : decode cX2_findTop 40 = .ok (.iload_n 1, 1) := by decide +kernel
theorem dX2_findTop_41 : decode cX2_findTop 41 = .ok (.ireturn, 1) := by decide +kernel
theorem dX2_rampInterval_0 : decode cX2_rampInterval 0 = .ok (.iload_n 1, 1) := by decide +kernel
theorem dX2_rampInterval_1 : decode cX2_rampInterval 1 = .ok (.ifCond .lt 14, 3) := by decide +kernel
theorem dX2_rampInterval_4 : decode cX2_rampInterval 4 = .ok (.iload_n 1, 1) := by decide +kernel
theorem dX2_rampInterval_5 : decode cX2_rampInterval 5 = .ok (.iconst 1, 1) := by decide +kernel
theorem dX2_rampInterval_6 : decode cX2_rampInterval 6 = .ok (.iadd, 1) := by decide +kernel
theorem dX2_rampInterval_7 : decode cX2_rampInterval 7 = .ok (.aload_n 0, 1) := by decide +kernel
theorem dX2_rampInterval_8 : decode cX2_rampInterval 8 = .ok (.getfield 9, 3) := by decide +kernel
theorem dX2_rampInterval_11 : decode cX2_rampInterval 11 = .ok (.arraylength, 1) := by decide +kernel
theorem dX2_rampInterval_12 : decode cX2_rampInterval 12 = .ok (.if_icmp .lt 7, 3) := by decide +kernel
theorem dX2_rampInterval_15 : decode cX2_rampInterval 15 = .ok (.iconst 0, 1) := by decide +kernel
theorem dX2_rampInterval_16 : decode cX2_rampInterval 16 = .ok (.goto 18, 3) := by decide +kernel
theorem dX2_rampInterval_19 : decode cX2_rampInterval 19 = .ok (.aload_n 0, 1) := by decide +kernel
theorem dX2_rampInterval_20 : decode cX2_rampInterval 20 = .ok (.getfield 9, 3) := by decide +kernel
theorem dX2_rampInterval_23 : decode cX2_rampInterval 23 = .ok (.iload_n 1, 1) := by decide +kernel
theorem dX2_rampInterval_24 : decode cX2_rampInterval 24 = .ok (.iconst 1, 1) := by decide +kernel
theorem dX2_rampInterval_25 : decode cX2_rampInterval 25 = .ok (.iadd, 1) := by decide +kernel
theorem dX2_rampInterval_26 : decode cX2_rampInterval 26 = .ok (.iaload, 1) := by decide +kernel
theorem dX2_rampInterval_27 : decode cX2_rampInterval 27 = .ok (.aload_n 0, 1) := by decide +kernel
theorem dX2_rampInterval_28 : decode cX2_rampInterval 28 = .ok (.getfield 9, 3) := by decide +kernel
theorem dX2_rampInterval_31 : decode cX2_rampInterval 31 = .ok (.iload_n 1, 1) := by decide +kernel
theorem dX2_rampInterval_32 : decode cX2_rampInterval 32 = .ok (.iaload, 1) := by decide +kernel
theorem dX2_rampInterval_33 : decode cX2_rampInterval 33 = .ok (.isub, 1) := by decide +kernel
theorem dX2_rampInterval_34 : decode cX2_rampInterval 34 = .ok (.ireturn, 1) := by decide +kernel
theorem dX2_intervalOf_0 : decode cX2_intervalOf 0 = .ok (.aload_n 0, 1) := by decide +kernel
theorem dX2_intervalOf_1 : decode cX2_intervalOf 1 = .ok (.iload_n 1, 1) := by decide +kernel
theorem dX2_intervalOf_2 : decode cX2_intervalOf 2 = .ok (.invokevirtual 48, 3) := by decide +kernel
theorem dX2_intervalOf_5 : decode cX2_intervalOf 5 = .ok (.aload_n 0, 1) := by decide +kernel
theorem dX2_intervalOf_6 : decode cX2_intervalOf 6 = .ok (.getfield 31, 3) := by decide +kernel
theorem dX2_intervalOf_9 : decode cX2_intervalOf 9 = .ok (.invokestatic 51, 3) := by decide +kernel
theorem dX2_intervalOf_12 : decode cX2_intervalOf 12 = .ok (.ireturn, 1) := by decide +kernel
theorem dX2_ticksOfMove_0 : decode cX2_ticksOfMove 0 = .ok (.iload_n 1, 1) := by decide +kernel
theorem dX2_ticksOfMove_1 : decode cX2_ticksOfMove 1 = .ok (.iconst 2, 1) := by decide +kernel
theorem dX2_ticksOfMove_2 : decode cX2_ticksOfMove 2 = .ok (.idiv, 1) := by decide +kernel
theorem dX2_ticksOfMove_3 : decode cX2_ticksOfMove 3 = .ok (.aload_n 0, 1) := by decide +kernel
theorem dX2_ticksOfMove_4 : decode cX2_ticksOfMove 4 = .ok (.getfield 38, 3) := by decide +kernel
theorem dX2_ticksOfMove_7 : decode cX2_ticksOfMove 7 = .ok (.invokestatic 57, 3) := by decide +kernel
theorem dX2_ticksOfMove_10 : decode cX2_ticksOfMove 10 = .ok (.istore_n 2, 1) := by decide +kernel
theorem dX2_ticksOfMove_11 : decode cX2_ticksOfMove 11 = .ok (.iload_n 2, 1) := by decide +kernel
theorem dX2_ticksOfMove_12 : decode cX2_ticksOfMove 12 = .ok (.ifCond .lt 12, 3) := by decide +kernel
theorem dX2_ticksOfMove_15 : decode cX2_ticksOfMove 15 = .ok (.iload_n 2, 1) := by decide +kernel
theorem dX2_ticksOfMove_16 : decode cX2_ticksOfMove 16 = .ok (.aload_n 0, 1) := by decide +kernel
theorem dX2_ticksOfMove_17 : decode cX2_ticksOfMove 17 = .ok (.getfield 9, 3) := by decide +kernel
theorem dX2_ticksOfMove_20 : decode cX2_ticksOfMove 20 = .ok (.arraylength, 1) := by decide +kernel
theorem dX2_ticksOfMove_21 : decode cX2_ticksOfMove 21 = .ok (.if_icmp .lt 5, 3) := by decide +kernel
theorem dX2_ticksOfMove_24 : decode cX2_ticksOfMove 24 = .ok (.iconst 0, 1) := by decide +kernel
theorem dX2_ticksOfMove_25 : decode cX2_ticksOfMove 25 = .ok (.ireturn, 1) := by decide +kernel
theorem dX2_ticksOfMove_26 : decode cX2_ticksOfMove 26 = .ok (.iconst 2, 1) := by decide +kernel
theorem dX2_ticksOfMove_27 : decode cX2_ticksOfMove 27 = .ok (.aload_n 0, 1) := by decide +kernel
theorem dX2_ticksOfMove_28 : decode cX2_ticksOfMove 28 = .ok (.getfield 9, 3) := by decide +kernel
theorem dX2_ticksOfMove_31 : decode cX2_ticksOfMove 31 = .ok (.iload_n 2, 1) := by decide +kernel
theorem dX2_ticksOfMove_32 : decode cX2_ticksOfMove 32 = .ok (.iaload, 1) := by decide +kernel
theorem dX2_ticksOfMove_33 : decode cX2_ticksOfMove 33 = .ok (.imul, 1) := by decide +kernel
theorem dX2_ticksOfMove_34 : decode cX2_ticksOfMove 34 = .ok (.iload_n 1, 1) := by decide +kernel
theorem dX2_ticksOfMove_35 : decode cX2_ticksOfMove 35 = .ok (.iconst 2, 1) := by decide +kernel
theorem dX2_ticksOfMove_36 : decode cX2_ticksOfMove 36 = .ok (.iload_n 2, 1) := by decide +kernel
theorem dX2_ticksOfMove_37 : decode cX2_ticksOfMove 37 = .ok (.imul, 1) := by decide +kernel
theorem dX2_ticksOfMove_38 : decode cX2_ticksOfMove 38 = .ok (.isub, 1) := by decide +kernel
theorem dX2_ticksOfMove_39 : decode cX2_ticksOfMove 39 = .ok (.aload_n 0, 1) := by decide +kernel
theorem dX2_ticksOfMove_40 : decode cX2_ticksOfMove 40 = .ok (.iload_n 2, 1) := by decide +kernel
theorem dX2_ticksOfMove_41 : decode cX2_ticksOfMove 41 = .ok (.invokevirtual 60, 3) := by decide +kernel
theorem dX2_ticksOfMove_44 : decode cX2_ticksOfMove 44 = .ok (.imul, 1) := by decide +kernel
theorem dX2_ticksOfMove_45 : decode cX2_ticksOfMove 45 = .ok (.iadd, 1) := by decide +kernel
theorem dX2_ticksOfMove_46 : decode cX2_ticksOfMove 46 = .ok (.ireturn, 1) := by decide +kernel
theorem dX2_approximation_0 : decode cX2_approximation 0 = .ok (.sipush 676, 3) := by decide +kernel
theorem dX2_approximation_3 : decode cX2_approximation 3 = .ok (.aload_n 0, 1) := by decide +kernel
theorem dX2_approximation_4 : decode cX2_approximation 4 = .ok (.getfield 9, 3) := by decide +kernel
theorem dX2_approximation_7 : decode cX2_approximation 7 = .ok (.iconst 1, 1) := by decide +kernel
theorem dX2_approximation_8 : decode cX2_approximation 8 = .ok (.iaload, 1) := by decide +kernel
theorem dX2_approximation_9 : decode cX2_approximation 9 = .ok (.imul, 1) := by decide +kernel
theorem dX2_approximation_10 : decode cX2_approximation 10 = .ok (.sipush 1000, 3) := by decide +kernel
theorem dX2_approximation_13 : decode cX2_approximation 13 = .ok (.idiv, 1) := by decide +kernel
theorem dX2_approximation_14 : decode cX2_approximation 14 = .ok (.istore_n 2, 1) := by decide +kernel
theorem dX2_approximation_15 : decode cX2_approximation 15 = .ok (.iconst 0, 1) := by decide +kernel
theorem dX2_approximation_16 : decode cX2_approximation 16 = .ok (.istore_n 3, 1) := by decide +kernel
theorem dX2_approximation_17 : decode cX2_approximation 17 = .ok (.iconst 1, 1) := by decide +kernel
theorem dX2_approximation_18 : decode cX2_approximation 18 = .ok (.istore 4, 2) := by decide +kernel
theorem dX2_approximation_20 : decode cX2_approximation 20 = .ok (.iload 4, 2) := by decide +kernel
theorem dX2_approximation_22 : decode cX2_approximation 22 = .ok (.iload_n 1, 1) := by decide +kernel
theorem dX2_approximation_23 : decode cX2_approximation 23 = .ok (.if_icmp .gt 38, 3) := by decide +kernel
theorem dX2_approximation_26 : decode cX2_approximation 26 = .ok (.iconst 2, 1) := by decide +kernel
theorem dX2_approximation_27 : decode cX2_approximation 27 = .ok (.iload_n 2, 1) := by decide +kernel
theorem dX2_approximation_28 : decode cX2_approximation 28 = .ok (.imul, 1) := by decide +kernel
theorem dX2_approximation_29 : decode cX2_approximation 29 = .ok (.iload_n 3, 1) := by decide +kernel
theorem dX2_approximation_30 : decode cX2_approximation 30 = .ok (.iadd, 1) := by decide +kernel
theorem dX2_approximation_31 : decode cX2_approximation 31 = .ok (.istore 5, 2) := by decide +kernel
theorem dX2_approximation_33 : decode cX2_approximation 33 = .ok (.iload_n 2, 1) := by decide +kernel
theorem dX2_approximation_34 : decode cX2_approximation 34 = .ok (.iload 5, 2) := by decide +kernel
theorem dX2_approximation_36 : decode cX2_approximation 36 = .ok (.iconst 4, 1) := by decide +kernel
theorem dX2_approximation_37 : decode cX2_approximation 37 = .ok (.iload 4, 2) := by decide +kernel
theorem dX2_approximation_39 : decode cX2_approximation 39 = .ok (.imul, 1) := by decide +kernel
theorem dX2_approximation_40 : decode cX2_approximation 40 = .ok (.iconst 1, 1) := by decide +kernel
theorem dX2_approximation_41 : decode cX2_approximation 41 = .ok (.iadd, 1) := by decide +kernel
theorem dX2_approximation_42 : decode cX2_approximation 42 = .ok (.idiv, 1) := by decide +kernel
theorem dX2_approximation_43 : decode cX2_approximation 43 = .ok (.isub, 1) := by decide +kernel
theorem dX2_approximation_44 : decode cX2_approximation 44 = .ok (.istore_n 2, 1) := by decide +kernel
theorem dX2_approximation_45 : decode cX2_approximation 45 = .ok (.iload 5, 2) := by decide +kernel
theorem dX2_approximation_47 : decode cX2_approximation 47 = .ok (.iconst 4, 1) := by decide +kernel
theorem dX2_approximation_48 : decode cX2_approximation 48 = .ok (.iload 4, 2) := by decide +kernel
theorem dX2_approximation_50 : decode cX2_approximation 50 = .ok (.imul, 1) := by decide +kernel
theorem dX2_approximation_51 : decode cX2_approximation 51 = .ok (.iconst 1, 1) := by decide +kernel
theorem dX2_approximation_52 : decode cX2_approximation 52 = .ok (.iadd, 1) := by decide +kernel
theorem dX2_approximation_53 : decode cX2_approximation 53 = .ok (.irem, 1) := by decide +kernel
theorem dX2_approximation_54 : decode cX2_approximation 54 = .ok (.istore_n 3, 1) := by decide +kernel
theorem dX2_approximation_55 : decode cX2_approximation 55 = .ok (.iinc 4 1, 3) := by decide +kernel
theorem dX2_approximation_58 : decode cX2_approximation 58 = .ok (.goto (-38), 3) := by decide +kernel
theorem dX2_approximation_61 : decode cX2_approximation 61 = .ok (.iload_n 2, 1) := by decide +kernel
theorem dX2_approximation_62 : decode cX2_approximation 62 = .ok (.ireturn, 1) := by decide +kernel
theorem dX3_init_0 : decode cX3_init 0 = .ok (.aload_n 0, 1) := by decide +kernel
theorem dX3_init_1 : decode cX3_init 1 = .ok (.invokespecial 1, 3) := by decide +kernel
theorem dX3_init_4 : decode cX3_init 4 = .ok (.aload_n 0, 1) := by decide +kernel
theorem dX3_init_5 : decode cX3_init 5 = .ok (.new 7, 3) := by decide +kernel
theorem dX3_init_8 : decode cX3_init 8 = .ok (.dup, 1) := by decide +kernel
theorem dX3_init_9 : decode cX3_init 9 = .ok (.invokespecial 9, 3) := by decide +kernel
theorem dX3_init_12 : decode cX3_init 12 = .ok (.putfield 10, 3) := by decide +kernel
theorem dX3_init_15 : decode cX3_init 15 = .ok (.return_, 1) := by decide +kernel
theorem dX4_init_0 : decode cX4_init 0 = .ok (.aload_n 0, 1) := by decide +kernel
theorem dX4_init_1 : decode cX4_init 1 = .ok (.invokespecial 3, 3) := by decide +kernel
theorem dX4_init_4 : decode cX4_init 4 = .ok (.aload_n 0, 1) := by decide +kernel
theorem dX4_init_5 : decode cX4_init 5 = .ok (.bipush 80, 2) := by decide +kernel
theorem dX4_init_7 : decode cX4_init 7 = .ok (.newarray .int, 2) := by decide +kernel
theorem dX4_init_9 : decode cX4_init 9 = .ok (.putfield 9, 3) := by decide +kernel
theorem dX4_init_12 : decode cX4_init 12 = .ok (.return_, 1) := by decide +kernel
theorem dX4_add_0 : decode cX4_add 0 = .ok (.aload_n 0, 1) := by decide +kernel
theorem dX4_add_1 : decode cX4_add 1 = .ok (.getfield 15, 3) := by decide +kernel
theorem dX4_add_4 : decode cX4_add 4 = .ok (.ifCond .lt 15, 3) := by decide +kernel
theorem dX4_add_7 : decode cX4_add 7 = .ok (.aload_n 0, 1) := by decide +kernel
theorem dX4_add_8 : decode cX4_add 8 = .ok (.getfield 15, 3) := by decide +kernel
theorem dX4_add_11 : decode cX4_add 11 = .ok (.aload_n 0, 1) := by decide +kernel
theorem dX4_add_12 : decode cX4_add 12 = .ok (.getfield 9, 3) := by decide +kernel
theorem dX4_add_15 : decode cX4_add 15 = .ok (.arraylength, 1) := by decide +kernel
theorem dX4_add_16 : decode cX4_add 16 = .ok (.if_icmp .lt 5, 3) := by decide +kernel
theorem dX4_add_19 : decode cX4_add 19 = .ok (.iconst 0, 1) := by decide +kernel
theorem dX4_add_20 : decode cX4_add 20 = .ok (.ireturn, 1) := by decide +kernel
theorem dX4_add_21 : decode cX4_add 21 = .ok (.aload_n 0, 1) := by decide +kernel
theorem dX4_add_22 : decode cX4_add 22 = .ok (.getfield 9, 3) := by decide +kernel
theorem dX4_add_25 : decode cX4_add 25 = .ok (.aload_n 0, 1) := by decide +kernel
theorem dX4_add_26 : decode cX4_add 26 = .ok (.getfield 15, 3) := by decide +kernel
theorem dX4_add_29 : decode cX4_add 29 = .ok (.iload_n 1, 1) := by decide +kernel
theorem dX4_add_30 : decode cX4_add 30 = .ok (.iastore, 1) := by decide +kernel
theorem dX4_add_31 : decode cX4_add 31 = .ok (.aload_n 0, 1) := by decide +kernel
theorem dX4_add_32 : decode cX4_add 32 = .ok (.dup, 1) := by decide +kernel
theorem dX4_add_33 : decode cX4_add 33 = .ok (.getfield 15, 3) := by decide +kernel
theorem dX4_add_36 : decode cX4_add 36 = .ok (.iconst 1, 1) := by decide +kernel
theorem dX4_add_37 : decode cX4_add 37 = .ok (.iadd, 1) := by decide +kernel
theorem dX4_add_38 : decode cX4_add 38 = .ok (.putfield 15, 3) := by decide +kernel
theorem dX4_add_41 : decode cX4_add 41 = .ok (.iconst 1, 1) := by decide +kernel
theorem dX4_add_42 : decode cX4_add 42 = .ok (.ireturn, 1) := by decide +kernel
theorem dX4_readInto_0 : decode cX4_readInto 0 = .ok (.aload_n 0, 1) := by decide +kernel
theorem dX4_readInto_1 : decode cX4_readInto 1 = .ok (.iconst 0, 1) := by decide +kernel
theorem dX4_readInto_2 : decode cX4_readInto 2 = .ok (.putfield 19, 3) := by decide +kernel
theorem dX4_readInto_5 : decode cX4_readInto 5 = .ok (.aload_n 0, 1) := by decide +kernel
theorem dX4_readInto_6 : decode cX4_readInto 6 = .ok (.bipush (-9), 2) := by decide +kernel
theorem dX4_readInto_8 : decode cX4_readInto 8 = .ok (.putfield 22, 3) := by decide +kernel
theorem dX4_readInto_11 : decode cX4_readInto 11 = .ok (.aload_n 1, 1) := by decide +kernel
theorem dX4_readInto_12 : decode cX4_readInto 12 = .ok (.invokevirtual 25, 3) := by decide +kernel
theorem dX4_readInto_15 : decode cX4_readInto 15 = .ok (.aload_n 0, 1) := by decide +kernel
theorem dX4_readInto_16 : decode cX4_readInto 16 = .ok (.bipush 97, 2) := by decide +kernel
theorem dX4_readInto_18 : decode cX4_readInto 18 = .ok (.invokevirtual 30, 3) := by decide +kernel
theorem dX4_readInto_21 : decode cX4_readInto 21 = .ok (.aload_n 1, 1) := by decide +kernel
theorem dX4_readInto_22 : decode cX4_readInto 22 = .ok (.aload_n 0, 1) := by decide +kernel
theorem dX4_readInto_23 : decode cX4_readInto 23 = .ok (.iconst 3, 1) := by decide +kernel
theorem dX4_readInto_24 : decode cX4_readInto 24 = .ok (.invokevirtual 34, 3) := by decide +kernel
theorem dX4_readInto_27 : decode cX4_readInto 27 = .ok (.putfield 38, 3) := by decide +kernel
theorem dX4_readInto_30 : decode cX4_readInto 30 = .ok (.aload_n 0, 1) := by decide +kernel
theorem dX4_readInto_31 : decode cX4_readInto 31 = .ok (.bipush 118, 2) := by decide +kernel
theorem dX4_readInto_33 : decode cX4_readInto 33 = .ok (.invokevirtual 30, 3) := by decide +kernel
theorem dX4_readInto_36 : decode cX4_readInto 36 = .ok (.aload_n 1, 1) := by decide +kernel
theorem dX4_readInto_37 : decode cX4_readInto 37 = .ok (.aload_n 0, 1) := by decide +kernel
theorem dX4_readInto_38 : decode cX4_readInto 38 = .ok (.iconst 3, 1) := by decide +kernel
theorem dX4_readInto_39 : decode cX4_readInto 39 = .ok (.invokevirtual 34, 3) := by decide +kernel
theorem dX4_readInto_42 : decode cX4_readInto 42 = .ok (.putfield 41, 3) := by decide +kernel
theorem dX4_readInto_45 : decode cX4_readInto 45 = .ok (.iconst 0, 1) := by decide +kernel
theorem dX4_readInto_46 : decode cX4_readInto 46 = .ok (.istore_n 2, 1) := by decide +kernel
theorem dX4_readInto_47 : decode cX4_readInto 47 = .ok (.iload_n 2, 1) := by decide +kernel
theorem dX4_readInto_48 : decode cX4_readInto 48 = .ok (.bipush 8, 2) := by decide +kernel
theorem dX4_readInto_50 : decode cX4_readInto 50 = .ok (.if_icmp .gt 34, 3) := by decide +kernel
theorem dX4_readInto_53 : decode cX4_readInto 53 = .ok (.aload_n 0, 1) := by decide +kernel
theorem dX4_readInto_54 : decode cX4_readInto 54 = .ok (.getfield 22, 3) := by decide +kernel
theorem dX4_readInto_57 : decode cX4_readInto 57 = .ok (.bipush (-9), 2) := by decide +kernel
theorem dX4_readInto_59 : decode cX4_readInto 59 = .ok (.if_icmp .ne 25, 3) := by decide +kernel
theorem dX4_readInto_62 : decode cX4_readInto 62 = .ok (.aload_n 0, 1) := by decide +kernel
theorem dX4_readInto_63 : decode cX4_readInto 63 = .ok (.getfield 19, 3) := by decide +kernel
theorem dX4_readInto_66 : decode cX4_readInto 66 = .ok (.aload_n 0, 1) := by decide +kernel
theorem dX4_readInto_67 : decode cX4_readInto 67 = .ok (.getfield 15, 3) := by decide +kernel
theorem dX4_readInto_70 : decode cX4_readInto 70 = .ok (.if_icmp .ge 14, 3) := by decide +kernel
theorem dX4_readInto_73 : decode cX4_readInto 73 = .ok (.aload_n 0, 1) := by decide +kernel
theorem dX4_readInto_74 : decode cX4_readInto 74 = .ok (.aload_n 1, 1) := by decide +kernel
theorem dX4_readInto_75 : decode cX4_readInto 75 = .ok (.invokevirtual 44, 3) := by decide +kernel
theorem dX4_readInto_78 : decode cX4_readInto 78 = .ok (.iinc 2 1, 3) := by decide +kernel
theorem dX4_readInto_81 : decode cX4_readInto 81 = .ok (.goto (-34), 3) := by decide +kernel
theorem dX4_readInto_84 : decode cX4_readInto 84 = .ok (.aload_n 0, 1) := by decide +kernel
theorem dX4_readInto_85 : decode cX4_readInto 85 = .ok (.getfield 22, 3) := by decide +kernel
theorem dX4_readInto_88 : decode cX4_readInto 88 = .ok (.ireturn, 1) := by decide +kernel
theorem dX4_takeItem_0 : decode cX4_takeItem 0 = .ok (.aload_n 0, 1) := by decide +kernel
theorem dX4_takeItem_1 : decode cX4_takeItem 1 = .ok (.invokevirtual 48, 3) := by decide +kernel
theorem dX4_takeItem_4 : decode cX4_takeItem 4 = .ok (.istore_n 2, 1) := by decide +kernel
theorem dX4_takeItem_5 : decode cX4_takeItem 5 = .ok (.aload_n 1, 1) := by decide +kernel
theorem dX4_takeItem_6 : decode cX4_takeItem 6 = .ok (.invokevirtual 52, 3) := by decide +kernel
theorem dX4_takeItem_9 : decode cX4_takeItem 9 = .ok (.ifCond .ne 15, 3) := by decide +kernel
theorem dX4_takeItem_12 : decode cX4_takeItem 12 = .ok (.iload_n 2, 1) := by decide +kernel
theorem dX4_takeItem_13 : decode cX4_takeItem 13 = .ok (.bipush 109, 2) := by decide +kernel
theorem dX4_takeItem_15 : decode cX4_takeItem 15 = .ok (.if_icmp .eq 18, 3) := by decide +kernel
theorem dX4_takeItem_18 : decode cX4_takeItem 18 = .ok (.iload_n 2, 1) := by decide +kernel
theorem dX4_takeItem_19 : decode cX4_takeItem 19 = .ok (.bipush 119, 2) := by decide +kernel
theorem dX4_takeItem_21 : decode cX4_takeItem 21 = .ok (.if_icmp .eq 12, 3) := by decide +kernel
theorem dX4_takeItem_24 : decode cX4_takeItem 24 = .ok (.aload_n 0, 1) := by decide +kernel
theorem dX4_takeItem_25 : decode cX4_takeItem 25 = .ok (.aload_n 0, 1) := by decide +kernel
theorem dX4_takeItem_26 : decode cX4_takeItem 26 = .ok (.getfield 19, 3) := by decide +kernel
theorem dX4_takeItem_29 : decode cX4_takeItem 29 = .ok (.invokevirtual 56, 3) := by decide +kernel
theorem dX4_takeItem_32 : decode cX4_takeItem 32 = .ok (.return_, 1) := by decide +kernel
theorem dX4_takeItem_33 : decode cX4_takeItem 33 = .ok (.aload_n 0, 1) := by decide +kernel
theorem dX4_takeItem_34 : decode cX4_takeItem 34 = .ok (.dup, 1) := by decide +kernel
theorem dX4_takeItem_35 : decode cX4_takeItem 35 = .ok (.getfield 19, 3) := by decide +kernel
theorem dX4_takeItem_38 : decode cX4_takeItem 38 = .ok (.iconst 1, 1) := by decide +kernel
theorem dX4_takeItem_39 : decode cX4_takeItem 39 = .ok (.iadd, 1) := by decide +kernel
theorem dX4_takeItem_40 : decode cX4_takeItem 40 = .ok (.putfield 19, 3) := by decide +kernel
theorem dX4_takeItem_43 : decode cX4_takeItem 43 = .ok (.iload_n 2, 1) := by decide +kernel
theorem dX4_takeItem_44 : decode cX4_takeItem 44 = .ok (.bipush 119, 2) := by decide +kernel
theorem dX4_takeItem_46 : decode cX4_takeItem 46 = .ok (.if_icmp .ne 15, 3) := by decide +kernel
theorem dX4_takeItem_49 : decode cX4_takeItem 49 = .ok (.aload_n 1, 1) := by decide +kernel
theorem dX4_takeItem_50 : decode cX4_takeItem 50 = .ok (.iconst 0, 1) := by decide +kernel
theorem dX4_takeItem_51 : decode cX4_takeItem 51 = .ok (.iconst 0, 1) := by decide +kernel
theorem dX4_takeItem_52 : decode cX4_takeItem 52 = .ok (.aload_n 0, 1) := by decide +kernel
theorem dX4_takeItem_53 : decode cX4_takeItem 53 = .ok (.iconst 4, 1) := by decide +kernel
theorem dX4_takeItem_54 : decode cX4_takeItem 54 = .ok (.invokevirtual 34, 3) := by decide +kernel
theorem dX4_takeItem_57 : decode cX4_takeItem 57 = .ok (.invokevirtual 59, 3) := by decide +kernel
theorem dX4_takeItem_60 : decode cX4_takeItem 60 = .ok (.return_, 1) := by decide +kernel
theorem dX4_takeItem_61 : decode cX4_takeItem 61 = .ok (.aload_n 0, 1) := by decide +kernel
theorem dX4_takeItem_62 : decode cX4_takeItem 62 = .ok (.invokevirtual 63, 3) := by decide +kernel
theorem dX4_takeItem_65 : decode cX4_takeItem 65 = .ok (.istore_n 3, 1) := by decide +kernel
theorem dX4_takeItem_66 : decode cX4_takeItem 66 = .ok (.aload_n 0, 1) := by decide +kernel
theorem dX4_takeItem_67 : decode cX4_takeItem 67 = .ok (.invokevirtual 63, 3) := by decide +kernel
theorem dX4_takeItem_70 : decode cX4_takeItem 70 = .ok (.istore 4, 2) := by decide +kernel
theorem dX4_takeItem_72 : decode cX4_takeItem 72 = .ok (.iload_n 3, 1) := by decide +kernel
theorem dX4_takeItem_73 : decode cX4_takeItem 73 = .ok (.ifCond .ne 18, 3) := by decide +kernel
theorem dX4_takeItem_76 : decode cX4_takeItem 76 = .ok (.iload 4, 2) := by decide +kernel
theorem dX4_takeItem_78 : decode cX4_takeItem 78 = .ok (.ifCond .ne 13, 3) := by decide +kernel
theorem dX4_takeItem_81 : decode cX4_takeItem 81 = .ok (.aload_n 0, 1) := by decide +kernel
theorem dX4_takeItem_82 : decode cX4_takeItem 82 = .ok (.aload_n 0, 1) := by decide +kernel
theorem dX4_takeItem_83 : decode cX4_takeItem 83 = .ok (.getfield 19, 3) := by decide +kernel
theorem dX4_takeItem_86 : decode cX4_takeItem 86 = .ok (.iconst 1, 1) := by decide +kernel
theorem dX4_takeItem_87 : decode cX4_takeItem 87 = .ok (.isub, 1) := by decide +kernel
theorem dX4_takeItem_88 : decode cX4_takeItem 88 = .ok (.invokevirtual 56, 3) := by decide +kernel
theorem dX4_takeItem_91 : decode cX4_takeItem 91 = .ok (.aload_n 1, 1) := by decide +kernel
theorem dX4_takeItem_92 : decode cX4_takeItem 92 = .ok (.iload_n 3, 1) := by decide +kernel
theorem dX4_takeItem_93 : decode cX4_takeItem 93 = .ok (.iload 4, 2) := by decide +kernel
theorem dX4_takeItem_95 : decode cX4_takeItem 95 = .ok (.iconst 0, 1) := by decide +kernel
theorem dX4_takeItem_96 : decode cX4_takeItem 96 = .ok (.invokevirtual 59, 3) := by decide +kernel
theorem dX4_takeItem_99 : decode cX4_takeItem 99 = .ok (.return_, 1) := by decide +kernel
theorem dX4_present_0 : decode cX4_present 0 = .ok (.aload_n 0, 1) := by decide +kernel
theorem dX4_present_1 : decode cX4_present 1 = .ok (.getfield 19, 3) := by decide +kernel
theorem dX4_present_4 : decode cX4_present 4 = .ok (.ifCond .lt 38, 3) := by decide +kernel
theorem dX4_present_7 : decode cX4_present 7 = .ok (.aload_n 0, 1) := by decide +kernel
theorem dX4_present_8 : decode cX4_present 8 = .ok (.getfield 19, 3) := by decide +kernel
theorem dX4_present_11 : decode cX4_present 11 = .ok (.aload_n 0, 1) := by decide +kernel
theorem dX4_present_12 : decode cX4_present 12 = .ok (.getfield 15, 3) := by decide +kernel
theorem dX4_present_15 : decode cX4_present 15 = .ok (.if_icmp .ge 27, 3) := by decide +kernel
theorem dX4_present_18 : decode cX4_present 18 = .ok (.aload_n 0, 1) := by decide +kernel
theorem dX4_present_19 : decode cX4_present 19 = .ok (.getfield 19, 3) := by decide +kernel
theorem dX4_present_22 : decode cX4_present 22 = .ok (.aload_n 0, 1) := by decide +kernel
theorem dX4_present_23 : decode cX4_present 23 = .ok (.getfield 9, 3) := by decide +kernel
theorem dX4_present_26 : decode cX4_present 26 = .ok (.arraylength, 1) := by decide +kernel
theorem dX4_present_27 : decode cX4_present 27 = .ok (.if_icmp .ge 15, 3) := by decide +kernel
theorem dX4_present_30 : decode cX4_present 30 = .ok (.aload_n 0, 1) := by decide +kernel
theorem dX4_present_31 : decode cX4_present 31 = .ok (.getfield 9, 3) := by decide +kernel
theorem dX4_present_34 : decode cX4_present 34 = .ok (.aload_n 0, 1) := by decide +kernel
theorem dX4_present_35 : decode cX4_present 35 = .ok (.getfield 19, 3) := by decide +kernel
theorem dX4_present_38 : decode cX4_present 38 = .ok (.iaload, 1) := by decide +kernel
theorem dX4_present_39 : decode cX4_present 39 = .ok (.goto 5, 3) := by decide +kernel
theorem dX4_present_42 : decode cX4_present 42 = .ok (.bipush (-9), 2) := by decide +kernel
theorem dX4_present_44 : decode cX4_present 44 = .ok (.ireturn, 1) := by decide +kernel
theorem dX4_failAt_0 : decode cX4_failAt 0 = .ok (.aload_n 0, 1) := by decide +kernel
theorem dX4_failAt_1 : decode cX4_failAt 1 = .ok (.getfield 22, 3) := by decide +kernel
theorem dX4_failAt_4 : decode cX4_failAt 4 = .ok (.bipush (-9), 2) := by decide +kernel
theorem dX4_failAt_6 : decode cX4_failAt 6 = .ok (.if_icmp .ne 8, 3) := by decide +kernel
theorem dX4_failAt_9 : decode cX4_failAt 9 = .ok (.aload_n 0, 1) := by decide +kernel
theorem dX4_failAt_10 : decode cX4_failAt 10 = .ok (.iload_n 1, 1) := by decide +kernel
theorem dX4_failAt_11 : decode cX4_failAt 11 = .ok (.putfield 22, 3) := by decide +kernel
theorem dX4_failAt_14 : decode cX4_failAt 14 = .ok (.return_, 1) := by decide +kernel
theorem dX4_takeLetter_0 : decode cX4_takeLetter 0 = .ok (.aload_n 0, 1) := by decide +kernel
theorem dX4_takeLetter_1 : decode cX4_takeLetter 1 = .ok (.invokevirtual 48, 3) := by decide +kernel
theorem dX4_takeLetter_4 : decode cX4_takeLetter 4 = .ok (.iload_n 1, 1) := by decide +kernel
theorem dX4_takeLetter_5 : decode cX4_takeLetter 5 = .ok (.if_icmp .ne 16, 3) := by decide +kernel
theorem dX4_takeLetter_8 : decode cX4_takeLetter 8 = .ok (.aload_n 0, 1) := by decide +kernel
theorem dX4_takeLetter_9 : decode cX4_takeLetter 9 = .ok (.dup, 1) := by decide +kernel
theorem dX4_takeLetter_10 : decode cX4_takeLetter 10 = .ok (.getfield 19, 3) := by decide +kernel
theorem dX4_takeLetter_13 : decode cX4_takeLetter 13 = .ok (.iconst 1, 1) := by decide +kernel
theorem dX4_takeLetter_14 : decode cX4_takeLetter 14 = .ok (.iadd, 1) := by decide +kernel
theorem dX4_takeLetter_15 : decode cX4_takeLetter 15 = .ok (.putfield 19, 3) := by decide +kernel
theorem dX4_takeLetter_18 : decode cX4_takeLetter 18 = .ok (.goto 11, 3) := by decide +kernel
theorem dX4_takeLetter_21 : decode cX4_takeLetter 21 = .ok (.aload_n 0, 1) := by decide +kernel
theorem dX4_takeLetter_22 : decode cX4_takeLetter 22 = .ok (.aload_n 0, 1) := by decide +kernel
theorem dX4_takeLetter_23 : decode cX4_takeLetter 23 = .ok (.getfield 19, 3) := by decide +kernel
theorem dX4_takeLetter_26 : decode cX4_takeLetter 26 = .ok (.invokevirtual 56, 3) := by decide +kernel
theorem dX4_takeLetter_29 : decode cX4_takeLetter 29 = .ok (.return_, 1) := by decide +kernel
theorem dX4_takeDistance_0 : decode cX4_takeDistance 0 = .ok (.aload_n 0, 1) := by decide +kernel
theorem dX4_takeDistance_1 : decode cX4_takeDistance 1 = .ok (.invokevirtual 48, 3) := by decide +kernel
theorem dX4_takeDistance_4 : decode cX4_takeDistance 4 = .ok (.istore_n 1, 1) := by decide +kernel
theorem dX4_takeDistance_5 : decode cX4_takeDistance 5 = .ok (.iload_n 1, 1) := by decide +kernel
theorem dX4_takeDistance_6 : decode cX4_takeDistance 6 = .ok (.bipush 43, 2) := by decide +kernel
theorem dX4_takeDistance_8 : decode cX4_takeDistance 8 = .ok (.if_icmp .eq 19, 3) := by decide +kernel
theorem dX4_takeDistance_11 : decode cX4_takeDistance 11 = .ok (.iload_n 1, 1) := by decide +kernel
theorem dX4_takeDistance_12 : decode cX4_takeDistance 12 = .ok (.bipush 45, 2) := by decide +kernel
theorem dX4_takeDistance_14 : decode cX4_takeDistance 14 = .ok (.if_icmp .eq 13, 3) := by decide +kernel
theorem dX4_takeDistance_17 : decode cX4_takeDistance 17 = .ok (.aload_n 0, 1) := by decide +kernel
theorem dX4_takeDistance_18 : decode cX4_takeDistance 18 = .ok (.aload_n 0, 1) := by decide +kernel
theorem dX4_takeDistance_19 : decode cX4_takeDistance 19 = .ok (.getfield 19, 3) := by decide +kernel
theorem dX4_takeDistance_22 : decode cX4_takeDistance 22 = .ok (.invokevirtual 56, 3) := by decide +kernel
theorem dX4_takeDistance_25 : decode cX4_takeDistance 25 = .ok (.iconst 0, 1) := by decide +kernel
theorem dX4_takeDistance_26 : decode cX4_takeDistance 26 = .ok (.ireturn, 1) := by decide +kernel
theorem dX4_takeDistance_27 : decode cX4_takeDistance 27 = .ok (.aload_n 0, 1) := by decide +kernel
theorem dX4_takeDistance_28 : decode cX4_takeDistance 28 = .ok (.dup, 1) := by decide +kernel
theorem dX4_takeDistance_29 : decode cX4_takeDistance 29 = .ok (.getfield 19, 3) := by decide +kernel
theorem dX4_takeDistance_32 : decode cX4_takeDistance 32 = .ok (.iconst 1, 1) := by decide +kernel
theorem dX4_takeDistance_33 : decode cX4_takeDistance 33 = .ok (.iadd, 1) := by decide +kernel
theorem dX4_takeDistance_34 : decode cX4_takeDistance 34 = .ok (.putfield 19, 3) := by decide +kernel
theorem dX4_takeDistance_37 : decode cX4_takeDistance 37 = .ok (.aload_n 0, 1) := by decide +kernel
theorem dX4_takeDistance_38 : decode cX4_takeDistance 38 = .ok (.iconst 3, 1) := by decide +kernel
theorem dX4_takeDistance_39 : decode cX4_takeDistance 39 = .ok (.invokevirtual 66, 3) := by decide +kernel
theorem dX4_takeDistance_42 : decode cX4_takeDistance 42 = .ok (.istore_n 2, 1) := by decide +kernel
theorem dX4_takeDistance_43 : decode cX4_takeDistance 43 = .ok (.iload_n 1, 1) := by decide +kernel
theorem dX4_takeDistance_44 : decode cX4_takeDistance 44 = .ok (.bipush 45, 2) := by decide +kernel
theorem dX4_takeDistance_46 : decode cX4_takeDistance 46 = .ok (.if_icmp .ne 8, 3) := by decide +kernel
theorem dX4_takeDistance_49 : decode cX4_takeDistance 49 = .ok (.iload_n 2, 1) := by decide +kernel
theorem dX4_takeDistance_50 : decode cX4_takeDistance 50 = .ok (.ineg, 1) := by decide +kernel
theorem dX4_takeDistance_51 : decode cX4_takeDistance 51 = .ok (.goto 4, 3) := by decide +kernel
theorem dX4_takeDistance_54 : decode cX4_takeDistance 54 = .ok (.iload_n 2, 1) := by decide +kernel
theorem dX4_takeDistance_55 : decode cX4_takeDistance 55 = .ok (.ireturn, 1) := by decide +kernel
theorem dX4_takePositive_0 : decode cX4_takePositive 0 = .ok (.aload_n 0, 1) := by decide +kernel
theorem dX4_takePositive_1 : decode cX4_takePositive 1 = .ok (.iload_n 1, 1) := by decide +kernel
theorem dX4_takePositive_2 : decode cX4_takePositive 2 = .ok (.invokevirtual 66, 3) := by decide +kernel
theorem dX4_takePositive_5 : decode cX4_takePositive 5 = .ok (.istore_n 2, 1) := by decide +kernel
theorem dX4_takePositive_6 : decode cX4_takePositive 6 = .ok (.iload_n 2, 1) := by decide +kernel
theorem dX4_takePositive_7 : decode cX4_takePositive 7 = .ok (.ifCond .ne 13, 3) := by decide +kernel
theorem dX4_takePositive_10 : decode cX4_takePositive 10 = .ok (.aload_n 0, 1) := by decide +kernel
theorem dX4_takePositive_11 : decode cX4_takePositive 11 = .ok (.aload_n 0, 1) := by decide +kernel
theorem dX4_takePositive_12 : decode cX4_takePositive 12 = .ok (.getfield 19, 3) := by decide +kernel
theorem dX4_takePositive_15 : decode cX4_takePositive 15 = .ok (.iconst 1, 1) := by decide +kernel
theorem dX4_takePositive_16 : decode cX4_takePositive 16 = .ok (.isub, 1) := by decide +kernel
theorem dX4_takePositive_17 : decode cX4_takePositive 17 = .ok (.invokevirtual 56, 3) := by decide +kernel
theorem dX4_takePositive_20 : decode cX4_takePositive 20 = .ok (.iload_n 2, 1) := by decide +kernel
theorem dX4_takePositive_21 : decode cX4_takePositive 21 = .ok (.ireturn, 1) := by decide +kernel
theorem dX4_takeDigits_0 : decode cX4_takeDigits 0 = .ok (.iconst 0, 1) := by decide +kernel
theorem dX4_takeDigits_1 : decode cX4_takeDigits 1 = .ok (.istore_n 2, 1) := by decide +kernel
theorem dX4_takeDigits_2 : decode cX4_takeDigits 2 = .ok (.iconst 0, 1) := by decide +kernel
theorem dX4_takeDigits_3 : decode cX4_takeDigits 3 = .ok (.istore_n 3, 1) := by decide +kernel
theorem dX4_takeDigits_4 : decode cX4_takeDigits 4 = .ok (.iload_n 3, 1) := by decide +kernel
theorem dX4_takeDigits_5 : decode cX4_takeDigits 5 = .ok (.iload_n 1, 1) := by decide +kernel
theorem dX4_takeDigits_6 : decode cX4_takeDigits 6 = .ok (.if_icmp .ge 60, 3) := by decide +kernel
theorem dX4_takeDigits_9 : decode cX4_takeDigits 9 = .ok (.aload_n 0, 1) := by decide +kernel
theorem dX4_takeDigits_10 : decode cX4_takeDigits 10 = .ok (.invokevirtual 48, 3) := by decide +kernel
theorem dX4_takeDigits_13 : decode cX4_takeDigits 13 = .ok (.istore 4, 2) := by decide +kernel
theorem dX4_takeDigits_15 : decode cX4_takeDigits 15 = .ok (.iload 4, 2) := by decide +kernel
theorem dX4_takeDigits_17 : decode cX4_takeDigits 17 = .ok (.bipush 48, 2) := by decide +kernel
theorem dX4_takeDigits_19 : decode cX4_takeDigits 19 = .ok (.if_icmp .lt 10, 3) := by decide +kernel
theorem dX4_takeDigits_22 : decode cX4_takeDigits 22 = .ok (.iload 4, 2) := by decide +kernel
theorem dX4_takeDigits_24 : decode cX4_takeDigits 24 = .ok (.bipush 57, 2) := by decide +kernel
theorem dX4_takeDigits_26 : decode cX4_takeDigits 26 = .ok (.if_icmp .le 13, 3) := by decide +kernel
theorem dX4_takeDigits_29 : decode cX4_takeDigits 29 = .ok (.aload_n 0, 1) := by decide +kernel
theorem dX4_takeDigits_30 : decode cX4_takeDigits 30 = .ok (.aload_n 0, 1) := by decide +kernel
theorem dX4_takeDigits_31 : decode cX4_takeDigits 31 = .ok (.getfield 19, 3) := by decide +kernel
theorem dX4_takeDigits_34 : decode cX4_takeDigits 34 = .ok (.invokevirtual 56, 3) := by decide +kernel
theorem dX4_takeDigits_37 : decode cX4_takeDigits 37 = .ok (.iconst 0, 1) := by decide +kernel
theorem dX4_takeDigits_38 : decode cX4_takeDigits 38 = .ok (.ireturn, 1) := by decide +kernel
theorem dX4_takeDigits_39 : decode cX4_takeDigits 39 = .ok (.iload_n 2, 1) := by decide +kernel
theorem dX4_takeDigits_40 : decode cX4_takeDigits 40 = .ok (.bipush 10, 2) := by decide +kernel
theorem dX4_takeDigits_42 : decode cX4_takeDigits 42 = .ok (.imul, 1) := by decide +kernel
theorem dX4_takeDigits_43 : decode cX4_takeDigits 43 = .ok (.iload 4, 2) := by decide +kernel
theorem dX4_takeDigits_45 : decode cX4_takeDigits 45 = .ok (.bipush 48, 2) := by decide +kernel
theorem dX4_takeDigits_47 : decode cX4_takeDigits 47 = .ok (.isub, 1) := by decide +kernel
theorem dX4_takeDigits_48 : decode cX4_takeDigits 48 = .ok (.iadd, 1) := by decide +kernel
theorem dX4_takeDigits_49 : decode cX4_takeDigits 49 = .ok (.istore_n 2, 1) := by decide +kernel
theorem dX4_takeDigits_50 : decode cX4_takeDigits 50 = .ok (.aload_n 0, 1) := by decide +kernel
theorem dX4_takeDigits_51 : decode cX4_takeDigits 51 = .ok (.dup, 1) := by decide +kernel
theorem dX4_takeDigits_52 : decode cX4_takeDigits 52 = .ok (.getfield 19, 3) := by decide +kernel
theorem dX4_takeDigits_55 : decode cX4_takeDigits 55 = .ok (.iconst 1, 1) := by decide +kernel
theorem dX4_takeDigits_56 : decode cX4_takeDigits 56 = .ok (.iadd, 1) := by decide +kernel
theorem dX4_takeDigits_57 : decode cX4_takeDigits 57 = .ok (.putfield 19, 3) := by decide +kernel
theorem dX4_takeDigits_60 : decode cX4_takeDigits 60 = .ok (.iinc 3 1, 3) := by decide +kernel
theorem dX4_takeDigits_63 : decode cX4_takeDigits 63 = .ok (.goto (-59), 3) := by decide +kernel
theorem dX4_takeDigits_66 : decode cX4_takeDigits 66 = .ok (.iload_n 2, 1) := by decide +kernel
theorem dX4_takeDigits_67 : decode cX4_takeDigits 67 = .ok (.ireturn, 1) := by decide +kernel
theorem dX5_init_0 : decode cX5_init 0 = .ok (.aload_n 0, 1) := by decide +kernel
theorem dX5_init_1 : decode cX5_init 1 = .ok (.invokespecial 3, 3) := by decide +kernel
theorem dX5_init_4 : decode cX5_init 4 = .ok (.aload_n 0, 1) := by decide +kernel
theorem dX5_init_5 : decode cX5_init 5 = .ok (.bipush 100, 2) := by decide +kernel
theorem dX5_init_7 : decode cX5_init 7 = .ok (.putfield 9, 3) := by decide +kernel
theorem dX5_init_10 : decode cX5_init 10 = .ok (.aload_n 0, 1) := by decide +kernel
theorem dX5_init_11 : decode cX5_init 11 = .ok (.sipush 200, 3) := by decide +kernel
theorem dX5_init_14 : decode cX5_init 14 = .ok (.putfield 15, 3) := by decide +kernel
theorem dX5_init_17 : decode cX5_init 17 = .ok (.aload_n 0, 1) := by decide +kernel
theorem dX5_init_18 : decode cX5_init 18 = .ok (.bipush 8, 2) := by decide +kernel
theorem dX5_init_20 : decode cX5_init 20 = .ok (.newarray .int, 2) := by decide +kernel
theorem dX5_init_22 : decode cX5_init 22 = .ok (.putfield 18, 3) := by decide +kernel
theorem dX5_init_25 : decode cX5_init 25 = .ok (.aload_n 0, 1) := by decide +kernel
theorem dX5_init_26 : decode cX5_init 26 = .ok (.bipush 8, 2) := by decide +kernel
theorem dX5_init_28 : decode cX5_init 28 = .ok (.newarray .int, 2) := by decide +kernel
theorem dX5_init_30 : decode cX5_init 30 = .ok (.putfield 22, 3) := by decide +kernel
theorem dX5_init_33 : decode cX5_init 33 = .ok (.aload_n 0, 1) := by decide +kernel
theorem dX5_init_34 : decode cX5_init 34 = .ok (.bipush 8, 2) := by decide +kernel
theorem dX5_init_36 : decode cX5_init 36 = .ok (.newarray .int, 2) := by decide +kernel
theorem dX5_init_38 : decode cX5_init 38 = .ok (.putfield 25, 3) := by decide +kernel
theorem dX5_init_41 : decode cX5_init 41 = .ok (.return_, 1) := by decide +kernel
theorem dX5_become_0 : decode cX5_become 0 = .ok (.aload_n 0, 1) := by decide +kernel
theorem dX5_become_1 : decode cX5_become 1 = .ok (.aload_n 1, 1) := by decide +kernel
theorem dX5_become_2 : decode cX5_become 2 = .ok (.getfield 9, 3) := by decide +kernel
theorem dX5_become_5 : decode cX5_become 5 = .ok (.putfield 9, 3) := by decide +kernel
theorem dX5_become_8 : decode cX5_become 8 = .ok (.aload_n 0, 1) := by decide +kernel
theorem dX5_become_9 : decode cX5_become 9 = .ok (.aload_n 1, 1) := by decide +kernel
theorem dX5_become_10 : decode cX5_become 10 = .ok (.getfield 15, 3) := by decide +kernel
theorem dX5_become_13 : decode cX5_become 13 = .ok (.putfield 15, 3) := by decide +kernel
theorem dX5_become_16 : decode cX5_become 16 = .ok (.aload_n 0, 1) := by decide +kernel
theorem dX5_become_17 : decode cX5_become 17 = .ok (.aload_n 1, 1) := by decide +kernel
theorem dX5_become_18 : decode cX5_become 18 = .ok (.getfield 28, 3) := by decide +kernel
theorem dX5_become_21 : decode cX5_become 21 = .ok (.putfield 28, 3) := by decide +kernel
theorem dX5_become_24 : decode cX5_become 24 = .ok (.aload_n 0, 1) := by decide +kernel
theorem dX5_become_25 : decode cX5_become 25 = .ok (.aload_n 1, 1) := by decide +kernel
theorem dX5_become_26 : decode cX5_become 26 = .ok (.getfield 31, 3) := by decide +kernel
theorem dX5_become_29 : decode cX5_become 29 = .ok (.putfield 31, 3) := by decide +kernel
theorem dX5_become_32 : decode cX5_become 32 = .ok (.aload_n 0, 1) := by decide +kernel
theorem dX5_become_33 : decode cX5_become 33 = .ok (.aload_n 1, 1) := by decide +kernel
theorem dX5_become_34 : decode cX5_become 34 = .ok (.getfield 34, 3) := by decide +kernel
theorem dX5_become_37 : decode cX5_become 37 = .ok (.putfield 34, 3) := by decide +kernel
theorem dX5_become_40 : decode cX5_become 40 = .ok (.aload_n 0, 1) := by decide +kernel
theorem dX5_become_41 : decode cX5_become 41 = .ok (.aload_n 1, 1) := by decide +kernel
theorem dX5_become_42 : decode cX5_become 42 = .ok (.getfield 37, 3) := by decide +kernel
theorem dX5_become_45 : decode cX5_become 45 = .ok (.putfield 37, 3) := by decide +kernel
theorem dX5_become_48 : decode cX5_become 48 = .ok (.aload_n 0, 1) := by decide +kernel
theorem dX5_become_49 : decode cX5_become 49 = .ok (.aload_n 1, 1) := by decide +kernel
theorem dX5_become_50 : decode cX5_become 50 = .ok (.getfield 40, 3) := by decide +kernel
theorem dX5_become_53 : decode cX5_become 53 = .ok (.putfield 40, 3) := by decide +kernel
theorem dX5_become_56 : decode cX5_become 56 = .ok (.aload_n 0, 1) := by decide +kernel
theorem dX5_become_57 : decode cX5_become 57 = .ok (.aload_n 1, 1) := by decide +kernel
theorem dX5_become_58 : decode cX5_become 58 = .ok (.getfield 43, 3) := by decide +kernel
theorem dX5_become_61 : decode cX5_become 61 = .ok (.putfield 43, 3) := by decide +kernel
theorem dX5_become_64 : decode cX5_become 64 = .ok (.aload_n 0, 1) := by decide +kernel
theorem dX5_become_65 : decode cX5_become 65 = .ok (.aload_n 1, 1) := by decide +kernel
theorem dX5_become_66 : decode cX5_become 66 = .ok (.getfield 46, 3) := by decide +kernel
theorem dX5_become_69 : decode cX5_become 69 = .ok (.putfield 46, 3) := by decide +kernel
theorem dX5_become_72 : decode cX5_become 72 = .ok (.iconst 0, 1) := by decide +kernel
theorem dX5_become_73 : decode cX5_become 73 = .ok (.istore_n 2, 1) := by decide +kernel
theorem dX5_become_74 : decode cX5_become 74 = .ok (.iload_n 2, 1) := by decide +kernel
theorem dX5_become_75 : decode cX5_become 75 = .ok (.aload_n 0, 1) := by decide +kernel
theorem dX5_become_76 : decode cX5_become 76 = .ok (.getfield 37, 3) := by decide +kernel
theorem dX5_become_79 : decode cX5_become 79 = .ok (.if_icmp .ge 51, 3) := by decide +kernel
theorem dX5_become_82 : decode cX5_become 82 = .ok (.iload_n 2, 1) := by decide +kernel
theorem dX5_become_83 : decode cX5_become 83 = .ok (.bipush 8, 2) := by decide +kernel
theorem dX5_become_85 : decode cX5_become 85 = .ok (.if_icmp .ge 45, 3) := by decide +kernel
theorem dX5_become_88 : decode cX5_become 88 = .ok (.aload_n 0, 1) := by decide +kernel
theorem dX5_become_89 : decode cX5_become 89 = .ok (.getfield 18, 3) := by decide +kernel
theorem dX5_become_92 : decode cX5_become 92 = .ok (.iload_n 2, 1) := by decide +kernel
theorem dX5_become_93 : decode cX5_become 93 = .ok (.aload_n 1, 1) := by decide +kernel
theorem dX5_become_94 : decode cX5_become 94 = .ok (.getfield 18, 3) := by decide +kernel
theorem dX5_become_97 : decode cX5_become 97 = .ok (.iload_n 2, 1) := by decide +kernel
theorem dX5_become_98 : decode cX5_become 98 = .ok (.iaload, 1) := by decide +kernel
theorem dX5_become_99 : decode cX5_become 99 = .ok (.iastore, 1) := by decide +kernel
theorem dX5_become_100 : decode cX5_become 100 = .ok (.aload_n 0, 1) := by decide +kernel
theorem dX5_become_101 : decode cX5_become 101 = .ok (.getfield 22, 3) := by decide +kernel
theorem dX5_become_104 : decode cX5_become 104 = .ok (.iload_n 2, 1) := by decide +kernel
theorem dX5_become_105 : decode cX5_become 105 = .ok (.aload_n 1, 1) := by decide +kernel
theorem dX5_become_106 : decode cX5_become 106 = .ok (.getfield 22, 3) := by decide +kernel
theorem dX5_become_109 : decode cX5_become 109 = .ok (.iload_n 2, 1) := by decide +kernel
theorem dX5_become_110 : decode cX5_become 110 = .ok (.iaload, 1) := by decide +kernel
theorem dX5_become_111 : decode cX5_become 111 = .ok (.iastore, 1) := by decide +kernel
theorem dX5_become_112 : decode cX5_become 112 = .ok (.aload_n 0, 1) := by decide +kernel
theorem dX5_become_113 : decode cX5_become 113 = .ok (.getfield 25, 3) := by decide +kernel
theorem dX5_become_116 : decode cX5_become 116 = .ok (.iload_n 2, 1) := by decide +kernel
theorem dX5_become_117 : decode cX5_become 117 = .ok (.aload_n 1, 1) := by decide +kernel
theorem dX5_become_118 : decode cX5_become 118 = .ok (.getfield 25, 3) := by decide +kernel
theorem dX5_become_121 : decode cX5_become 121 = .ok (.iload_n 2, 1) := by decide +kernel
theorem dX5_become_122 : decode cX5_become 122 = .ok (.iaload, 1) := by decide +kernel
theorem dX5_become_123 : decode cX5_become 123 = .ok (.iastore, 1) := by decide +kernel
theorem dX5_become_124 : decode cX5_become 124 = .ok (.iinc 2 1, 3) := by decide +kernel
theorem dX5_become_127 : decode cX5_become 127 = .ok (.goto (-53), 3) := by decide +kernel
theorem dX5_become_130 : decode cX5_become 130 = .ok (.return_, 1) := by decide +kernel
theorem dX5_clear_0 : decode cX5_clear 0 = .ok (.aload_n 0, 1) := by decide +kernel
theorem dX5_clear_1 : decode cX5_clear 1 = .ok (.iconst 0, 1) := by decide +kernel
theorem dX5_clear_2 : decode cX5_clear 2 = .ok (.putfield 28, 3) := by decide +kernel
theorem dX5_clear_5 : decode cX5_clear 5 = .ok (.aload_n 0, 1) := by decide +kernel
theorem dX5_clear_6 : decode cX5_clear 6 = .ok (.iconst 0, 1) := by decide +kernel
theorem dX5_clear_7 : decode cX5_clear 7 = .ok (.putfield 31, 3) := by decide +kernel
theorem dX5_clear_10 : decode cX5_clear 10 = .ok (.aload_n 0, 1) := by decide +kernel
theorem dX5_clear_11 : decode cX5_clear 11 = .ok (.iconst 0, 1) := by decide +kernel
theorem dX5_clear_12 : decode cX5_clear 12 = .ok (.putfield 34, 3) := by decide +kernel
theorem dX5_clear_15 : decode cX5_clear 15 = .ok (.aload_n 0, 1) := by decide +kernel
theorem dX5_clear_16 : decode cX5_clear 16 = .ok (.iconst 0, 1) := by decide +kernel
theorem dX5_clear_17 : decode cX5_clear 17 = .ok (.putfield 37, 3) := by decide +kernel
theorem dX5_clear_20 : decode cX5_clear 20 = .ok (.aload_n 0, 1) := by decide +kernel
theorem dX5_clear_21 : decode cX5_clear 21 = .ok (.iconst 0, 1) := by decide +kernel
theorem dX5_clear_22 : decode cX5_clear 22 = .ok (.putfield 40, 3) := by decide +kernel
theorem dX5_clear_25 : decode cX5_clear 25 = .ok (.return_, 1) := by decide +kernel
theorem dX5_shownPosition_0 : decode cX5_shownPosition 0 = .ok (.iload_n 1, 1) := by decide +kernel
theorem dX5_shownPosition_1 : decode cX5_shownPosition 1 = .ok (.ifCond .ne 10, 3) := by decide +kernel
theorem dX5_shownPosition_4 : decode cX5_shownPosition 4 = .ok (.aload_n 0, 1) := by decide +kernel
theorem dX5_shownPosition_5 : decode cX5_shownPosition 5 = .ok (.getfield 28, 3) := by decide +kernel
theorem dX5_shownPosition_8 : decode cX5_shownPosition 8 = .ok (.goto 7, 3) := by decide +kernel
theorem dX5_shownPosition_11 : decode cX5_shownPosition 11 = .ok (.aload_n 0, 1) := by decide +kernel
theorem dX5_shownPosition_12 : decode cX5_shownPosition 12 = .ok (.getfield 31, 3) := by decide +kernel
theorem dX5_shownPosition_15 : decode cX5_shownPosition 15 = .ok (.ldc 49, 2) := by decide +kernel
theorem dX5_shownPosition_17 : decode cX5_shownPosition 17 = .ok (.iadd, 1) := by decide +kernel
theorem dX5_shownPosition_18 : decode cX5_shownPosition 18 = .ok (.ireturn, 1) := by decide +kernel
theorem dX5_isFull_0 : decode cX5_isFull 0 = .ok (.aload_n 0, 1) := by decide +kernel
theorem dX5_isFull_1 : decode cX5_isFull 1 = .ok (.getfield 37, 3) := by decide +kernel
theorem dX5_isFull_4 : decode cX5_isFull 4 = .ok (.bipush 8, 2) := by decide +kernel
theorem dX5_isFull_6 : decode cX5_isFull 6 = .ok (.if_icmp .lt 7, 3) := by decide +kernel
theorem dX5_isFull_9 : decode cX5_isFull 9 = .ok (.iconst 1, 1) := by decide +kernel
theorem dX5_isFull_10 : decode cX5_isFull 10 = .ok (.goto 4, 3) := by decide +kernel
theorem dX5_isFull_13 : decode cX5_isFull 13 = .ok (.iconst 0, 1) := by decide +kernel
theorem dX5_isFull_14 : decode cX5_isFull 14 = .ok (.ireturn, 1) := by decide +kernel
theorem dX5_isMoving_0 : decode cX5_isMoving 0 = .ok (.aload_n 0, 1) := by decide +kernel
theorem dX5_isMoving_1 : decode cX5_isMoving 1 = .ok (.getfield 40, 3) := by decide +kernel
theorem dX5_isMoving_4 : decode cX5_isMoving 4 = .ok (.ifCond .le 7, 3) := by decide +kernel
theorem dX5_isMoving_7 : decode cX5_isMoving 7 = .ok (.iconst 1, 1) := by decide +kernel
theorem dX5_isMoving_8 : decode cX5_isMoving 8 = .ok (.goto 4, 3) := by decide +kernel
theorem dX5_isMoving_11 : decode cX5_isMoving 11 = .ok (.iconst 0, 1) := by decide +kernel
theorem dX5_isMoving_12 : decode cX5_isMoving 12 = .ok (.ireturn, 1) := by decide +kernel
theorem dX5_hasItem_0 : decode cX5_hasItem 0 = .ok (.iload_n 1, 1) := by decide +kernel
theorem dX5_hasItem_1 : decode cX5_hasItem 1 = .ok (.ifCond .lt 21, 3) := by decide +kernel
theorem dX5_hasItem_4 : decode cX5_hasItem 4 = .ok (.iload_n 1, 1) := by decide +kernel
theorem dX5_hasItem_5 : decode cX5_hasItem 5 = .ok (.aload_n 0, 1) := by decide +kernel
theorem dX5_hasItem_6 : decode cX5_hasItem 6 = .ok (.getfield 37, 3) := by decide +kernel
theorem dX5_hasItem_9 : decode cX5_hasItem 9 = .ok (.if_icmp .ge 13, 3) := by decide +kernel
theorem dX5_hasItem_12 : decode cX5_hasItem 12 = .ok (.iload_n 1, 1) := by decide +kernel
theorem dX5_hasItem_13 : decode cX5_hasItem 13 = .ok (.bipush 8, 2) := by decide +kernel
theorem dX5_hasItem_15 : decode cX5_hasItem 15 = .ok (.if_icmp .ge 7, 3) := by decide +kernel
theorem dX5_hasItem_18 : decode cX5_hasItem 18 = .ok (.iconst 1, 1) := by decide +kernel
theorem dX5_hasItem_19 : decode cX5_hasItem 19 = .ok (.goto 4, 3) := by decide +kernel
theorem dX5_hasItem_22 : decode cX5_hasItem 22 = .ok (.iconst 0, 1) := by decide +kernel
theorem dX5_hasItem_23 : decode cX5_hasItem 23 = .ok (.ireturn, 1) := by decide +kernel
theorem dX5_isWait_0 : decode cX5_isWait 0 = .ok (.aload_n 0, 1) := by decide +kernel
theorem dX5_isWait_1 : decode cX5_isWait 1 = .ok (.iload_n 1, 1) := by decide +kernel
theorem dX5_isWait_2 : decode cX5_isWait 2 = .ok (.invokevirtual 50, 3) := by decide +kernel
theorem dX5_isWait_5 : decode cX5_isWait 5 = .ok (.ifCond .eq 16, 3) := by decide +kernel
theorem dX5_isWait_8 : decode cX5_isWait 8 = .ok (.aload_n 0, 1) := by decide +kernel
theorem dX5_isWait_9 : decode cX5_isWait 9 = .ok (.getfield 25, 3) := by decide +kernel
theorem dX5_isWait_12 : decode cX5_isWait 12 = .ok (.iload_n 1, 1) := by decide +kernel
theorem dX5_isWait_13 : decode cX5_isWait 13 = .ok (.iaload, 1) := by decide +kernel
theorem dX5_isWait_14 : decode cX5_isWait 14 = .ok (.ifCond .le 7, 3) := by decide +kernel
theorem dX5_isWait_17 : decode cX5_isWait 17 = .ok (.iconst 1, 1) := by decide +kernel
theorem dX5_isWait_18 : decode cX5_isWait 18 = .ok (.goto 4, 3) := by decide +kernel
theorem dX5_isWait_21 : decode cX5_isWait 21 = .ok (.iconst 0, 1) := by decide +kernel
theorem dX5_isWait_22 : decode cX5_isWait 22 = .ok (.ireturn, 1) := by decide +kernel
theorem dX5_lengthOf_0 : decode cX5_lengthOf 0 = .ok (.aload_n 0, 1) := by decide +kernel
theorem dX5_lengthOf_1 : decode cX5_lengthOf 1 = .ok (.iload_n 1, 1) := by decide +kernel
theorem dX5_lengthOf_2 : decode cX5_lengthOf 2 = .ok (.invokevirtual 50, 3) := by decide +kernel
theorem dX5_lengthOf_5 : decode cX5_lengthOf 5 = .ok (.ifCond .eq 27, 3) := by decide +kernel
theorem dX5_lengthOf_8 : decode cX5_lengthOf 8 = .ok (.aload_n 0, 1) := by decide +kernel
theorem dX5_lengthOf_9 : decode cX5_lengthOf 9 = .ok (.getfield 18, 3) := by decide +kernel
theorem dX5_lengthOf_12 : decode cX5_lengthOf 12 = .ok (.iload_n 1, 1) := by decide +kernel
theorem dX5_lengthOf_13 : decode cX5_lengthOf 13 = .ok (.iaload, 1) := by decide +kernel
theorem dX5_lengthOf_14 : decode cX5_lengthOf 14 = .ok (.invokestatic 54, 3) := by decide +kernel
theorem dX5_lengthOf_17 : decode cX5_lengthOf 17 = .ok (.aload_n 0, 1) := by decide +kernel
theorem dX5_lengthOf_18 : decode cX5_lengthOf 18 = .ok (.getfield 22, 3) := by decide +kernel
theorem dX5_lengthOf_21 : decode cX5_lengthOf 21 = .ok (.iload_n 1, 1) := by decide +kernel
theorem dX5_lengthOf_22 : decode cX5_lengthOf 22 = .ok (.iaload, 1) := by decide +kernel
theorem dX5_lengthOf_23 : decode cX5_lengthOf 23 = .ok (.invokestatic 54, 3) := by decide +kernel
theorem dX5_lengthOf_26 : decode cX5_lengthOf 26 = .ok (.invokestatic 60, 3) := by decide +kernel
theorem dX5_lengthOf_29 : decode cX5_lengthOf 29 = .ok (.goto 4, 3) := by decide +kernel
theorem dX5_lengthOf_32 : decode cX5_lengthOf 32 = .ok (.iconst 0, 1) := by decide +kernel
theorem dX5_lengthOf_33 : decode cX5_lengthOf 33 = .ok (.ireturn, 1) := by decide +kernel
theorem dX5_stepsLeftOf_0 : decode cX5_stepsLeftOf 0 = .ok (.iload_n 1, 1) := by decide +kernel
theorem dX5_stepsLeftOf_1 : decode cX5_stepsLeftOf 1 = .ok (.ifCond .ne 17, 3) := by decide +kernel
theorem dX5_stepsLeftOf_4 : decode cX5_stepsLeftOf 4 = .ok (.aload_n 0, 1) := by decide +kernel
theorem dX5_stepsLeftOf_5 : decode cX5_stepsLeftOf 5 = .ok (.invokevirtual 64, 3) := by decide +kernel
theorem dX5_stepsLeftOf_8 : decode cX5_stepsLeftOf 8 = .ok (.ifCond .eq 10, 3) := by decide +kernel
theorem dX5_stepsLeftOf_11 : decode cX5_stepsLeftOf 11 = .ok (.aload_n 0, 1) := by decide +kernel
theorem dX5_stepsLeftOf_12 : decode cX5_stepsLeftOf 12 = .ok (.getfield 43, 3) := by decide +kernel
theorem dX5_stepsLeftOf_15 : decode cX5_stepsLeftOf 15 = .ok (.goto 8, 3) := by decide +kernel
theorem dX5_stepsLeftOf_18 : decode cX5_stepsLeftOf 18 = .ok (.aload_n 0, 1) := by decide +kernel
theorem dX5_stepsLeftOf_19 : decode cX5_stepsLeftOf 19 = .ok (.iload_n 1, 1) := by decide +kernel
theorem dX5_stepsLeftOf_20 : decode cX5_stepsLeftOf 20 = .ok (.invokevirtual 68, 3) := by decide +kernel
theorem dX5_stepsLeftOf_23 : decode cX5_stepsLeftOf 23 = .ok (.ireturn, 1) := by decide +kernel
theorem dX5_addItem_0 : decode cX5_addItem 0 = .ok (.aload_n 0, 1) := by decide +kernel
theorem dX5_addItem_1 : decode cX5_addItem 1 = .ok (.invokevirtual 71, 3) := by decide +kernel
theorem dX5_addItem_4 : decode cX5_addItem 4 = .ok (.ifCond .ne 10, 3) := by decide +kernel
theorem dX5_addItem_7 : decode cX5_addItem 7 = .ok (.aload_n 0, 1) := by decide +kernel
theorem dX5_addItem_8 : decode cX5_addItem 8 = .ok (.getfield 37, 3) := by decide +kernel
theorem dX5_addItem_11 : decode cX5_addItem 11 = .ok (.ifCond .ge 4, 3) := by decide +kernel
theorem dX5_addItem_14 : decode cX5_addItem 14 = .ok (.return_, 1) := by decide +kernel
theorem dX5_addItem_15 : decode cX5_addItem 15 = .ok (.aload_n 0, 1) := by decide +kernel
theorem dX5_addItem_16 : decode cX5_addItem 16 = .ok (.getfield 18, 3) := by decide +kernel
theorem dX5_addItem_19 : decode cX5_addItem 19 = .ok (.aload_n 0, 1) := by decide +kernel
theorem dX5_addItem_20 : decode cX5_addItem 20 = .ok (.getfield 37, 3) := by decide +kernel
theorem dX5_addItem_23 : decode cX5_addItem 23 = .ok (.iload_n 1, 1) := by decide +kernel
theorem dX5_addItem_24 : decode cX5_addItem 24 = .ok (.iastore, 1) := by decide +kernel
theorem dX5_addItem_25 : decode cX5_addItem 25 = .ok (.aload_n 0, 1) := by decide +kernel
theorem dX5_addItem_26 : decode cX5_addItem 26 = .ok (.getfield 22, 3) := by decide +kernel
theorem dX5_addItem_29 : decode cX5_addItem 29 = .ok (.aload_n 0, 1) := by decide +kernel
theorem dX5_addItem_30 : decode cX5_addItem 30 = .ok (.getfield 37, 3) := by decide +kernel
theorem dX5_addItem_33 : decode cX5_addItem 33 = .ok (.iload_n 2, 1) := by decide +kernel
theorem dX5_addItem_34 : decode cX5_addItem 34 = .ok (.iastore, 1) := by decide +kernel
theorem dX5_addItem_35 : decode cX5_addItem 35 = .ok (.aload_n 0, 1) := by decide +kernel
theorem dX5_addItem_36 : decode cX5_addItem 36 = .ok (.getfield 25, 3) := by decide +kernel
theorem dX5_addItem_39 : decode cX5_addItem 39 = .ok (.aload_n 0, 1) := by decide +kernel
theorem dX5_addItem_40 : decode cX5_addItem 40 = .ok (.getfield 37, 3) := by decide +kernel
theorem dX5_addItem_43 : decode cX5_addItem 43 = .ok (.iload_n 3, 1) := by decide +kernel
theorem dX5_addItem_44 : decode cX5_addItem 44 = .ok (.iastore, 1) := by decide +kernel
theorem dX5_addItem_45 : decode cX5_addItem 45 = .ok (.aload_n 0, 1) := by decide +kernel
theorem dX5_addItem_46 : decode cX5_addItem 46 = .ok (.dup, 1) := by decide +kernel
theorem dX5_addItem_47 : decode cX5_addItem 47 = .ok (.getfield 37, 3) := by decide +kernel
theorem dX5_addItem_50 : decode cX5_addItem 50 = .ok (.iconst 1, 1) := by decide +kernel
theorem dX5_addItem_51 : decode cX5_addItem 51 = .ok (.iadd, 1) := by decide +kernel
theorem dX5_addItem_52 : decode cX5_addItem 52 = .ok (.putfield 37, 3) := by decide +kernel
theorem dX5_addItem_55 : decode cX5_addItem 55 = .ok (.return_, 1) := by decide +kernel
theorem dX5_dropItem_0 : decode cX5_dropItem 0 = .ok (.aload_n 0, 1) := by decide +kernel
theorem dX5_dropItem_1 : decode cX5_dropItem 1 = .ok (.iload_n 1, 1) := by decide +kernel
theorem dX5_dropItem_2 : decode cX5_dropItem 2 = .ok (.invokevirtual 50, 3) := by decide +kernel
theorem dX5_dropItem_5 : decode cX5_dropItem 5 = .ok (.ifCond .ne 4, 3) := by decide +kernel
theorem dX5_dropItem_8 : decode cX5_dropItem 8 = .ok (.return_, 1) := by decide +kernel
theorem dX5_dropItem_9 : decode cX5_dropItem 9 = .ok (.iload_n 1, 1) := by decide +kernel
theorem dX5_dropItem_10 : decode cX5_dropItem 10 = .ok (.ifCond .ne 8, 3) := by decide +kernel
theorem dX5_dropItem_13 : decode cX5_dropItem 13 = .ok (.aload_n 0, 1) := by decide +kernel
theorem dX5_dropItem_14 : decode cX5_dropItem 14 = .ok (.iconst 0, 1) := by decide +kernel
theorem dX5_dropItem_15 : decode cX5_dropItem 15 = .ok (.putfield 40, 3) := by decide +kernel
theorem dX5_dropItem_18 : decode cX5_dropItem 18 = .ok (.aload_n 0, 1) := by decide +kernel
theorem dX5_dropItem_19 : decode cX5_dropItem 19 = .ok (.dup, 1) := by decide +kernel
theorem dX5_dropItem_20 : decode cX5_dropItem 20 = .ok (.getfield 37, 3) := by decide +kernel
theorem dX5_dropItem_23 : decode cX5_dropItem 23 = .ok (.iconst 1, 1) := by decide +kernel
theorem dX5_dropItem_24 : decode cX5_dropItem 24 = .ok (.isub, 1) := by decide +kernel
theorem dX5_dropItem_25 : decode cX5_dropItem 25 = .ok (.putfield 37, 3) := by decide +kernel
theorem dX5_dropItem_28 : decode cX5_dropItem 28 = .ok (.iload_n 1, 1) := by decide +kernel
theorem dX5_dropItem_29 : decode cX5_dropItem 29 = .ok (.istore_n 2, 1) := by decide +kernel
theorem dX5_dropItem_30 : decode cX5_dropItem 30 = .ok (.iload_n 2, 1) := by decide +kernel
theorem dX5_dropItem_31 : decode cX5_dropItem 31 = .ok (.aload_n 0, 1) := by decide +kernel
theorem dX5_dropItem_32 : decode cX5_dropItem 32 = .ok (.getfield 37, 3) := by decide +kernel
theorem dX5_dropItem_35 : decode cX5_dropItem 35 = .ok (.if_icmp .ge 59, 3) := by decide +kernel
theorem dX5_dropItem_38 : decode cX5_dropItem 38 = .ok (.iload_n 2, 1) := by decide +kernel
theorem dX5_dropItem_39 : decode cX5_dropItem 39 = .ok (.iconst 1, 1) := by decide +kernel
theorem dX5_dropItem_40 : decode cX5_dropItem 40 = .ok (.iadd, 1) := by decide +kernel
theorem dX5_dropItem_41 : decode cX5_dropItem 41 = .ok (.bipush 8, 2) := by decide +kernel
theorem dX5_dropItem_43 : decode cX5_dropItem 43 = .ok (.if_icmp .ge 51, 3) := by decide +kernel
theorem dX5_dropItem_46 : decode cX5_dropItem 46 = .ok (.aload_n 0, 1) := by decide +kernel
theorem dX5_dropItem_47 : decode cX5_dropItem 47 = .ok (.getfield 18, 3) := by decide +kernel
theorem dX5_dropItem_50 : decode cX5_dropItem 50 = .ok (.iload_n 2, 1) := by decide +kernel
theorem dX5_dropItem_51 : decode cX5_dropItem 51 = .ok (.aload_n 0, 1) := by decide +kernel
theorem dX5_dropItem_52 : decode cX5_dropItem 52 = .ok (.getfield 18, 3) := by decide +kernel
theorem dX5_dropItem_55 : decode cX5_dropItem 55 = .ok (.iload_n 2, 1) := by decide +kernel
theorem dX5_dropItem_56 : decode cX5_dropItem 56 = .ok (.iconst 1, 1) := by decide +kernel
theorem dX5_dropItem_57 : decode cX5_dropItem 57 = .ok (.iadd, 1) := by decide +kernel
theorem dX5_dropItem_58 : decode cX5_dropItem 58 = .ok (.iaload, 1) := by decide +kernel
theorem dX5_dropItem_59 : decode cX5_dropItem 59 = .ok (.iastore, 1) := by decide +kernel
theorem dX5_dropItem_60 : decode cX5_dropItem 60 = .ok (.aload_n 0, 1) := by decide +kernel
theorem dX5_dropItem_61 : decode cX5_dropItem 61 = .ok (.getfield 22, 3) := by decide +kernel
theorem dX5_dropItem_64 : decode cX5_dropItem 64 = .ok (.iload_n 2, 1) := by decide +kernel
theorem dX5_dropItem_65 : decode cX5_dropItem 65 = .ok (.aload_n 0, 1) := by decide +kernel
theorem dX5_dropItem_66 : decode cX5_dropItem 66 = .ok (.getfield 22, 3) := by decide +kernel
theorem dX5_dropItem_69 : decode cX5_dropItem 69 = .ok (.iload_n 2, 1) := by decide +kernel
theorem dX5_dropItem_70 : decode cX5_dropItem 70 = .ok (.iconst 1, 1) := by decide +kernel
theorem dX5_dropItem_71 : decode cX5_dropItem 71 = .ok (.iadd, 1) := by decide +kernel
theorem dX5_dropItem_72 : decode cX5_dropItem 72 = .ok (.iaload, 1) := by decide +kernel
theorem dX5_dropItem_73 : decode cX5_dropItem 73 = .ok (.iastore, 1) := by decide +kernel
theorem dX5_dropItem_74 : decode cX5_dropItem 74 = .ok (.aload_n 0, 1) := by decide +kernel
theorem dX5_dropItem_75 : decode cX5_dropItem 75 = .ok (.getfield 25, 3) := by decide +kernel
theorem dX5_dropItem_78 : decode cX5_dropItem 78 = .ok (.iload_n 2, 1) := by decide +kernel
theorem dX5_dropItem_79 : decode cX5_dropItem 79 = .ok (.aload_n 0, 1) := by decide +kernel
theorem dX5_dropItem_80 : decode cX5_dropItem 80 = .ok (.getfield 25, 3) := by decide +kernel
theorem dX5_dropItem_83 : decode cX5_dropItem 83 = .ok (.iload_n 2, 1) := by decide +kernel
theorem dX5_dropItem_84 : decode cX5_dropItem 84 = .ok (.iconst 1, 1) := by decide +kernel
theorem dX5_dropItem_85 : decode cX5_dropItem 85 = .ok (.iadd, 1) := by decide +kernel
theorem dX5_dropItem_86 : decode cX5_dropItem 86 = .ok (.iaload, 1) := by decide +kernel
theorem dX5_dropItem_87 : decode cX5_dropItem 87 = .ok (.iastore, 1) := by decide +kernel
theorem dX5_dropItem_88 : decode cX5_dropItem 88 = .ok (.iinc 2 1, 3) := by decide +kernel
theorem dX5_dropItem_91 : decode cX5_dropItem 91 = .ok (.goto (-61), 3) := by decide +kernel
theorem dX5_dropItem_94 : decode cX5_dropItem 94 = .ok (.return_, 1) := by decide +kernel
theorem dX5_halt_0 : decode cX5_halt 0 = .ok (.aload_n 0, 1) := by decide +kernel
theorem dX5_halt_1 : decode cX5_halt 1 = .ok (.iconst 1, 1) := by decide +kernel
theorem dX5_halt_2 : decode cX5_halt 2 = .ok (.putfield 37, 3) := by decide +kernel
theorem dX5_halt_5 : decode cX5_halt 5 = .ok (.aload_n 0, 1) := by decide +kernel
theorem dX5_halt_6 : decode cX5_halt 6 = .ok (.aload_n 0, 1) := by decide +kernel
theorem dX5_halt_7 : decode cX5_halt 7 = .ok (.getfield 46, 3) := by decide +kernel
theorem dX5_halt_10 : decode cX5_halt 10 = .ok (.putfield 43, 3) := by decide +kernel
theorem dX5_halt_13 : decode cX5_halt 13 = .ok (.aload_n 0, 1) := by decide +kernel
theorem dX5_halt_14 : decode cX5_halt 14 = .ok (.getfield 43, 3) := by decide +kernel
theorem dX5_halt_17 : decode cX5_halt 17 = .ok (.ifCond .ne 8, 3) := by decide +kernel
theorem dX5_halt_20 : decode cX5_halt 20 = .ok (.aload_n 0, 1) := by decide +kernel
theorem dX5_halt_21 : decode cX5_halt 21 = .ok (.iconst 0, 1) := by decide +kernel
theorem dX5_halt_22 : decode cX5_halt 22 = .ok (.invokevirtual 74, 3) := by decide +kernel
theorem dX5_halt_25 : decode cX5_halt 25 = .ok (.aload_n 0, 1) := by decide +kernel
theorem dX5_halt_26 : decode cX5_halt 26 = .ok (.getfield 46, 3) := by decide +kernel
theorem dX5_halt_29 : decode cX5_halt 29 = .ok (.ireturn, 1) := by decide +kernel
theorem dX5_advance_0 : decode cX5_advance 0 = .ok (.aload_n 1, 1) := by decide +kernel
theorem dX5_advance_1 : decode cX5_advance 1 = .ok (.aload_n 0, 1) := by decide +kernel
theorem dX5_advance_2 : decode cX5_advance 2 = .ok (.getfield 9, 3) := by decide +kernel
theorem dX5_advance_5 : decode cX5_advance 5 = .ok (.aload_n 0, 1) := by decide +kernel
theorem dX5_advance_6 : decode cX5_advance 6 = .ok (.getfield 15, 3) := by decide +kernel
theorem dX5_advance_9 : decode cX5_advance 9 = .ok (.invokevirtual 78, 3) := by decide +kernel
theorem dX5_advance_12 : decode cX5_advance 12 = .ok (.aload_n 0, 1) := by decide +kernel
theorem dX5_advance_13 : decode cX5_advance 13 = .ok (.getfield 34, 3) := by decide +kernel
theorem dX5_advance_16 : decode cX5_advance 16 = .ok (.istore 4, 2) := by decide +kernel
theorem dX5_advance_18 : decode cX5_advance 18 = .ok (.iconst 0, 1) := by decide +kernel
theorem dX5_advance_19 : decode cX5_advance 19 = .ok (.istore 5, 2) := by decide +kernel
theorem dX5_advance_21 : decode cX5_advance 21 = .ok (.iconst 0, 1) := by decide +kernel
theorem dX5_advance_22 : decode cX5_advance 22 = .ok (.istore 6, 2) := by decide +kernel
theorem dX5_advance_24 : decode cX5_advance 24 = .ok (.iload 6, 2) := by decide +kernel
theorem dX5_advance_26 : decode cX5_advance 26 = .ok (.bipush 8, 2) := by decide +kernel
theorem dX5_advance_28 : decode cX5_advance 28 = .ok (.if_icmp .ge 76, 3) := by decide +kernel
theorem dX5_advance_31 : decode cX5_advance 31 = .ok (.aload_n 0, 1) := by decide +kernel
theorem dX5_advance_32 : decode cX5_advance 32 = .ok (.getfield 37, 3) := by decide +kernel
theorem dX5_advance_35 : decode cX5_advance 35 = .ok (.ifCond .le 69, 3) := by decide +kernel
theorem dX5_advance_38 : decode cX5_advance 38 = .ok (.iload_n 3, 1) := by decide +kernel
theorem dX5_advance_39 : decode cX5_advance 39 = .ok (.aload_n 0, 1) := by decide +kernel
theorem dX5_advance_40 : decode cX5_advance 40 = .ok (.getfield 34, 3) := by decide +kernel
theorem dX5_advance_43 : decode cX5_advance 43 = .ok (.iload 4, 2) := by decide +kernel
theorem dX5_advance_45 : decode cX5_advance 45 = .ok (.isub, 1) := by decide +kernel
theorem dX5_advance_46 : decode cX5_advance 46 = .ok (.isub, 1) := by decide +kernel
theorem dX5_advance_47 : decode cX5_advance 47 = .ok (.istore 7, 2) := by decide +kernel
theorem dX5_advance_49 : decode cX5_advance 49 = .ok (.aload_n 0, 1) := by decide +kernel
theorem dX5_advance_50 : decode cX5_advance 50 = .ok (.iconst 0, 1) := by decide +kernel
theorem dX5_advance_51 : decode cX5_advance 51 = .ok (.invokevirtual 84, 3) := by decide +kernel
theorem dX5_advance_54 : decode cX5_advance 54 = .ok (.ifCond .eq 16, 3) := by decide +kernel
theorem dX5_advance_57 : decode cX5_advance 57 = .ok (.aload_n 0, 1) := by decide +kernel
theorem dX5_advance_58 : decode cX5_advance 58 = .ok (.iload_n 2, 1) := by decide +kernel
theorem dX5_advance_59 : decode cX5_advance 59 = .ok (.iload 5, 2) := by decide +kernel
theorem dX5_advance_61 : decode cX5_advance 61 = .ok (.isub, 1) := by decide +kernel
theorem dX5_advance_62 : decode cX5_advance 62 = .ok (.iload 7, 2) := by decide +kernel
theorem dX5_advance_64 : decode cX5_advance 64 = .ok (.invokevirtual 87, 3) := by decide +kernel
theorem dX5_advance_67 : decode cX5_advance 67 = .ok (.goto 14, 3) := by decide +kernel
theorem dX5_advance_70 : decode cX5_advance 70 = .ok (.aload_n 0, 1) := by decide +kernel
theorem dX5_advance_71 : decode cX5_advance 71 = .ok (.aload_n 1, 1) := by decide +kernel
theorem dX5_advance_72 : decode cX5_advance 72 = .ok (.iload_n 2, 1) := by decide +kernel
theorem dX5_advance_73 : decode cX5_advance 73 = .ok (.iload 5, 2) := by decide +kernel
theorem dX5_advance_75 : decode cX5_advance 75 = .ok (.isub, 1) := by decide +kernel
theorem dX5_advance_76 : decode cX5_advance 76 = .ok (.iload 7, 2) := by decide +kernel
theorem dX5_advance_78 : decode cX5_advance 78 = .ok (.invokevirtual 90, 3) := by decide +kernel
theorem dX5_advance_81 : decode cX5_advance 81 = .ok (.istore 8, 2) := by decide +kernel
theorem dX5_advance_83 : decode cX5_advance 83 = .ok (.iload 8, 2) := by decide +kernel
theorem dX5_advance_85 : decode cX5_advance 85 = .ok (.ifCond .ne 6, 3) := by decide +kernel
theorem dX5_advance_88 : decode cX5_advance 88 = .ok (.goto 16, 3) := by decide +kernel
theorem dX5_advance_91 : decode cX5_advance 91 = .ok (.iload 5, 2) := by decide +kernel
theorem dX5_advance_93 : decode cX5_advance 93 = .ok (.iload 8, 2) := by decide +kernel
theorem dX5_advance_95 : decode cX5_advance 95 = .ok (.iadd, 1) := by decide +kernel
theorem dX5_advance_96 : decode cX5_advance 96 = .ok (.istore 5, 2) := by decide +kernel
theorem dX5_advance_98 : decode cX5_advance 98 = .ok (.iinc 6 1, 3) := by decide +kernel
theorem dX5_advance_101 : decode cX5_advance 101 = .ok (.goto (-77), 3) := by decide +kernel
theorem dX5_advance_104 : decode cX5_advance 104 = .ok (.iload 5, 2) := by decide +kernel
theorem dX5_advance_106 : decode cX5_advance 106 = .ok (.ireturn, 1) := by decide +kernel
theorem dX5_passWait_0 : decode cX5_passWait 0 = .ok (.iload_n 1, 1) := by decide +kernel
theorem dX5_passWait_1 : decode cX5_passWait 1 = .ok (.iconst 1, 1) := by decide +kernel
theorem dX5_passWait_2 : decode cX5_passWait 2 = .ok (.if_icmp .lt 13, 3) := by decide +kernel
theorem dX5_passWait_5 : decode cX5_passWait 5 = .ok (.aload_n 0, 1) := by decide +kernel
theorem dX5_passWait_6 : decode cX5_passWait 6 = .ok (.getfield 25, 3) := by decide +kernel
theorem dX5_passWait_9 : decode cX5_passWait 9 = .ok (.iconst 0, 1) := by decide +kernel
theorem dX5_passWait_10 : decode cX5_passWait 10 = .ok (.iaload, 1) := by decide +kernel
theorem dX5_passWait_11 : decode cX5_passWait 11 = .ok (.iload_n 2, 1) := by decide +kernel
theorem dX5_passWait_12 : decode cX5_passWait 12 = .ok (.if_icmp .le 5, 3) := by decide +kernel
theorem dX5_passWait_15 : decode cX5_passWait 15 = .ok (.iconst 0, 1) := by decide +kernel
theorem dX5_passWait_16 : decode cX5_passWait 16 = .ok (.ireturn, 1) := by decide +kernel
theorem dX5_passWait_17 : decode cX5_passWait 17 = .ok (.aload_n 0, 1) := by decide +kernel
theorem dX5_passWait_18 : decode cX5_passWait 18 = .ok (.dup, 1) := by decide +kernel
theorem dX5_passWait_19 : decode cX5_passWait 19 = .ok (.getfield 34, 3) := by decide +kernel
theorem dX5_passWait_22 : decode cX5_passWait 22 = .ok (.aload_n 0, 1) := by decide +kernel
theorem dX5_passWait_23 : decode cX5_passWait 23 = .ok (.getfield 25, 3) := by decide +kernel
theorem dX5_passWait_26 : decode cX5_passWait 26 = .ok (.iconst 0, 1) := by decide +kernel
theorem dX5_passWait_27 : decode cX5_passWait 27 = .ok (.iaload, 1) := by decide +kernel
theorem dX5_passWait_28 : decode cX5_passWait 28 = .ok (.iadd, 1) := by decide +kernel
theorem dX5_passWait_29 : decode cX5_passWait 29 = .ok (.putfield 34, 3) := by decide +kernel
theorem dX5_passWait_32 : decode cX5_passWait 32 = .ok (.aload_n 0, 1) := by decide +kernel
theorem dX5_passWait_33 : decode cX5_passWait 33 = .ok (.iconst 0, 1) := by decide +kernel
theorem dX5_passWait_34 : decode cX5_passWait 34 = .ok (.invokevirtual 74, 3) := by decide +kernel
theorem dX5_passWait_37 : decode cX5_passWait 37 = .ok (.iconst 1, 1) := by decide +kernel
theorem dX5_passWait_38 : decode cX5_passWait 38 = .ok (.ireturn, 1) := by decide +kernel
theorem dX5_advanceMove_0 : decode cX5_advanceMove 0 = .ok (.aload_n 0, 1) := by decide +kernel
theorem dX5_advanceMove_1 : decode cX5_advanceMove 1 = .ok (.getfield 40, 3) := by decide +kernel
theorem dX5_advanceMove_4 : decode cX5_advanceMove 4 = .ok (.istore 4, 2) := by decide +kernel
theorem dX5_advanceMove_6 : decode cX5_advanceMove 6 = .ok (.iload 4, 2) := by decide +kernel
theorem dX5_advanceMove_8 : decode cX5_advanceMove 8 = .ok (.ifCond .ne 12, 3) := by decide +kernel
theorem dX5_advanceMove_11 : decode cX5_advanceMove 11 = .ok (.aload_n 0, 1) := by decide +kernel
theorem dX5_advanceMove_12 : decode cX5_advanceMove 12 = .ok (.aload_n 0, 1) := by decide +kernel
theorem dX5_advanceMove_13 : decode cX5_advanceMove 13 = .ok (.iconst 0, 1) := by decide +kernel
theorem dX5_advanceMove_14 : decode cX5_advanceMove 14 = .ok (.invokevirtual 68, 3) := by decide +kernel
theorem dX5_advanceMove_17 : decode cX5_advanceMove 17 = .ok (.putfield 43, 3) := by decide +kernel
theorem dX5_advanceMove_20 : decode cX5_advanceMove 20 = .ok (.aload_n 1, 1) := by decide +kernel
theorem dX5_advanceMove_21 : decode cX5_advanceMove 21 = .ok (.aload_n 0, 1) := by decide +kernel
theorem dX5_advanceMove_22 : decode cX5_advanceMove 22 = .ok (.getfield 43, 3) := by decide +kernel
theorem dX5_advanceMove_25 : decode cX5_advanceMove 25 = .ok (.invokevirtual 94, 3) := by decide +kernel
theorem dX5_advanceMove_28 : decode cX5_advanceMove 28 = .ok (.istore 5, 2) := by decide +kernel
theorem dX5_advanceMove_30 : decode cX5_advanceMove 30 = .ok (.iload 4, 2) := by decide +kernel
theorem dX5_advanceMove_32 : decode cX5_advanceMove 32 = .ok (.ifCond .ne 26, 3) := by decide +kernel
theorem dX5_advanceMove_35 : decode cX5_advanceMove 35 = .ok (.aload_n 0, 1) := by decide +kernel
theorem dX5_advanceMove_36 : decode cX5_advanceMove 36 = .ok (.getfield 43, 3) := by decide +kernel
theorem dX5_advanceMove_39 : decode cX5_advanceMove 39 = .ok (.iload_n 2, 1) := by decide +kernel
theorem dX5_advanceMove_40 : decode cX5_advanceMove 40 = .ok (.if_icmp .gt 18, 3) := by decide +kernel
theorem dX5_advanceMove_43 : decode cX5_advanceMove 43 = .ok (.iload 5, 2) := by decide +kernel
theorem dX5_advanceMove_45 : decode cX5_advanceMove 45 = .ok (.iload_n 3, 1) := by decide +kernel
theorem dX5_advanceMove_46 : decode cX5_advanceMove 46 = .ok (.if_icmp .gt 12, 3) := by decide +kernel
theorem dX5_advanceMove_49 : decode cX5_advanceMove 49 = .ok (.aload_n 0, 1) := by decide +kernel
theorem dX5_advanceMove_50 : decode cX5_advanceMove 50 = .ok (.iload 5, 2) := by decide +kernel
theorem dX5_advanceMove_52 : decode cX5_advanceMove 52 = .ok (.invokevirtual 97, 3) := by decide +kernel
theorem dX5_advanceMove_55 : decode cX5_advanceMove 55 = .ok (.goto 17, 3) := by decide +kernel
theorem dX5_advanceMove_58 : decode cX5_advanceMove 58 = .ok (.aload_n 0, 1) := by decide +kernel
theorem dX5_advanceMove_59 : decode cX5_advanceMove 59 = .ok (.aload_n 1, 1) := by decide +kernel
theorem dX5_advanceMove_60 : decode cX5_advanceMove 60 = .ok (.iload_n 2, 1) := by decide +kernel
theorem dX5_advanceMove_61 : decode cX5_advanceMove 61 = .ok (.aload_n 0, 1) := by decide +kernel
theorem dX5_advanceMove_62 : decode cX5_advanceMove 62 = .ok (.getfield 43, 3) := by decide +kernel
theorem dX5_advanceMove_65 : decode cX5_advanceMove 65 = .ok (.invokestatic 100, 3) := by decide +kernel
theorem dX5_advanceMove_68 : decode cX5_advanceMove 68 = .ok (.iload_n 3, 1) := by decide +kernel
theorem dX5_advanceMove_69 : decode cX5_advanceMove 69 = .ok (.invokevirtual 103, 3) := by decide +kernel
theorem dX5_advanceMove_72 : decode cX5_advanceMove 72 = .ok (.aload_n 0, 1) := by decide +kernel
theorem dX5_advanceMove_73 : decode cX5_advanceMove 73 = .ok (.getfield 40, 3) := by decide +kernel
theorem dX5_advanceMove_76 : decode cX5_advanceMove 76 = .ok (.iload 4, 2) := by decide +kernel
theorem dX5_advanceMove_78 : decode cX5_advanceMove 78 = .ok (.isub, 1) := by decide +kernel
theorem dX5_advanceMove_79 : decode cX5_advanceMove 79 = .ok (.istore 6, 2) := by decide +kernel
theorem dX5_advanceMove_81 : decode cX5_advanceMove 81 = .ok (.aload_n 0, 1) := by decide +kernel
theorem dX5_advanceMove_82 : decode cX5_advanceMove 82 = .ok (.iload 4, 2) := by decide +kernel
theorem dX5_advanceMove_84 : decode cX5_advanceMove 84 = .ok (.invokevirtual 107, 3) := by decide +kernel
theorem dX5_advanceMove_87 : decode cX5_advanceMove 87 = .ok (.aload_n 0, 1) := by decide +kernel
theorem dX5_advanceMove_88 : decode cX5_advanceMove 88 = .ok (.getfield 43, 3) := by decide +kernel
theorem dX5_advanceMove_91 : decode cX5_advanceMove 91 = .ok (.ifCond .ne 8, 3) := by decide +kernel
theorem dX5_advanceMove_94 : decode cX5_advanceMove 94 = .ok (.aload_n 0, 1) := by decide +kernel
theorem dX5_advanceMove_95 : decode cX5_advanceMove 95 = .ok (.iconst 0, 1) := by decide +kernel
theorem dX5_advanceMove_96 : decode cX5_advanceMove 96 = .ok (.invokevirtual 74, 3) := by decide +kernel
theorem dX5_advanceMove_99 : decode cX5_advanceMove 99 = .ok (.iload 6, 2) := by decide +kernel
theorem dX5_advanceMove_101 : decode cX5_advanceMove 101 = .ok (.ireturn, 1) := by decide +kernel
theorem dX5_passWholeMove_0 : decode cX5_passWholeMove 0 = .ok (.aload_n 0, 1) := by decide +kernel
theorem dX5_passWholeMove_1 : decode cX5_passWholeMove 1 = .ok (.dup, 1) := by decide +kernel
theorem dX5_passWholeMove_2 : decode cX5_passWholeMove 2 = .ok (.getfield 34, 3) := by decide +kernel
theorem dX5_passWholeMove_5 : decode cX5_passWholeMove 5 = .ok (.iload_n 1, 1) := by decide +kernel
theorem dX5_passWholeMove_6 : decode cX5_passWholeMove 6 = .ok (.iadd, 1) := by decide +kernel
theorem dX5_passWholeMove_7 : decode cX5_passWholeMove 7 = .ok (.putfield 34, 3) := by decide +kernel
theorem dX5_passWholeMove_10 : decode cX5_passWholeMove 10 = .ok (.aload_n 0, 1) := by decide +kernel
theorem dX5_passWholeMove_11 : decode cX5_passWholeMove 11 = .ok (.aload_n 0, 1) := by decide +kernel
theorem dX5_passWholeMove_12 : decode cX5_passWholeMove 12 = .ok (.getfield 43, 3) := by decide +kernel
theorem dX5_passWholeMove_15 : decode cX5_passWholeMove 15 = .ok (.putfield 40, 3) := by decide +kernel
theorem dX5_passWholeMove_18 : decode cX5_passWholeMove 18 = .ok (.aload_n 0, 1) := by decide +kernel
theorem dX5_passWholeMove_19 : decode cX5_passWholeMove 19 = .ok (.iconst 0, 1) := by decide +kernel
theorem dX5_passWholeMove_20 : decode cX5_passWholeMove 20 = .ok (.putfield 43, 3) := by decide +kernel
theorem dX5_passWholeMove_23 : decode cX5_passWholeMove 23 = .ok (.return_, 1) := by decide +kernel
theorem dX5_makeSteps_0 : decode cX5_makeSteps 0 = .ok (.iload_n 3, 1) := by decide +kernel
theorem dX5_makeSteps_1 : decode cX5_makeSteps 1 = .ok (.istore 4, 2) := by decide +kernel
theorem dX5_makeSteps_3 : decode cX5_makeSteps 3 = .ok (.iconst 0, 1) := by decide +kernel
theorem dX5_makeSteps_4 : decode cX5_makeSteps 4 = .ok (.istore 5, 2) := by decide +kernel
theorem dX5_makeSteps_6 : decode cX5_makeSteps 6 = .ok (.iload 5, 2) := by decide +kernel
theorem dX5_makeSteps_8 : decode cX5_makeSteps 8 = .ok (.iload_n 2, 1) := by decide +kernel
theorem dX5_makeSteps_9 : decode cX5_makeSteps 9 = .ok (.if_icmp .ge 70, 3) := by decide +kernel
theorem dX5_makeSteps_12 : decode cX5_makeSteps 12 = .ok (.aload_n 0, 1) := by decide +kernel
theorem dX5_makeSteps_13 : decode cX5_makeSteps 13 = .ok (.aload_n 1, 1) := by decide +kernel
theorem dX5_makeSteps_14 : decode cX5_makeSteps 14 = .ok (.getfield 110, 3) := by decide +kernel
theorem dX5_makeSteps_17 : decode cX5_makeSteps 17 = .ok (.invokevirtual 113, 3) := by decide +kernel
theorem dX5_makeSteps_20 : decode cX5_makeSteps 20 = .ok (.istore 6, 2) := by decide +kernel
theorem dX5_makeSteps_22 : decode cX5_makeSteps 22 = .ok (.aload_n 1, 1) := by decide +kernel
theorem dX5_makeSteps_23 : decode cX5_makeSteps 23 = .ok (.iload 6, 2) := by decide +kernel
theorem dX5_makeSteps_25 : decode cX5_makeSteps 25 = .ok (.invokevirtual 116, 3) := by decide +kernel
theorem dX5_makeSteps_28 : decode cX5_makeSteps 28 = .ok (.istore 7, 2) := by decide +kernel
theorem dX5_makeSteps_30 : decode cX5_makeSteps 30 = .ok (.iload 7, 2) := by decide +kernel
theorem dX5_makeSteps_32 : decode cX5_makeSteps 32 = .ok (.iload 4, 2) := by decide +kernel
theorem dX5_makeSteps_34 : decode cX5_makeSteps 34 = .ok (.if_icmp .le 6, 3) := by decide +kernel
theorem dX5_makeSteps_37 : decode cX5_makeSteps 37 = .ok (.goto 42, 3) := by decide +kernel
theorem dX5_makeSteps_40 : decode cX5_makeSteps 40 = .ok (.iload 4, 2) := by decide +kernel
theorem dX5_makeSteps_42 : decode cX5_makeSteps 42 = .ok (.iload 7, 2) := by decide +kernel
theorem dX5_makeSteps_44 : decode cX5_makeSteps 44 = .ok (.isub, 1) := by decide +kernel
theorem dX5_makeSteps_45 : decode cX5_makeSteps 45 = .ok (.istore 4, 2) := by decide +kernel
theorem dX5_makeSteps_47 : decode cX5_makeSteps 47 = .ok (.aload_n 0, 1) := by decide +kernel
theorem dX5_makeSteps_48 : decode cX5_makeSteps 48 = .ok (.iload 6, 2) := by decide +kernel
theorem dX5_makeSteps_50 : decode cX5_makeSteps 50 = .ok (.putfield 46, 3) := by decide +kernel
theorem dX5_makeSteps_53 : decode cX5_makeSteps 53 = .ok (.aload_n 0, 1) := by decide +kernel
theorem dX5_makeSteps_54 : decode cX5_makeSteps 54 = .ok (.dup, 1) := by decide +kernel
theorem dX5_makeSteps_55 : decode cX5_makeSteps 55 = .ok (.getfield 40, 3) := by decide +kernel
theorem dX5_makeSteps_58 : decode cX5_makeSteps 58 = .ok (.iconst 1, 1) := by decide +kernel
theorem dX5_makeSteps_59 : decode cX5_makeSteps 59 = .ok (.iadd, 1) := by decide +kernel
theorem dX5_makeSteps_60 : decode cX5_makeSteps 60 = .ok (.putfield 40, 3) := by decide +kernel
theorem dX5_makeSteps_63 : decode cX5_makeSteps 63 = .ok (.aload_n 0, 1) := by decide +kernel
theorem dX5_makeSteps_64 : decode cX5_makeSteps 64 = .ok (.dup, 1) := by decide +kernel
theorem dX5_makeSteps_65 : decode cX5_makeSteps 65 = .ok (.getfield 43, 3) := by decide +kernel
theorem dX5_makeSteps_68 : decode cX5_makeSteps 68 = .ok (.iconst 1, 1) := by decide +kernel
theorem dX5_makeSteps_69 : decode cX5_makeSteps 69 = .ok (.isub, 1) := by decide +kernel
theorem dX5_makeSteps_70 : decode cX5_makeSteps 70 = .ok (.putfield 43, 3) := by decide +kernel
theorem dX5_makeSteps_73 : decode cX5_makeSteps 73 = .ok (.iinc 5 1, 3) := by decide +kernel
theorem dX5_makeSteps_76 : decode cX5_makeSteps 76 = .ok (.goto (-70), 3) := by decide +kernel
theorem dX5_makeSteps_79 : decode cX5_makeSteps 79 = .ok (.aload_n 0, 1) := by decide +kernel
theorem dX5_makeSteps_80 : decode cX5_makeSteps 80 = .ok (.dup, 1) := by decide +kernel
theorem dX5_makeSteps_81 : decode cX5_makeSteps 81 = .ok (.getfield 34, 3) := by decide +kernel
theorem dX5_makeSteps_84 : decode cX5_makeSteps 84 = .ok (.iload_n 3, 1) := by decide +kernel
theorem dX5_makeSteps_85 : decode cX5_makeSteps 85 = .ok (.iload 4, 2) := by decide +kernel
theorem dX5_makeSteps_87 : decode cX5_makeSteps 87 = .ok (.isub, 1) := by decide +kernel
theorem dX5_makeSteps_88 : decode cX5_makeSteps 88 = .ok (.iadd, 1) := by decide +kernel
theorem dX5_makeSteps_89 : decode cX5_makeSteps 89 = .ok (.putfield 34, 3) := by decide +kernel
theorem dX5_makeSteps_92 : decode cX5_makeSteps 92 = .ok (.return_, 1) := by decide +kernel
theorem dX5_nextIndex_0 : decode cX5_nextIndex 0 = .ok (.aload_n 0, 1) := by decide +kernel
theorem dX5_nextIndex_1 : decode cX5_nextIndex 1 = .ok (.getfield 40, 3) := by decide +kernel
theorem dX5_nextIndex_4 : decode cX5_nextIndex 4 = .ok (.ifCond .ne 5, 3) := by decide +kernel
theorem dX5_nextIndex_7 : decode cX5_nextIndex 7 = .ok (.iconst 0, 1) := by decide +kernel
theorem dX5_nextIndex_8 : decode cX5_nextIndex 8 = .ok (.ireturn, 1) := by decide +kernel
theorem dX5_nextIndex_9 : decode cX5_nextIndex 9 = .ok (.aload_n 0, 1) := by decide +kernel
theorem dX5_nextIndex_10 : decode cX5_nextIndex 10 = .ok (.getfield 43, 3) := by decide +kernel
theorem dX5_nextIndex_13 : decode cX5_nextIndex 13 = .ok (.iconst 1, 1) := by decide +kernel
theorem dX5_nextIndex_14 : decode cX5_nextIndex 14 = .ok (.isub, 1) := by decide +kernel
theorem dX5_nextIndex_15 : decode cX5_nextIndex 15 = .ok (.iload_n 1, 1) := by decide +kernel
theorem dX5_nextIndex_16 : decode cX5_nextIndex 16 = .ok (.invokestatic 100, 3) := by decide +kernel
theorem dX5_nextIndex_19 : decode cX5_nextIndex 19 = .ok (.istore_n 2, 1) := by decide +kernel
theorem dX5_nextIndex_20 : decode cX5_nextIndex 20 = .ok (.aload_n 0, 1) := by decide +kernel
theorem dX5_nextIndex_21 : decode cX5_nextIndex 21 = .ok (.getfield 46, 3) := by decide +kernel
theorem dX5_nextIndex_24 : decode cX5_nextIndex 24 = .ok (.iconst 1, 1) := by decide +kernel
theorem dX5_nextIndex_25 : decode cX5_nextIndex 25 = .ok (.iadd, 1) := by decide +kernel
theorem dX5_nextIndex_26 : decode cX5_nextIndex 26 = .ok (.iload_n 2, 1) := by decide +kernel
theorem dX5_nextIndex_27 : decode cX5_nextIndex 27 = .ok (.if_icmp .gt 10, 3) := by decide +kernel
theorem dX5_nextIndex_30 : decode cX5_nextIndex 30 = .ok (.aload_n 0, 1) := by decide +kernel
theorem dX5_nextIndex_31 : decode cX5_nextIndex 31 = .ok (.getfield 46, 3) := by decide +kernel
theorem dX5_nextIndex_34 : decode cX5_nextIndex 34 = .ok (.iconst 1, 1) := by decide +kernel
theorem dX5_nextIndex_35 : decode cX5_nextIndex 35 = .ok (.iadd, 1) := by decide +kernel
theorem dX5_nextIndex_36 : decode cX5_nextIndex 36 = .ok (.ireturn, 1) := by decide +kernel
theorem dX5_nextIndex_37 : decode cX5_nextIndex 37 = .ok (.aload_n 0, 1) := by decide +kernel
theorem dX5_nextIndex_38 : decode cX5_nextIndex 38 = .ok (.getfield 46, 3) := by decide +kernel
theorem dX5_nextIndex_41 : decode cX5_nextIndex 41 = .ok (.iload_n 2, 1) := by decide +kernel
theorem dX5_nextIndex_42 : decode cX5_nextIndex 42 = .ok (.if_icmp .gt 10, 3) := by decide +kernel
theorem dX5_nextIndex_45 : decode cX5_nextIndex 45 = .ok (.aload_n 0, 1) := by decide +kernel
theorem dX5_nextIndex_46 : decode cX5_nextIndex 46 = .ok (.getfield 46, 3) := by decide +kernel
theorem dX5_nextIndex_49 : decode cX5_nextIndex 49 = .ok (.goto 9, 3) := by decide +kernel
theorem dX5_nextIndex_52 : decode cX5_nextIndex 52 = .ok (.aload_n 0, 1) := by decide +kernel
theorem dX5_nextIndex_53 : decode cX5_nextIndex 53 = .ok (.getfield 46, 3) := by decide +kernel
theorem dX5_nextIndex_56 : decode cX5_nextIndex 56 = .ok (.iconst 1, 1) := by decide +kernel
theorem dX5_nextIndex_57 : decode cX5_nextIndex 57 = .ok (.isub, 1) := by decide +kernel
theorem dX5_nextIndex_58 : decode cX5_nextIndex 58 = .ok (.ireturn, 1) := by decide +kernel
theorem dX5_moveAxes_0 : decode cX5_moveAxes 0 = .ok (.aload_n 0, 1) := by decide +kernel
theorem dX5_moveAxes_1 : decode cX5_moveAxes 1 = .ok (.iconst 0, 1) := by decide +kernel
theorem dX5_moveAxes_2 : decode cX5_moveAxes 2 = .ok (.invokevirtual 68, 3) := by decide +kernel
theorem dX5_moveAxes_5 : decode cX5_moveAxes 5 = .ok (.istore_n 2, 1) := by decide +kernel
theorem dX5_moveAxes_6 : decode cX5_moveAxes 6 = .ok (.aload_n 0, 1) := by decide +kernel
theorem dX5_moveAxes_7 : decode cX5_moveAxes 7 = .ok (.dup, 1) := by decide +kernel
theorem dX5_moveAxes_8 : decode cX5_moveAxes 8 = .ok (.getfield 28, 3) := by decide +kernel
theorem dX5_moveAxes_11 : decode cX5_moveAxes 11 = .ok (.aload_n 0, 1) := by decide +kernel
theorem dX5_moveAxes_12 : decode cX5_moveAxes 12 = .ok (.getfield 18, 3) := by decide +kernel
theorem dX5_moveAxes_15 : decode cX5_moveAxes 15 = .ok (.iconst 0, 1) := by decide +kernel
theorem dX5_moveAxes_16 : decode cX5_moveAxes 16 = .ok (.iaload, 1) := by decide +kernel
theorem dX5_moveAxes_17 : decode cX5_moveAxes 17 = .ok (.iload_n 2, 1) := by decide +kernel
theorem dX5_moveAxes_18 : decode cX5_moveAxes 18 = .ok (.aload_n 0, 1) := by decide +kernel
theorem dX5_moveAxes_19 : decode cX5_moveAxes 19 = .ok (.getfield 40, 3) := by decide +kernel
theorem dX5_moveAxes_22 : decode cX5_moveAxes 22 = .ok (.invokestatic 119, 3) := by decide +kernel
theorem dX5_moveAxes_25 : decode cX5_moveAxes 25 = .ok (.aload_n 0, 1) := by decide +kernel
theorem dX5_moveAxes_26 : decode cX5_moveAxes 26 = .ok (.getfield 18, 3) := by decide +kernel
theorem dX5_moveAxes_29 : decode cX5_moveAxes 29 = .ok (.iconst 0, 1) := by decide +kernel
theorem dX5_moveAxes_30 : decode cX5_moveAxes 30 = .ok (.iaload, 1) := by decide +kernel
theorem dX5_moveAxes_31 : decode cX5_moveAxes 31 = .ok (.iload_n 2, 1) := by decide +kernel
theorem dX5_moveAxes_32 : decode cX5_moveAxes 32 = .ok (.iload_n 1, 1) := by decide +kernel
theorem dX5_moveAxes_33 : decode cX5_moveAxes 33 = .ok (.invokestatic 119, 3) := by decide +kernel
theorem dX5_moveAxes_36 : decode cX5_moveAxes 36 = .ok (.isub, 1) := by decide +kernel
theorem dX5_moveAxes_37 : decode cX5_moveAxes 37 = .ok (.iadd, 1) := by decide +kernel
theorem dX5_moveAxes_38 : decode cX5_moveAxes 38 = .ok (.putfield 28, 3) := by decide +kernel
theorem dX5_moveAxes_41 : decode cX5_moveAxes 41 = .ok (.aload_n 0, 1) := by decide +kernel
theorem dX5_moveAxes_42 : decode cX5_moveAxes 42 = .ok (.dup, 1) := by decide +kernel
theorem dX5_moveAxes_43 : decode cX5_moveAxes 43 = .ok (.getfield 31, 3) := by decide +kernel
theorem dX5_moveAxes_46 : decode cX5_moveAxes 46 = .ok (.aload_n 0, 1) := by decide +kernel
theorem dX5_moveAxes_47 : decode cX5_moveAxes 47 = .ok (.getfield 22, 3) := by decide +kernel
theorem dX5_moveAxes_50 : decode cX5_moveAxes 50 = .ok (.iconst 0, 1) := by decide +kernel
theorem dX5_moveAxes_51 : decode cX5_moveAxes 51 = .ok (.iaload, 1) := by decide +kernel
theorem dX5_moveAxes_52 : decode cX5_moveAxes 52 = .ok (.iload_n 2, 1) := by decide +kernel
theorem dX5_moveAxes_53 : decode cX5_moveAxes 53 = .ok (.aload_n 0, 1) := by decide +kernel
theorem dX5_moveAxes_54 : decode cX5_moveAxes 54 = .ok (.getfield 40, 3) := by decide +kernel
theorem dX5_moveAxes_57 : decode cX5_moveAxes 57 = .ok (.invokestatic 119, 3) := by decide +kernel
theorem dX5_moveAxes_60 : decode cX5_moveAxes 60 = .ok (.aload_n 0, 1) := by decide +kernel
theorem dX5_moveAxes_61 : decode cX5_moveAxes 61 = .ok (.getfield 22, 3) := by decide +kernel
theorem dX5_moveAxes_64 : decode cX5_moveAxes 64 = .ok (.iconst 0, 1) := by decide +kernel
theorem dX5_moveAxes_65 : decode cX5_moveAxes 65 = .ok (.iaload, 1) := by decide +kernel
theorem dX5_moveAxes_66 : decode cX5_moveAxes 66 = .ok (.iload_n 2, 1) := by decide +kernel
theorem dX5_moveAxes_67 : decode cX5_moveAxes 67 = .ok (.iload_n 1, 1) := by decide +kernel
theorem dX5_moveAxes_68 : decode cX5_moveAxes 68 = .ok (.invokestatic 119, 3) := by decide +kernel
theorem dX5_moveAxes_71 : decode cX5_moveAxes 71 = .ok (.isub, 1) := by decide +kernel
theorem dX5_moveAxes_72 : decode cX5_moveAxes 72 = .ok (.iadd, 1) := by decide +kernel
theorem dX5_moveAxes_73 : decode cX5_moveAxes 73 = .ok (.putfield 31, 3) := by decide +kernel
theorem dX5_moveAxes_76 : decode cX5_moveAxes 76 = .ok (.return_, 1) := by decide +kernel
theorem dX5_way_0 : decode cX5_way 0 = .ok (.iload_n 1, 1) := by decide +kernel
theorem dX5_way_1 : decode cX5_way 1 = .ok (.iconst 1, 1) := by decide +kernel
theorem dX5_way_2 : decode cX5_way 2 = .ok (.if_icmp .ge 5, 3) := by decide +kernel
theorem dX5_way_5 : decode cX5_way 5 = .ok (.iconst 0, 1) := by decide +kernel
theorem dX5_way_6 : decode cX5_way 6 = .ok (.ireturn, 1) := by decide +kernel
theorem dX5_way_7 : decode cX5_way 7 = .ok (.iconst 2, 1) := by decide +kernel
theorem dX5_way_8 : decode cX5_way 8 = .ok (.iload_n 2, 1) := by decide +kernel
theorem dX5_way_9 : decode cX5_way 9 = .ok (.imul, 1) := by decide +kernel
theorem dX5_way_10 : decode cX5_way 10 = .ok (.iload_n 0, 1) := by decide +kernel
theorem dX5_way_11 : decode cX5_way 11 = .ok (.invokestatic 54, 3) := by decide +kernel
theorem dX5_way_14 : decode cX5_way 14 = .ok (.imul, 1) := by decide +kernel
theorem dX5_way_15 : decode cX5_way 15 = .ok (.iload_n 1, 1) := by decide +kernel
theorem dX5_way_16 : decode cX5_way 16 = .ok (.iadd, 1) := by decide +kernel
theorem dX5_way_17 : decode cX5_way 17 = .ok (.iconst 2, 1) := by decide +kernel
theorem dX5_way_18 : decode cX5_way 18 = .ok (.iload_n 1, 1) := by decide +kernel
theorem dX5_way_19 : decode cX5_way 19 = .ok (.imul, 1) := by decide +kernel
theorem dX5_way_20 : decode cX5_way 20 = .ok (.idiv, 1) := by decide +kernel
theorem dX5_way_21 : decode cX5_way 21 = .ok (.istore_n 3, 1) := by decide +kernel
theorem dX5_way_22 : decode cX5_way 22 = .ok (.iload_n 0, 1) := by decide +kernel
theorem dX5_way_23 : decode cX5_way 23 = .ok (.ifCond .ge 8, 3) := by decide +kernel
theorem dX5_way_26 : decode cX5_way 26 = .ok (.iload_n 3, 1) := by decide +kernel
theorem dX5_way_27 : decode cX5_way 27 = .ok (.ineg, 1) := by decide +kernel
theorem dX5_way_28 : decode cX5_way 28 = .ok (.goto 4, 3) := by decide +kernel
theorem dX5_way_31 : decode cX5_way 31 = .ok (.iload_n 3, 1) := by decide +kernel
theorem dX5_way_32 : decode cX5_way 32 = .ok (.ireturn, 1) := by decide +kernel
theorem dX6_init_0 : decode cX6_init 0 = .ok (.aload_n 0, 1) := by decide +kernel
theorem dX6_init_1 : decode cX6_init 1 = .ok (.invokespecial 1, 3) := by decide +kernel
theorem dX6_init_4 : decode cX6_init 4 = .ok (.aload_n 0, 1) := by decide +kernel
theorem dX6_init_5 : decode cX6_init 5 = .ok (.new 7, 3) := by decide +kernel
theorem dX6_init_8 : decode cX6_init 8 = .ok (.dup, 1) := by decide +kernel
theorem dX6_init_9 : decode cX6_init 9 = .ok (.invokespecial 9, 3) := by decide +kernel
theorem dX6_init_12 : decode cX6_init 12 = .ok (.putfield 10, 3) := by decide +kernel
theorem dX6_init_15 : decode cX6_init 15 = .ok (.aload_n 0, 1) := by decide +kernel
theorem dX6_init_16 : decode cX6_init 16 = .ok (.new 16, 3) := by decide +kernel
theorem dX6_init_19 : decode cX6_init 19 = .ok (.dup, 1) := by decide +kernel
theorem dX6_init_20 : decode cX6_init 20 = .ok (.invokespecial 18, 3) := by decide +kernel
theorem dX6_init_23 : decode cX6_init 23 = .ok (.putfield 19, 3) := by decide +kernel
theorem dX6_init_26 : decode cX6_init 26 = .ok (.aload_n 0, 1) := by decide +kernel
theorem dX6_init_27 : decode cX6_init 27 = .ok (.new 16, 3) := by decide +kernel
theorem dX6_init_30 : decode cX6_init 30 = .ok (.dup, 1) := by decide +kernel
theorem dX6_init_31 : decode cX6_init 31 = .ok (.invokespecial 18, 3) := by decide +kernel
theorem dX6_init_34 : decode cX6_init 34 = .ok (.putfield 23, 3) := by decide +kernel
theorem dX6_init_37 : decode cX6_init 37 = .ok (.aload_n 0, 1) := by decide +kernel
theorem dX6_init_38 : decode cX6_init 38 = .ok (.new 26, 3) := by decide +kernel
theorem dX6_init_41 : decode cX6_init 41 = .ok (.dup, 1) := by decide +kernel
theorem dX6_init_42 : decode cX6_init 42 = .ok (.invokespecial 28, 3) := by decide +kernel
theorem dX6_init_45 : decode cX6_init 45 = .ok (.putfield 29, 3) := by decide +kernel
theorem dX6_init_48 : decode cX6_init 48 = .ok (.aload_n 0, 1) := by decide +kernel
theorem dX6_init_49 : decode cX6_init 49 = .ok (.new 33, 3) := by decide +kernel
theorem dX6_init_52 : decode cX6_init 52 = .ok (.dup, 1) := by decide +kernel
theorem dX6_init_53 : decode cX6_init 53 = .ok (.invokespecial 35, 3) := by decide +kernel
theorem dX6_init_56 : decode cX6_init 56 = .ok (.putfield 36, 3) := by decide +kernel
theorem dX6_init_59 : decode cX6_init 59 = .ok (.aload_n 0, 1) := by decide +kernel
theorem dX6_init_60 : decode cX6_init 60 = .ok (.new 33, 3) := by decide +kernel
theorem dX6_init_63 : decode cX6_init 63 = .ok (.dup, 1) := by decide +kernel
theorem dX6_init_64 : decode cX6_init 64 = .ok (.invokespecial 35, 3) := by decide +kernel
theorem dX6_init_67 : decode cX6_init 67 = .ok (.putfield 40, 3) := by decide +kernel
theorem dX6_init_70 : decode cX6_init 70 = .ok (.aload_n 0, 1) := by decide +kernel
theorem dX6_init_71 : decode cX6_init 71 = .ok (.new 43, 3) := by decide +kernel
theorem dX6_init_74 : decode cX6_init 74 = .ok (.dup, 1) := by decide +kernel
theorem dX6_init_75 : decode cX6_init 75 = .ok (.invokespecial 45, 3) := by decide +kernel
theorem dX6_init_78 : decode cX6_init 78 = .ok (.putfield 46, 3) := by decide +kernel
theorem dX6_init_81 : decode cX6_init 81 = .ok (.return_, 1) := by decide +kernel
theorem dX6_append_0 : decode cX6_append 0 = .ok (.iload_n 1, 1) := by decide +kernel
theorem dX6_append_1 : decode cX6_append 1 = .ok (.ifCond .lt 10, 3) := by decide +kernel
theorem dX6_append_4 : decode cX6_append 4 = .ok (.iload_n 1, 1) := by decide +kernel
theorem dX6_append_5 : decode cX6_append 5 = .ok (.sipush 255, 3) := by decide +kernel
theorem dX6_append_8 : decode cX6_append 8 = .ok (.if_icmp .le 6, 3) := by decide +kernel
theorem dX6_append_11 : decode cX6_append 11 = .ok (.bipush (-2), 2) := by decide +kernel
theorem dX6_append_13 : decode cX6_append 13 = .ok (.ireturn, 1) := by decide +kernel
theorem dX6_append_14 : decode cX6_append 14 = .ok (.aload_n 0, 1) := by decide +kernel
theorem dX6_append_15 : decode cX6_append 15 = .ok (.getfield 10, 3) := by decide +kernel
theorem dX6_append_18 : decode cX6_append 18 = .ok (.iload_n 1, 1) := by decide +kernel
theorem dX6_append_19 : decode cX6_append 19 = .ok (.invokevirtual 50, 3) := by decide +kernel
theorem dX6_append_22 : decode cX6_append 22 = .ok (.ifCond .eq 13, 3) := by decide +kernel
theorem dX6_append_25 : decode cX6_append 25 = .ok (.aload_n 0, 1) := by decide +kernel
theorem dX6_append_26 : decode cX6_append 26 = .ok (.getfield 10, 3) := by decide +kernel
theorem dX6_append_29 : decode cX6_append 29 = .ok (.getfield 54, 3) := by decide +kernel
theorem dX6_append_32 : decode cX6_append 32 = .ok (.goto 5, 3) := by decide +kernel
theorem dX6_append_35 : decode cX6_append 35 = .ok (.bipush (-4), 2) := by decide +kernel
theorem dX6_append_37 : decode cX6_append 37 = .ok (.ireturn, 1) := by decide +kernel
theorem dX6_clearText_0 : decode cX6_clearText 0 = .ok (.aload_n 0, 1) := by decide +kernel
theorem dX6_clearText_1 : decode cX6_clearText 1 = .ok (.getfield 10, 3) := by decide +kernel
theorem dX6_clearText_4 : decode cX6_clearText 4 = .ok (.getfield 54, 3) := by decide +kernel
theorem dX6_clearText_7 : decode cX6_clearText 7 = .ok (.istore_n 1, 1) := by decide +kernel
theorem dX6_clearText_8 : decode cX6_clearText 8 = .ok (.aload_n 0, 1) := by decide +kernel
theorem dX6_clearText_9 : decode cX6_clearText 9 = .ok (.getfield 10, 3) := by decide +kernel
theorem dX6_clearText_12 : decode cX6_clearText 12 = .ok (.iconst 0, 1) := by decide +kernel
theorem dX6_clearText_13 : decode cX6_clearText 13 = .ok (.putfield 54, 3) := by decide +kernel
theorem dX6_clearText_16 : decode cX6_clearText 16 = .ok (.iload_n 1, 1) := by decide +kernel
theorem dX6_clearText_17 : decode cX6_clearText 17 = .ok (.ireturn, 1) := by decide +kernel
theorem dX6_errorPosition_0 : decode cX6_errorPosition 0 = .ok (.aload_n 0, 1) := by decide +kernel
theorem dX6_errorPosition_1 : decode cX6_errorPosition 1 = .ok (.getfield 10, 3) := by decide +kernel
theorem dX6_errorPosition_4 : decode cX6_errorPosition 4 = .ok (.aload_n 0, 1) := by decide +kernel
theorem dX6_errorPosition_5 : decode cX6_errorPosition 5 = .ok (.getfield 23, 3) := by decide +kernel
theorem dX6_errorPosition_8 : decode cX6_errorPosition 8 = .ok (.invokevirtual 58, 3) := by decide +kernel
theorem dX6_errorPosition_11 : decode cX6_errorPosition 11 = .ok (.ireturn, 1) := by decide +kernel
theorem dX6_load_0 : decode cX6_load 0 = .ok (.aload_n 0, 1) := by decide +kernel
theorem dX6_load_1 : decode cX6_load 1 = .ok (.getfield 10, 3) := by decide +kernel
theorem dX6_load_4 : decode cX6_load 4 = .ok (.aload_n 0, 1) := by decide +kernel
theorem dX6_load_5 : decode cX6_load 5 = .ok (.getfield 23, 3) := by decide +kernel
theorem dX6_load_8 : decode cX6_load 8 = .ok (.invokevirtual 58, 3) := by decide +kernel
theorem dX6_load_11 : decode cX6_load 11 = .ok (.bipush (-9), 2) := by decide +kernel
theorem dX6_load_13 : decode cX6_load 13 = .ok (.if_icmp .eq 6, 3) := by decide +kernel
theorem dX6_load_16 : decode cX6_load 16 = .ok (.bipush (-3), 2) := by decide +kernel
theorem dX6_load_18 : decode cX6_load 18 = .ok (.ireturn, 1) := by decide +kernel
theorem dX6_load_19 : decode cX6_load 19 = .ok (.aload_n 0, 1) := by decide +kernel
theorem dX6_load_20 : decode cX6_load 20 = .ok (.getfield 19, 3) := by decide +kernel
theorem dX6_load_23 : decode cX6_load 23 = .ok (.aload_n 0, 1) := by decide +kernel
theorem dX6_load_24 : decode cX6_load 24 = .ok (.getfield 23, 3) := by decide +kernel
theorem dX6_load_27 : decode cX6_load 27 = .ok (.invokevirtual 62, 3) := by decide +kernel
theorem dX6_load_30 : decode cX6_load 30 = .ok (.aload_n 0, 1) := by decide +kernel
theorem dX6_load_31 : decode cX6_load 31 = .ok (.getfield 29, 3) := by decide +kernel
theorem dX6_load_34 : decode cX6_load 34 = .ok (.invokevirtual 66, 3) := by decide +kernel
theorem dX6_load_37 : decode cX6_load 37 = .ok (.aload_n 0, 1) := by decide +kernel
theorem dX6_load_38 : decode cX6_load 38 = .ok (.getfield 36, 3) := by decide +kernel
theorem dX6_load_41 : decode cX6_load 41 = .ok (.iconst 0, 1) := by decide +kernel
theorem dX6_load_42 : decode cX6_load 42 = .ok (.putfield 69, 3) := by decide +kernel
theorem dX6_load_45 : decode cX6_load 45 = .ok (.aload_n 0, 1) := by decide +kernel
theorem dX6_load_46 : decode cX6_load 46 = .ok (.getfield 40, 3) := by decide +kernel
theorem dX6_load_49 : decode cX6_load 49 = .ok (.iconst 0, 1) := by decide +kernel
theorem dX6_load_50 : decode cX6_load 50 = .ok (.putfield 69, 3) := by decide +kernel
theorem dX6_load_53 : decode cX6_load 53 = .ok (.aload_n 0, 1) := by decide +kernel
theorem dX6_load_54 : decode cX6_load 54 = .ok (.getfield 19, 3) := by decide +kernel
theorem dX6_load_57 : decode cX6_load 57 = .ok (.getfield 73, 3) := by decide +kernel
theorem dX6_load_60 : decode cX6_load 60 = .ok (.ireturn, 1) := by decide +kernel
theorem dX6_position_0 : decode cX6_position 0 = .ok (.iload_n 1, 1) := by decide +kernel
theorem dX6_position_1 : decode cX6_position 1 = .ok (.invokestatic 76, 3) := by decide +kernel
theorem dX6_position_4 : decode cX6_position 4 = .ok (.ifCond .eq 14, 3) := by decide +kernel
theorem dX6_position_7 : decode cX6_position 7 = .ok (.aload_n 0, 1) := by decide +kernel
theorem dX6_position_8 : decode cX6_position 8 = .ok (.getfield 19, 3) := by decide +kernel
theorem dX6_position_11 : decode cX6_position 11 = .ok (.iload_n 1, 1) := by decide +kernel
theorem dX6_position_12 : decode cX6_position 12 = .ok (.invokevirtual 79, 3) := by decide +kernel
theorem dX6_position_15 : decode cX6_position 15 = .ok (.goto 4, 3) := by decide +kernel
theorem dX6_position_18 : decode cX6_position 18 = .ok (.iconst (-1), 1) := by decide +kernel
theorem dX6_position_19 : decode cX6_position 19 = .ok (.ireturn, 1) := by decide +kernel
theorem dX6_clock_0 : decode cX6_clock 0 = .ok (.aload_n 0, 1) := by decide +kernel
theorem dX6_clock_1 : decode cX6_clock 1 = .ok (.getfield 19, 3) := by decide +kernel
theorem dX6_clock_4 : decode cX6_clock 4 = .ok (.getfield 83, 3) := by decide +kernel
theorem dX6_clock_7 : decode cX6_clock 7 = .ok (.ireturn, 1) := by decide +kernel
theorem dX6_queueLength_0 : decode cX6_queueLength 0 = .ok (.aload_n 0, 1) := by decide +kernel
theorem dX6_queueLength_1 : decode cX6_queueLength 1 = .ok (.getfield 19, 3) := by decide +kernel
theorem dX6_queueLength_4 : decode cX6_queueLength 4 = .ok (.getfield 73, 3) := by decide +kernel
theorem dX6_queueLength_7 : decode cX6_queueLength 7 = .ok (.ireturn, 1) := by decide +kernel
theorem dX6_itemAt_0 : decode cX6_itemAt 0 = .ok (.aload_n 0, 1) := by decide +kernel
theorem dX6_itemAt_1 : decode cX6_itemAt 1 = .ok (.getfield 19, 3) := by decide +kernel
theorem dX6_itemAt_4 : decode cX6_itemAt 4 = .ok (.iload_n 1, 1) := by decide +kernel
theorem dX6_itemAt_5 : decode cX6_itemAt 5 = .ok (.invokevirtual 86, 3) := by decide +kernel
theorem dX6_itemAt_8 : decode cX6_itemAt 8 = .ok (.ifCond .ne 5, 3) := by decide +kernel
theorem dX6_itemAt_11 : decode cX6_itemAt 11 = .ok (.iconst (-1), 1) := by decide +kernel
theorem dX6_itemAt_12 : decode cX6_itemAt 12 = .ok (.ireturn, 1) := by decide +kernel
theorem dX6_itemAt_13 : decode cX6_itemAt 13 = .ok (.aload_n 0, 1) := by decide +kernel
theorem dX6_itemAt_14 : decode cX6_itemAt 14 = .ok (.getfield 19, 3) := by decide +kernel
theorem dX6_itemAt_17 : decode cX6_itemAt 17 = .ok (.iload_n 1, 1) := by decide +kernel
theorem dX6_itemAt_18 : decode cX6_itemAt 18 = .ok (.invokevirtual 89, 3) := by decide +kernel
theorem dX6_itemAt_21 : decode cX6_itemAt 21 = .ok (.ifCond .eq 19, 3) := by decide +kernel
theorem dX6_itemAt_24 : decode cX6_itemAt 24 = .ok (.aload_n 0, 1) := by decide +kernel
theorem dX6_itemAt_25 : decode cX6_itemAt 25 = .ok (.getfield 19, 3) := by decide +kernel
theorem dX6_itemAt_28 : decode cX6_itemAt 28 = .ok (.getfield 92, 3) := by decide +kernel
theorem dX6_itemAt_31 : decode cX6_itemAt 31 = .ok (.iload_n 1, 1) := by decide +kernel
theorem dX6_itemAt_32 : decode cX6_itemAt 32 = .ok (.iaload, 1) := by decide +kernel
theorem dX6_itemAt_33 : decode cX6_itemAt 33 = .ok (.sipush 10000, 3) := by decide +kernel
theorem dX6_itemAt_36 : decode cX6_itemAt 36 = .ok (.iadd, 1) := by decide +kernel
theorem dX6_itemAt_37 : decode cX6_itemAt 37 = .ok (.goto 11, 3) := by decide +kernel
theorem dX6_itemAt_40 : decode cX6_itemAt 40 = .ok (.aload_n 0, 1) := by decide +kernel
theorem dX6_itemAt_41 : decode cX6_itemAt 41 = .ok (.getfield 19, 3) := by decide +kernel
theorem dX6_itemAt_44 : decode cX6_itemAt 44 = .ok (.iload_n 1, 1) := by decide +kernel
theorem dX6_itemAt_45 : decode cX6_itemAt 45 = .ok (.invokevirtual 96, 3) := by decide +kernel
theorem dX6_itemAt_48 : decode cX6_itemAt 48 = .ok (.ireturn, 1) := by decide +kernel
theorem dX6_rampIndex_0 : decode cX6_rampIndex 0 = .ok (.aload_n 0, 1) := by decide +kernel
theorem dX6_rampIndex_1 : decode cX6_rampIndex 1 = .ok (.getfield 19, 3) := by decide +kernel
theorem dX6_rampIndex_4 : decode cX6_rampIndex 4 = .ok (.invokevirtual 99, 3) := by decide +kernel
theorem dX6_rampIndex_7 : decode cX6_rampIndex 7 = .ok (.ifCond .eq 13, 3) := by decide +kernel
theorem dX6_rampIndex_10 : decode cX6_rampIndex 10 = .ok (.aload_n 0, 1) := by decide +kernel
theorem dX6_rampIndex_11 : decode cX6_rampIndex 11 = .ok (.getfield 19, 3) := by decide +kernel
theorem dX6_rampIndex_14 : decode cX6_rampIndex 14 = .ok (.getfield 103, 3) := by decide +kernel
theorem dX6_rampIndex_17 : decode cX6_rampIndex 17 = .ok (.goto 5, 3) := by decide +kernel
theorem dX6_rampIndex_20 : decode cX6_rampIndex 20 = .ok (.bipush (-9), 2) := by decide +kernel
theorem dX6_rampIndex_22 : decode cX6_rampIndex 22 = .ok (.ireturn, 1) := by decide +kernel
theorem dX6_topIndex_0 : decode cX6_topIndex 0 = .ok (.aload_n 0, 1) := by decide +kernel
theorem dX6_topIndex_1 : decode cX6_topIndex 1 = .ok (.invokevirtual 106, 3) := by decide +kernel
theorem dX6_topIndex_4 : decode cX6_topIndex 4 = .ok (.getfield 110, 3) := by decide +kernel
theorem dX6_topIndex_7 : decode cX6_topIndex 7 = .ok (.ireturn, 1) := by decide +kernel
theorem dX6_interval_0 : decode cX6_interval 0 = .ok (.iload_n 1, 1) := by decide +kernel
theorem dX6_interval_1 : decode cX6_interval 1 = .ok (.invokestatic 113, 3) := by decide +kernel
theorem dX6_interval_4 : decode cX6_interval 4 = .ok (.ifCond .eq 14, 3) := by decide +kernel
theorem dX6_interval_7 : decode cX6_interval 7 = .ok (.aload_n 0, 1) := by decide +kernel
theorem dX6_interval_8 : decode cX6_interval 8 = .ok (.invokevirtual 106, 3) := by decide +kernel
theorem dX6_interval_11 : decode cX6_interval 11 = .ok (.iload_n 1, 1) := by decide +kernel
theorem dX6_interval_12 : decode cX6_interval 12 = .ok (.invokevirtual 116, 3) := by decide +kernel
theorem dX6_interval_15 : decode cX6_interval 15 = .ok (.goto 5, 3) := by decide +kernel
theorem dX6_interval_18 : decode cX6_interval 18 = .ok (.bipush (-2), 2) := by decide +kernel
theorem dX6_interval_20 : decode cX6_interval 20 = .ok (.ireturn, 1) := by decide +kernel
theorem dX6_approximateInterval_0 : decode cX6_approximateInterval 0 = .ok (.iload_n 1, 1) := by decide +kernel
theorem dX6_approximateInterval_1 : decode cX6_approximateInterval 1 = .ok (.invokestatic 113, 3) := by decide +kernel
theorem dX6_approximateInterval_4 : decode cX6_approximateInterval 4 = .ok (.ifCond .eq 14, 3) := by decide +kernel
theorem dX6_approximateInterval_7 : decode cX6_approximateInterval 7 = .ok (.aload_n 0, 1) := by decide +kernel
theorem dX6_approximateInterval_8 : decode cX6_approximateInterval 8 = .ok (.invokevirtual 106, 3) := by decide +kernel
theorem dX6_approximateInterval_11 : decode cX6_approximateInterval 11 = .ok (.iload_n 1, 1) := by decide +kernel
theorem dX6_approximateInterval_12 : decode cX6_approximateInterval 12 = .ok (.invokevirtual 119, 3) := by decide +kernel
theorem dX6_approximateInterval_15 : decode cX6_approximateInterval 15 = .ok (.goto 5, 3) := by decide +kernel
theorem dX6_approximateInterval_18 : decode cX6_approximateInterval 18 = .ok (.bipush (-2), 2) := by decide +kernel
theorem dX6_approximateInterval_20 : decode cX6_approximateInterval 20 = .ok (.ireturn, 1) := by decide +kernel
theorem dX6_setAcceleration_0 : decode cX6_setAcceleration 0 = .ok (.iload_n 1, 1) := by decide +kernel
theorem dX6_setAcceleration_1 : decode cX6_setAcceleration 1 = .ok (.sipush 999, 3) := by decide +kernel
theorem dX6_setAcceleration_4 : decode cX6_setAcceleration 4 = .ok (.invokestatic 122, 3) := by decide +kernel
theorem dX6_setAcceleration_7 : decode cX6_setAcceleration 7 = .ok (.ifCond .ne 6, 3) := by decide +kernel
theorem dX6_setAcceleration_10 : decode cX6_setAcceleration 10 = .ok (.bipush (-2), 2) := by decide +kernel
theorem dX6_setAcceleration_12 : decode cX6_setAcceleration 12 = .ok (.ireturn, 1) := by decide +kernel
theorem dX6_setAcceleration_13 : decode cX6_setAcceleration 13 = .ok (.aload_n 0, 1) := by decide +kernel
theorem dX6_setAcceleration_14 : decode cX6_setAcceleration 14 = .ok (.getfield 19, 3) := by decide +kernel
theorem dX6_setAcceleration_17 : decode cX6_setAcceleration 17 = .ok (.invokevirtual 99, 3) := by decide +kernel
theorem dX6_setAcceleration_20 : decode cX6_setAcceleration 20 = .ok (.ifCond .eq 6, 3) := by decide +kernel
theorem dX6_setAcceleration_23 : decode cX6_setAcceleration 23 = .ok (.bipush (-3), 2) := by decide +kernel
theorem dX6_setAcceleration_25 : decode cX6_setAcceleration 25 = .ok (.ireturn, 1) := by decide +kernel
theorem dX6_setAcceleration_26 : decode cX6_setAcceleration 26 = .ok (.aload_n 0, 1) := by decide +kernel
theorem dX6_setAcceleration_27 : decode cX6_setAcceleration 27 = .ok (.getfield 29, 3) := by decide +kernel
theorem dX6_setAcceleration_30 : decode cX6_setAcceleration 30 = .ok (.aload_n 0, 1) := by decide +kernel
theorem dX6_setAcceleration_31 : decode cX6_setAcceleration 31 = .ok (.getfield 19, 3) := by decide +kernel
theorem dX6_setAcceleration_34 : decode cX6_setAcceleration 34 = .ok (.invokevirtual 126, 3) := by decide +kernel
theorem dX6_setAcceleration_37 : decode cX6_setAcceleration 37 = .ok (.aload_n 0, 1) := by decide +kernel
theorem dX6_setAcceleration_38 : decode cX6_setAcceleration 38 = .ok (.getfield 19, 3) := by decide +kernel
theorem dX6_setAcceleration_41 : decode cX6_setAcceleration 41 = .ok (.getfield 129, 3) := by decide +kernel
theorem dX6_setAcceleration_44 : decode cX6_setAcceleration 44 = .ok (.istore_n 2, 1) := by decide +kernel
theorem dX6_setAcceleration_45 : decode cX6_setAcceleration 45 = .ok (.aload_n 0, 1) := by decide +kernel
theorem dX6_setAcceleration_46 : decode cX6_setAcceleration 46 = .ok (.getfield 19, 3) := by decide +kernel
theorem dX6_setAcceleration_49 : decode cX6_setAcceleration 49 = .ok (.iload_n 1, 1) := by decide +kernel
theorem dX6_setAcceleration_50 : decode cX6_setAcceleration 50 = .ok (.putfield 129, 3) := by decide +kernel
theorem dX6_setAcceleration_53 : decode cX6_setAcceleration 53 = .ok (.iload_n 2, 1) := by decide +kernel
theorem dX6_setAcceleration_54 : decode cX6_setAcceleration 54 = .ok (.ireturn, 1) := by decide +kernel
theorem dX6_setSpeedLimit_0 : decode cX6_setSpeedLimit 0 = .ok (.iload_n 1, 1) := by decide +kernel
theorem dX6_setSpeedLimit_1 : decode cX6_setSpeedLimit 1 = .ok (.sipush 999, 3) := by decide +kernel
theorem dX6_setSpeedLimit_4 : decode cX6_setSpeedLimit 4 = .ok (.invokestatic 122, 3) := by decide +kernel
theorem dX6_setSpeedLimit_7 : decode cX6_setSpeedLimit 7 = .ok (.ifCond .ne 6, 3) := by decide +kernel
theorem dX6_setSpeedLimit_10 : decode cX6_setSpeedLimit 10 = .ok (.bipush (-2), 2) := by decide +kernel
theorem dX6_setSpeedLimit_12 : decode cX6_setSpeedLimit 12 = .ok (.ireturn, 1) := by decide +kernel
theorem dX6_setSpeedLimit_13 : decode cX6_setSpeedLimit 13 = .ok (.aload_n 0, 1) := by decide +kernel
theorem dX6_setSpeedLimit_14 : decode cX6_setSpeedLimit 14 = .ok (.getfield 29, 3) := by decide +kernel
theorem dX6_setSpeedLimit_17 : decode cX6_setSpeedLimit 17 = .ok (.aload_n 0, 1) := by decide +kernel
theorem dX6_setSpeedLimit_18 : decode cX6_setSpeedLimit 18 = .ok (.getfield 19, 3) := by decide +kernel
theorem dX6_setSpeedLimit_21 : decode cX6_setSpeedLimit 21 = .ok (.invokevirtual 126, 3) := by decide +kernel
theorem dX6_setSpeedLimit_24 : decode cX6_setSpeedLimit 24 = .ok (.aload_n 0, 1) := by decide +kernel
theorem dX6_setSpeedLimit_25 : decode cX6_setSpeedLimit 25 = .ok (.getfield 19, 3) := by decide +kernel
theorem dX6_setSpeedLimit_28 : decode cX6_setSpeedLimit 28 = .ok (.getfield 132, 3) := by decide +kernel
theorem dX6_setSpeedLimit_31 : decode cX6_setSpeedLimit 31 = .ok (.istore_n 2, 1) := by decide +kernel
theorem dX6_setSpeedLimit_32 : decode cX6_setSpeedLimit 32 = .ok (.aload_n 0, 1) := by decide +kernel
theorem dX6_setSpeedLimit_33 : decode cX6_setSpeedLimit 33 = .ok (.getfield 19, 3) := by decide +kernel
theorem dX6_setSpeedLimit_36 : decode cX6_setSpeedLimit 36 = .ok (.iload_n 1, 1) := by decide +kernel
theorem dX6_setSpeedLimit_37 : decode cX6_setSpeedLimit 37 = .ok (.putfield 132, 3) := by decide +kernel
theorem dX6_setSpeedLimit_40 : decode cX6_setSpeedLimit 40 = .ok (.iload_n 2, 1) := by decide +kernel
theorem dX6_setSpeedLimit_41 : decode cX6_setSpeedLimit 41 = .ok (.ireturn, 1) := by decide +kernel
theorem dX6_addMove_0 : decode cX6_addMove 0 = .ok (.iload_n 1, 1) := by decide +kernel
theorem dX6_addMove_1 : decode cX6_addMove 1 = .ok (.invokestatic 135, 3) := by decide +kernel
theorem dX6_addMove_4 : decode cX6_addMove 4 = .ok (.ifCond .eq 18, 3) := by decide +kernel
theorem dX6_addMove_7 : decode cX6_addMove 7 = .ok (.iload_n 2, 1) := by decide +kernel
theorem dX6_addMove_8 : decode cX6_addMove 8 = .ok (.invokestatic 135, 3) := by decide +kernel
theorem dX6_addMove_11 : decode cX6_addMove 11 = .ok (.ifCond .eq 11, 3) := by decide +kernel
theorem dX6_addMove_14 : decode cX6_addMove 14 = .ok (.iload_n 1, 1) := by decide +kernel
theorem dX6_addMove_15 : decode cX6_addMove 15 = .ok (.ifCond .ne 10, 3) := by decide +kernel
theorem dX6_addMove_18 : decode cX6_addMove 18 = .ok (.iload_n 2, 1) := by decide +kernel
theorem dX6_addMove_19 : decode cX6_addMove 19 = .ok (.ifCond .ne 6, 3) := by decide +kernel
theorem dX6_addMove_22 : decode cX6_addMove 22 = .ok (.bipush (-2), 2) := by decide +kernel
theorem dX6_addMove_24 : decode cX6_addMove 24 = .ok (.ireturn, 1) := by decide +kernel
theorem dX6_addMove_25 : decode cX6_addMove 25 = .ok (.aload_n 0, 1) := by decide +kernel
theorem dX6_addMove_26 : decode cX6_addMove 26 = .ok (.getfield 19, 3) := by decide +kernel
theorem dX6_addMove_29 : decode cX6_addMove 29 = .ok (.invokevirtual 138, 3) := by decide +kernel
theorem dX6_addMove_32 : decode cX6_addMove 32 = .ok (.ifCond .eq 6, 3) := by decide +kernel
theorem dX6_addMove_35 : decode cX6_addMove 35 = .ok (.bipush (-4), 2) := by decide +kernel
theorem dX6_addMove_37 : decode cX6_addMove 37 = .ok (.ireturn, 1) := by decide +kernel
theorem dX6_addMove_38 : decode cX6_addMove 38 = .ok (.aload_n 0, 1) := by decide +kernel
theorem dX6_addMove_39 : decode cX6_addMove 39 = .ok (.getfield 29, 3) := by decide +kernel
theorem dX6_addMove_42 : decode cX6_addMove 42 = .ok (.aload_n 0, 1) := by decide +kernel
theorem dX6_addMove_43 : decode cX6_addMove 43 = .ok (.getfield 19, 3) := by decide +kernel
theorem dX6_addMove_46 : decode cX6_addMove 46 = .ok (.invokevirtual 126, 3) := by decide +kernel
theorem dX6_addMove_49 : decode cX6_addMove 49 = .ok (.aload_n 0, 1) := by decide +kernel
theorem dX6_addMove_50 : decode cX6_addMove 50 = .ok (.getfield 19, 3) := by decide +kernel
theorem dX6_addMove_53 : decode cX6_addMove 53 = .ok (.iload_n 1, 1) := by decide +kernel
theorem dX6_addMove_54 : decode cX6_addMove 54 = .ok (.iload_n 2, 1) := by decide +kernel
theorem dX6_addMove_55 : decode cX6_addMove 55 = .ok (.iconst 0, 1) := by decide +kernel
theorem dX6_addMove_56 : decode cX6_addMove 56 = .ok (.invokevirtual 141, 3) := by decide +kernel
theorem dX6_addMove_59 : decode cX6_addMove 59 = .ok (.aload_n 0, 1) := by decide +kernel
theorem dX6_addMove_60 : decode cX6_addMove 60 = .ok (.getfield 19, 3) := by decide +kernel
theorem dX6_addMove_63 : decode cX6_addMove 63 = .ok (.getfield 73, 3) := by decide +kernel
theorem dX6_addMove_66 : decode cX6_addMove 66 = .ok (.ireturn, 1) := by decide +kernel
theorem dX6_addWait_0 : decode cX6_addWait 0 = .ok (.iload_n 1, 1) := by decide +kernel
theorem dX6_addWait_1 : decode cX6_addWait 1 = .ok (.sipush 9999, 3) := by decide +kernel
theorem dX6_addWait_4 : decode cX6_addWait 4 = .ok (.invokestatic 122, 3) := by decide +kernel
theorem dX6_addWait_7 : decode cX6_addWait 7 = .ok (.ifCond .ne 6, 3) := by decide +kernel
theorem dX6_addWait_10 : decode cX6_addWait 10 = .ok (.bipush (-2), 2) := by decide +kernel
theorem dX6_addWait_12 : decode cX6_addWait 12 = .ok (.ireturn, 1) := by decide +kernel
theorem dX6_addWait_13 : decode cX6_addWait 13 = .ok (.aload_n 0, 1) := by decide +kernel
theorem dX6_addWait_14 : decode cX6_addWait 14 = .ok (.getfield 19, 3) := by decide +kernel
theorem dX6_addWait_17 : decode cX6_addWait 17 = .ok (.invokevirtual 138, 3) := by decide +kernel
theorem dX6_addWait_20 : decode cX6_addWait 20 = .ok (.ifCond .eq 6, 3) := by decide +kernel
theorem dX6_addWait_23 : decode cX6_addWait 23 = .ok (.bipush (-4), 2) := by decide +kernel
theorem dX6_addWait_25 : decode cX6_addWait 25 = .ok (.ireturn, 1) := by decide +kernel
theorem dX6_addWait_26 : decode cX6_addWait 26 = .ok (.aload_n 0, 1) := by decide +kernel
theorem dX6_addWait_27 : decode cX6_addWait 27 = .ok (.getfield 29, 3) := by decide +kernel
theorem dX6_addWait_30 : decode cX6_addWait 30 = .ok (.aload_n 0, 1) := by decide +kernel
theorem dX6_addWait_31 : decode cX6_addWait 31 = .ok (.getfield 19, 3) := by decide +kernel
theorem dX6_addWait_34 : decode cX6_addWait 34 = .ok (.invokevirtual 126, 3) := by decide +kernel
theorem dX6_addWait_37 : decode cX6_addWait 37 = .ok (.aload_n 0, 1) := by decide +kernel
theorem dX6_addWait_38 : decode cX6_addWait 38 = .ok (.getfield 19, 3) := by decide +kernel
theorem dX6_addWait_41 : decode cX6_addWait 41 = .ok (.iconst 0, 1) := by decide +kernel
theorem dX6_addWait_42 : decode cX6_addWait 42 = .ok (.iconst 0, 1) := by decide +kernel
theorem dX6_addWait_43 : decode cX6_addWait 43 = .ok (.iload_n 1, 1) := by decide +kernel
theorem dX6_addWait_44 : decode cX6_addWait 44 = .ok (.invokevirtual 141, 3) := by decide +kernel
theorem dX6_addWait_47 : decode cX6_addWait 47 = .ok (.aload_n 0, 1) := by decide +kernel
theorem dX6_addWait_48 : decode cX6_addWait 48 = .ok (.getfield 19, 3) := by decide +kernel
theorem dX6_addWait_51 : decode cX6_addWait 51 = .ok (.getfield 73, 3) := by decide +kernel
theorem dX6_addWait_54 : decode cX6_addWait 54 = .ok (.ireturn, 1) := by decide +kernel
theorem dX6_step_0 : decode cX6_step 0 = .ok (.aload_n 0, 1) := by decide +kernel
theorem dX6_step_1 : decode cX6_step 1 = .ok (.getfield 19, 3) := by decide +kernel
theorem dX6_step_4 : decode cX6_step 4 = .ok (.getfield 73, 3) := by decide +kernel
theorem dX6_step_7 : decode cX6_step 7 = .ok (.ifCond .ne 6, 3) := by decide +kernel
theorem dX6_step_10 : decode cX6_step 10 = .ok (.bipush (-3), 2) := by decide +kernel
theorem dX6_step_12 : decode cX6_step 12 = .ok (.ireturn, 1) := by decide +kernel
theorem dX6_step_13 : decode cX6_step 13 = .ok (.aload_n 0, 1) := by decide +kernel
theorem dX6_step_14 : decode cX6_step 14 = .ok (.getfield 29, 3) := by decide +kernel
theorem dX6_step_17 : decode cX6_step 17 = .ok (.aload_n 0, 1) := by decide +kernel
theorem dX6_step_18 : decode cX6_step 18 = .ok (.getfield 19, 3) := by decide +kernel
theorem dX6_step_21 : decode cX6_step 21 = .ok (.invokevirtual 126, 3) := by decide +kernel
theorem dX6_step_24 : decode cX6_step 24 = .ok (.aload_n 0, 1) := by decide +kernel
theorem dX6_step_25 : decode cX6_step 25 = .ok (.getfield 19, 3) := by decide +kernel
theorem dX6_step_28 : decode cX6_step 28 = .ok (.getfield 83, 3) := by decide +kernel
theorem dX6_step_31 : decode cX6_step 31 = .ok (.istore_n 1, 1) := by decide +kernel
theorem dX6_step_32 : decode cX6_step 32 = .ok (.aload_n 0, 1) := by decide +kernel
theorem dX6_step_33 : decode cX6_step 33 = .ok (.getfield 19, 3) := by decide +kernel
theorem dX6_step_36 : decode cX6_step 36 = .ok (.aload_n 0, 1) := by decide +kernel
theorem dX6_step_37 : decode cX6_step 37 = .ok (.getfield 46, 3) := by decide +kernel
theorem dX6_step_40 : decode cX6_step 40 = .ok (.iconst 1, 1) := by decide +kernel
theorem dX6_step_41 : decode cX6_step 41 = .ok (.ldc 145, 2) := by decide +kernel
theorem dX6_step_43 : decode cX6_step 43 = .ok (.invokevirtual 146, 3) := by decide +kernel
theorem dX6_step_46 : decode cX6_step 46 = .ok (.pop, 1) := by decide +kernel
theorem dX6_step_47 : decode cX6_step 47 = .ok (.aload_n 0, 1) := by decide +kernel
theorem dX6_step_48 : decode cX6_step 48 = .ok (.getfield 19, 3) := by decide +kernel
theorem dX6_step_51 : decode cX6_step 51 = .ok (.getfield 83, 3) := by decide +kernel
theorem dX6_step_54 : decode cX6_step 54 = .ok (.iload_n 1, 1) := by decide +kernel
theorem dX6_step_55 : decode cX6_step 55 = .ok (.isub, 1) := by decide +kernel
theorem dX6_step_56 : decode cX6_step 56 = .ok (.ireturn, 1) := by decide +kernel
theorem dX6_run_0 : decode cX6_run 0 = .ok (.iload_n 1, 1) := by decide +kernel
theorem dX6_run_1 : decode cX6_run 1 = .ok (.ldc 150, 2) := by decide +kernel
theorem dX6_run_3 : decode cX6_run 3 = .ok (.invokestatic 122, 3) := by decide +kernel
theorem dX6_run_6 : decode cX6_run 6 = .ok (.ifCond .ne 6, 3) := by decide +kernel
theorem dX6_run_9 : decode cX6_run 9 = .ok (.bipush (-2), 2) := by decide +kernel
theorem dX6_run_11 : decode cX6_run 11 = .ok (.ireturn, 1) := by decide +kernel
theorem dX6_run_12 : decode cX6_run 12 = .ok (.aload_n 0, 1) := by decide +kernel
theorem dX6_run_13 : decode cX6_run 13 = .ok (.getfield 19, 3) := by decide +kernel
theorem dX6_run_16 : decode cX6_run 16 = .ok (.getfield 73, 3) := by decide +kernel
theorem dX6_run_19 : decode cX6_run 19 = .ok (.ifCond .ne 6, 3) := by decide +kernel
theorem dX6_run_22 : decode cX6_run 22 = .ok (.bipush (-3), 2) := by decide +kernel
theorem dX6_run_24 : decode cX6_run 24 = .ok (.ireturn, 1) := by decide +kernel
theorem dX6_run_25 : decode cX6_run 25 = .ok (.aload_n 0, 1) := by decide +kernel
theorem dX6_run_26 : decode cX6_run 26 = .ok (.getfield 29, 3) := by decide +kernel
theorem dX6_run_29 : decode cX6_run 29 = .ok (.aload_n 0, 1) := by decide +kernel
theorem dX6_run_30 : decode cX6_run 30 = .ok (.getfield 19, 3) := by decide +kernel
theorem dX6_run_33 : decode cX6_run 33 = .ok (.invokevirtual 126, 3) := by decide +kernel
theorem dX6_run_36 : decode cX6_run 36 = .ok (.aload_n 0, 1) := by decide +kernel
theorem dX6_run_37 : decode cX6_run 37 = .ok (.getfield 19, 3) := by decide +kernel
theorem dX6_run_40 : decode cX6_run 40 = .ok (.aload_n 0, 1) := by decide +kernel
theorem dX6_run_41 : decode cX6_run 41 = .ok (.getfield 46, 3) := by decide +kernel
theorem dX6_run_44 : decode cX6_run 44 = .ok (.ldc 145, 2) := by decide +kernel
theorem dX6_run_46 : decode cX6_run 46 = .ok (.iload_n 1, 1) := by decide +kernel
theorem dX6_run_47 : decode cX6_run 47 = .ok (.invokevirtual 146, 3) := by decide +kernel
theorem dX6_run_50 : decode cX6_run 50 = .ok (.ireturn, 1) := by decide +kernel
theorem dX6_stop_0 : decode cX6_stop 0 = .ok (.aload_n 0, 1) := by decide +kernel
theorem dX6_stop_1 : decode cX6_stop 1 = .ok (.getfield 19, 3) := by decide +kernel
theorem dX6_stop_4 : decode cX6_stop 4 = .ok (.invokevirtual 99, 3) := by decide +kernel
theorem dX6_stop_7 : decode cX6_stop 7 = .ok (.ifCond .ne 6, 3) := by decide +kernel
theorem dX6_stop_10 : decode cX6_stop 10 = .ok (.bipush (-3), 2) := by decide +kernel
theorem dX6_stop_12 : decode cX6_stop 12 = .ok (.ireturn, 1) := by decide +kernel
theorem dX6_stop_13 : decode cX6_stop 13 = .ok (.aload_n 0, 1) := by decide +kernel
theorem dX6_stop_14 : decode cX6_stop 14 = .ok (.getfield 29, 3) := by decide +kernel
theorem dX6_stop_17 : decode cX6_stop 17 = .ok (.aload_n 0, 1) := by decide +kernel
theorem dX6_stop_18 : decode cX6_stop 18 = .ok (.getfield 19, 3) := by decide +kernel
theorem dX6_stop_21 : decode cX6_stop 21 = .ok (.invokevirtual 126, 3) := by decide +kernel
theorem dX6_stop_24 : decode cX6_stop 24 = .ok (.aload_n 0, 1) := by decide +kernel
theorem dX6_stop_25 : decode cX6_stop 25 = .ok (.getfield 19, 3) := by decide +kernel
theorem dX6_stop_28 : decode cX6_stop 28 = .ok (.invokevirtual 151, 3) := by decide +kernel
theorem dX6_stop_31 : decode cX6_stop 31 = .ok (.ireturn, 1) := by decide +kernel
theorem dX6_removeItem_0 : decode cX6_removeItem 0 = .ok (.aload_n 0, 1) := by decide +kernel
theorem dX6_removeItem_1 : decode cX6_removeItem 1 = .ok (.getfield 19, 3) := by decide +kernel
theorem dX6_removeItem_4 : decode cX6_removeItem 4 = .ok (.iload_n 1, 1) := by decide +kernel
theorem dX6_removeItem_5 : decode cX6_removeItem 5 = .ok (.invokevirtual 86, 3) := by decide +kernel
theorem dX6_removeItem_8 : decode cX6_removeItem 8 = .ok (.ifCond .ne 5, 3) := by decide +kernel
theorem dX6_removeItem_11 : decode cX6_removeItem 11 = .ok (.iconst (-1), 1) := by decide +kernel
theorem dX6_removeItem_12 : decode cX6_removeItem 12 = .ok (.ireturn, 1) := by decide +kernel
theorem dX6_removeItem_13 : decode cX6_removeItem 13 = .ok (.iload_n 1, 1) := by decide +kernel
theorem dX6_removeItem_14 : decode cX6_removeItem 14 = .ok (.ifCond .ne 16, 3) := by decide +kernel
theorem dX6_removeItem_17 : decode cX6_removeItem 17 = .ok (.aload_n 0, 1) := by decide +kernel
theorem dX6_removeItem_18 : decode cX6_removeItem 18 = .ok (.getfield 19, 3) := by decide +kernel
theorem dX6_removeItem_21 : decode cX6_removeItem 21 = .ok (.invokevirtual 99, 3) := by decide +kernel
theorem dX6_removeItem_24 : decode cX6_removeItem 24 = .ok (.ifCond .eq 6, 3) := by decide +kernel
theorem dX6_removeItem_27 : decode cX6_removeItem 27 = .ok (.bipush (-3), 2) := by decide +kernel
theorem dX6_removeItem_29 : decode cX6_removeItem 29 = .ok (.ireturn, 1) := by decide +kernel
theorem dX6_removeItem_30 : decode cX6_removeItem 30 = .ok (.aload_n 0, 1) := by decide +kernel
theorem dX6_removeItem_31 : decode cX6_removeItem 31 = .ok (.getfield 29, 3) := by decide +kernel
theorem dX6_removeItem_34 : decode cX6_removeItem 34 = .ok (.aload_n 0, 1) := by decide +kernel
theorem dX6_removeItem_35 : decode cX6_removeItem 35 = .ok (.getfield 19, 3) := by decide +kernel
theorem dX6_removeItem_38 : decode cX6_removeItem 38 = .ok (.invokevirtual 126, 3) := by decide +kernel
theorem dX6_removeItem_41 : decode cX6_removeItem 41 = .ok (.aload_n 0, 1) := by decide +kernel
theorem dX6_removeItem_42 : decode cX6_removeItem 42 = .ok (.getfield 19, 3) := by decide +kernel
theorem dX6_removeItem_45 : decode cX6_removeItem 45 = .ok (.iload_n 1, 1) := by decide +kernel
theorem dX6_removeItem_46 : decode cX6_removeItem 46 = .ok (.invokevirtual 155, 3) := by decide +kernel
theorem dX6_removeItem_49 : decode cX6_removeItem 49 = .ok (.aload_n 0, 1) := by decide +kernel
theorem dX6_removeItem_50 : decode cX6_removeItem 50 = .ok (.getfield 19, 3) := by decide +kernel
theorem dX6_removeItem_53 : decode cX6_removeItem 53 = .ok (.getfield 73, 3) := by decide +kernel
theorem dX6_removeItem_56 : decode cX6_removeItem 56 = .ok (.ireturn, 1) := by decide +kernel
theorem dX6_undo_0 : decode cX6_undo 0 = .ok (.aload_n 0, 1) := by decide +kernel
theorem dX6_undo_1 : decode cX6_undo 1 = .ok (.getfield 29, 3) := by decide +kernel
theorem dX6_undo_4 : decode cX6_undo 4 = .ok (.aload_n 0, 1) := by decide +kernel
theorem dX6_undo_5 : decode cX6_undo 5 = .ok (.getfield 19, 3) := by decide +kernel
theorem dX6_undo_8 : decode cX6_undo 8 = .ok (.invokevirtual 159, 3) := by decide +kernel
theorem dX6_undo_11 : decode cX6_undo 11 = .ok (.ifCond .eq 13, 3) := by decide +kernel
theorem dX6_undo_14 : decode cX6_undo 14 = .ok (.aload_n 0, 1) := by decide +kernel
theorem dX6_undo_15 : decode cX6_undo 15 = .ok (.getfield 29, 3) := by decide +kernel
theorem dX6_undo_18 : decode cX6_undo 18 = .ok (.getfield 163, 3) := by decide +kernel
theorem dX6_undo_21 : decode cX6_undo 21 = .ok (.goto 5, 3) := by decide +kernel
theorem dX6_undo_24 : decode cX6_undo 24 = .ok (.bipush (-3), 2) := by decide +kernel
theorem dX6_undo_26 : decode cX6_undo 26 = .ok (.ireturn, 1) := by decide +kernel
theorem dX6_ticksLeft_0 : decode cX6_ticksLeft 0 = .ok (.aload_n 0, 1) := by decide +kernel
theorem dX6_ticksLeft_1 : decode cX6_ticksLeft 1 = .ok (.getfield 23, 3) := by decide +kernel
theorem dX6_ticksLeft_4 : decode cX6_ticksLeft 4 = .ok (.aload_n 0, 1) := by decide +kernel
theorem dX6_ticksLeft_5 : decode cX6_ticksLeft 5 = .ok (.getfield 19, 3) := by decide +kernel
theorem dX6_ticksLeft_8 : decode cX6_ticksLeft 8 = .ok (.invokevirtual 62, 3) := by decide +kernel
theorem dX6_ticksLeft_11 : decode cX6_ticksLeft 11 = .ok (.aload_n 0, 1) := by decide +kernel
theorem dX6_ticksLeft_12 : decode cX6_ticksLeft 12 = .ok (.getfield 23, 3) := by decide +kernel
theorem dX6_ticksLeft_15 : decode cX6_ticksLeft 15 = .ok (.aload_n 0, 1) := by decide +kernel
theorem dX6_ticksLeft_16 : decode cX6_ticksLeft 16 = .ok (.getfield 46, 3) := by decide +kernel
theorem dX6_ticksLeft_19 : decode cX6_ticksLeft 19 = .ok (.ldc 145, 2) := by decide +kernel
theorem dX6_ticksLeft_21 : decode cX6_ticksLeft 21 = .ok (.ldc 145, 2) := by decide +kernel
theorem dX6_ticksLeft_23 : decode cX6_ticksLeft 23 = .ok (.invokevirtual 146, 3) := by decide +kernel
theorem dX6_ticksLeft_26 : decode cX6_ticksLeft 26 = .ok (.pop, 1) := by decide +kernel
theorem dX6_ticksLeft_27 : decode cX6_ticksLeft 27 = .ok (.aload_n 0, 1) := by decide +kernel
theorem dX6_ticksLeft_28 : decode cX6_ticksLeft 28 = .ok (.getfield 23, 3) := by decide +kernel
theorem dX6_ticksLeft_31 : decode cX6_ticksLeft 31 = .ok (.getfield 83, 3) := by decide +kernel
theorem dX6_ticksLeft_34 : decode cX6_ticksLeft 34 = .ok (.aload_n 0, 1) := by decide +kernel
theorem dX6_ticksLeft_35 : decode cX6_ticksLeft 35 = .ok (.getfield 19, 3) := by decide +kernel
theorem dX6_ticksLeft_38 : decode cX6_ticksLeft 38 = .ok (.getfield 83, 3) := by decide +kernel
theorem dX6_ticksLeft_41 : decode cX6_ticksLeft 41 = .ok (.isub, 1) := by decide +kernel
theorem dX6_ticksLeft_42 : decode cX6_ticksLeft 42 = .ok (.ireturn, 1) := by decide +kernel
theorem dX6_moveTicks_0 : decode cX6_moveTicks 0 = .ok (.iload_n 1, 1) := by decide +kernel
theorem dX6_moveTicks_1 : decode cX6_moveTicks 1 = .ok (.sipush 999, 3) := by decide +kernel
theorem dX6_moveTicks_4 : decode cX6_moveTicks 4 = .ok (.invokestatic 122, 3) := by decide +kernel
theorem dX6_moveTicks_7 : decode cX6_moveTicks 7 = .ok (.ifCond .eq 14, 3) := by decide +kernel
theorem dX6_moveTicks_10 : decode cX6_moveTicks 10 = .ok (.aload_n 0, 1) := by decide +kernel
theorem dX6_moveTicks_11 : decode cX6_moveTicks 11 = .ok (.invokevirtual 106, 3) := by decide +kernel
theorem dX6_moveTicks_14 : decode cX6_moveTicks 14 = .ok (.iload_n 1, 1) := by decide +kernel
theorem dX6_moveTicks_15 : decode cX6_moveTicks 15 = .ok (.invokevirtual 164, 3) := by decide +kernel
theorem dX6_moveTicks_18 : decode cX6_moveTicks 18 = .ok (.goto 5, 3) := by decide +kernel
theorem dX6_moveTicks_21 : decode cX6_moveTicks 21 = .ok (.bipush (-2), 2) := by decide +kernel
theorem dX6_moveTicks_23 : decode cX6_moveTicks 23 = .ok (.ireturn, 1) := by decide +kernel
theorem dX6_positionAfter_0 : decode cX6_positionAfter 0 = .ok (.iload_n 1, 1) := by decide +kernel
theorem dX6_positionAfter_1 : decode cX6_positionAfter 1 = .ok (.invokestatic 76, 3) := by decide +kernel
theorem dX6_positionAfter_4 : decode cX6_positionAfter 4 = .ok (.ifCond .ne 5, 3) := by decide +kernel
theorem dX6_positionAfter_7 : decode cX6_positionAfter 7 = .ok (.iconst (-1), 1) := by decide +kernel
theorem dX6_positionAfter_8 : decode cX6_positionAfter 8 = .ok (.ireturn, 1) := by decide +kernel
theorem dX6_positionAfter_9 : decode cX6_positionAfter 9 = .ok (.iload_n 2, 1) := by decide +kernel
theorem dX6_positionAfter_10 : decode cX6_positionAfter 10 = .ok (.ifCond .lt 9, 3) := by decide +kernel
theorem dX6_positionAfter_13 : decode cX6_positionAfter 13 = .ok (.iload_n 2, 1) := by decide +kernel
theorem dX6_positionAfter_14 : decode cX6_positionAfter 14 = .ok (.ldc 150, 2) := by decide +kernel
theorem dX6_positionAfter_16 : decode cX6_positionAfter 16 = .ok (.if_icmp .le 6, 3) := by decide +kernel
theorem dX6_positionAfter_19 : decode cX6_positionAfter 19 = .ok (.bipush (-2), 2) := by decide +kernel
theorem dX6_positionAfter_21 : decode cX6_positionAfter 21 = .ok (.ireturn, 1) := by decide +kernel
theorem dX6_positionAfter_22 : decode cX6_positionAfter 22 = .ok (.aload_n 0, 1) := by decide +kernel
theorem dX6_positionAfter_23 : decode cX6_positionAfter 23 = .ok (.getfield 23, 3) := by decide +kernel
theorem dX6_positionAfter_26 : decode cX6_positionAfter 26 = .ok (.aload_n 0, 1) := by decide +kernel
theorem dX6_positionAfter_27 : decode cX6_positionAfter 27 = .ok (.getfield 19, 3) := by decide +kernel
theorem dX6_positionAfter_30 : decode cX6_positionAfter 30 = .ok (.invokevirtual 62, 3) := by decide +kernel
theorem dX6_positionAfter_33 : decode cX6_positionAfter 33 = .ok (.aload_n 0, 1) := by decide +kernel
theorem dX6_positionAfter_34 : decode cX6_positionAfter 34 = .ok (.getfield 23, 3) := by decide +kernel
theorem dX6_positionAfter_37 : decode cX6_positionAfter 37 = .ok (.aload_n 0, 1) := by decide +kernel
theorem dX6_positionAfter_38 : decode cX6_positionAfter 38 = .ok (.getfield 46, 3) := by decide +kernel
theorem dX6_positionAfter_41 : decode cX6_positionAfter 41 = .ok (.ldc 145, 2) := by decide +kernel
theorem dX6_positionAfter_43 : decode cX6_positionAfter 43 = .ok (.iload_n 2, 1) := by decide +kernel
theorem dX6_positionAfter_44 : decode cX6_positionAfter 44 = .ok (.invokevirtual 146, 3) := by decide +kernel
theorem dX6_positionAfter_47 : decode cX6_positionAfter 47 = .ok (.pop, 1) := by decide +kernel
theorem dX6_positionAfter_48 : decode cX6_positionAfter 48 = .ok (.aload_n 0, 1) := by decide +kernel
theorem dX6_positionAfter_49 : decode cX6_positionAfter 49 = .ok (.getfield 23, 3) := by decide +kernel
theorem dX6_positionAfter_52 : decode cX6_positionAfter 52 = .ok (.iload_n 1, 1) := by decide +kernel
theorem dX6_positionAfter_53 : decode cX6_positionAfter 53 = .ok (.invokevirtual 79, 3) := by decide +kernel
theorem dX6_positionAfter_56 : decode cX6_positionAfter 56 = .ok (.ireturn, 1) := by decide +kernel
theorem dX6_leastAcceleration_0 : decode cX6_leastAcceleration 0 = .ok (.iload_n 1, 1) := by decide +kernel
theorem dX6_leastAcceleration_1 : decode cX6_leastAcceleration 1 = .ok (.sipush 999, 3) := by decide +kernel
theorem dX6_leastAcceleration_4 : decode cX6_leastAcceleration 4 = .ok (.invokestatic 122, 3) := by decide +kernel
theorem dX6_leastAcceleration_7 : decode cX6_leastAcceleration 7 = .ok (.ifCond .eq 12, 3) := by decide +kernel
theorem dX6_leastAcceleration_10 : decode cX6_leastAcceleration 10 = .ok (.iload_n 2, 1) := by decide +kernel
theorem dX6_leastAcceleration_11 : decode cX6_leastAcceleration 11 = .ok (.ldc 150, 2) := by decide +kernel
theorem dX6_leastAcceleration_13 : decode cX6_leastAcceleration 13 = .ok (.invokestatic 122, 3) := by decide +kernel
theorem dX6_leastAcceleration_16 : decode cX6_leastAcceleration 16 = .ok (.ifCond .ne 6, 3) := by decide +kernel
theorem dX6_leastAcceleration_19 : decode cX6_leastAcceleration 19 = .ok (.bipush (-2), 2) := by decide +kernel
theorem dX6_leastAcceleration_21 : decode cX6_leastAcceleration 21 = .ok (.ireturn, 1) := by decide +kernel
theorem dX6_leastAcceleration_22 : decode cX6_leastAcceleration 22 = .ok (.aload_n 0, 1) := by decide +kernel
theorem dX6_leastAcceleration_23 : decode cX6_leastAcceleration 23 = .ok (.getfield 19, 3) := by decide +kernel
theorem dX6_leastAcceleration_26 : decode cX6_leastAcceleration 26 = .ok (.getfield 132, 3) := by decide +kernel
theorem dX6_leastAcceleration_29 : decode cX6_leastAcceleration 29 = .ok (.invokestatic 167, 3) := by decide +kernel
theorem dX6_leastAcceleration_32 : decode cX6_leastAcceleration 32 = .ok (.istore_n 3, 1) := by decide +kernel
theorem dX6_leastAcceleration_33 : decode cX6_leastAcceleration 33 = .ok (.iload_n 1, 1) := by decide +kernel
theorem dX6_leastAcceleration_34 : decode cX6_leastAcceleration 34 = .ok (.iload_n 3, 1) := by decide +kernel
theorem dX6_leastAcceleration_35 : decode cX6_leastAcceleration 35 = .ok (.imul, 1) := by decide +kernel
theorem dX6_leastAcceleration_36 : decode cX6_leastAcceleration 36 = .ok (.iload_n 2, 1) := by decide +kernel
theorem dX6_leastAcceleration_37 : decode cX6_leastAcceleration 37 = .ok (.if_icmp .le 6, 3) := by decide +kernel
theorem dX6_leastAcceleration_40 : decode cX6_leastAcceleration 40 = .ok (.bipush (-9), 2) := by decide +kernel
theorem dX6_leastAcceleration_42 : decode cX6_leastAcceleration 42 = .ok (.ireturn, 1) := by decide +kernel
theorem dX6_leastAcceleration_43 : decode cX6_leastAcceleration 43 = .ok (.iload_n 3, 1) := by decide +kernel
theorem dX6_leastAcceleration_44 : decode cX6_leastAcceleration 44 = .ok (.iload_n 1, 1) := by decide +kernel
theorem dX6_leastAcceleration_45 : decode cX6_leastAcceleration 45 = .ok (.iload_n 2, 1) := by decide +kernel
theorem dX6_leastAcceleration_46 : decode cX6_leastAcceleration 46 = .ok (.invokestatic 172, 3) := by decide +kernel
theorem dX6_leastAcceleration_49 : decode cX6_leastAcceleration 49 = .ok (.istore 4, 2) := by decide +kernel
theorem dX6_leastAcceleration_51 : decode cX6_leastAcceleration 51 = .ok (.iload 4, 2) := by decide +kernel
theorem dX6_leastAcceleration_53 : decode cX6_leastAcceleration 53 = .ok (.sipush 999, 3) := by decide +kernel
theorem dX6_leastAcceleration_56 : decode cX6_leastAcceleration 56 = .ok (.if_icmp .gt 23, 3) := by decide +kernel
theorem dX6_leastAcceleration_59 : decode cX6_leastAcceleration 59 = .ok (.iload 4, 2) := by decide +kernel
theorem dX6_leastAcceleration_61 : decode cX6_leastAcceleration 61 = .ok (.iload_n 3, 1) := by decide +kernel
theorem dX6_leastAcceleration_62 : decode cX6_leastAcceleration 62 = .ok (.iload_n 1, 1) := by decide +kernel
theorem dX6_leastAcceleration_63 : decode cX6_leastAcceleration 63 = .ok (.invokestatic 176, 3) := by decide +kernel
theorem dX6_leastAcceleration_66 : decode cX6_leastAcceleration 66 = .ok (.iload_n 2, 1) := by decide +kernel
theorem dX6_leastAcceleration_67 : decode cX6_leastAcceleration 67 = .ok (.if_icmp .gt 6, 3) := by decide +kernel
theorem dX6_leastAcceleration_70 : decode cX6_leastAcceleration 70 = .ok (.iload 4, 2) := by decide +kernel
theorem dX6_leastAcceleration_72 : decode cX6_leastAcceleration 72 = .ok (.ireturn, 1) := by decide +kernel
theorem dX6_leastAcceleration_73 : decode cX6_leastAcceleration 73 = .ok (.iinc 4 1, 3) := by decide +kernel
theorem dX6_leastAcceleration_76 : decode cX6_leastAcceleration 76 = .ok (.goto (-25), 3) := by decide +kernel
theorem dX6_leastAcceleration_79 : decode cX6_leastAcceleration 79 = .ok (.bipush (-9), 2) := by decide +kernel
theorem dX6_leastAcceleration_81 : decode cX6_leastAcceleration 81 = .ok (.ireturn, 1) := by decide +kernel
theorem dX6_greatestLength_0 : decode cX6_greatestLength 0 = .ok (.iload_n 1, 1) := by decide +kernel
theorem dX6_greatestLength_1 : decode cX6_greatestLength 1 = .ok (.ldc 150, 2) := by decide +kernel
theorem dX6_greatestLength_3 : decode cX6_greatestLength 3 = .ok (.invokestatic 122, 3) := by decide +kernel
theorem dX6_greatestLength_6 : decode cX6_greatestLength 6 = .ok (.ifCond .ne 6, 3) := by decide +kernel
theorem dX6_greatestLength_9 : decode cX6_greatestLength 9 = .ok (.bipush (-2), 2) := by decide +kernel
theorem dX6_greatestLength_11 : decode cX6_greatestLength 11 = .ok (.ireturn, 1) := by decide +kernel
theorem dX6_greatestLength_12 : decode cX6_greatestLength 12 = .ok (.aload_n 0, 1) := by decide +kernel
theorem dX6_greatestLength_13 : decode cX6_greatestLength 13 = .ok (.invokevirtual 106, 3) := by decide +kernel
theorem dX6_greatestLength_16 : decode cX6_greatestLength 16 = .ok (.astore_n 2, 1) := by decide +kernel
theorem dX6_greatestLength_17 : decode cX6_greatestLength 17 = .ok (.iconst 0, 1) := by decide +kernel
theorem dX6_greatestLength_18 : decode cX6_greatestLength 18 = .ok (.istore_n 3, 1) := by decide +kernel
theorem dX6_greatestLength_19 : decode cX6_greatestLength 19 = .ok (.sipush 1000, 3) := by decide +kernel
theorem dX6_greatestLength_22 : decode cX6_greatestLength 22 = .ok (.istore 4, 2) := by decide +kernel
theorem dX6_greatestLength_24 : decode cX6_greatestLength 24 = .ok (.iconst 0, 1) := by decide +kernel
theorem dX6_greatestLength_25 : decode cX6_greatestLength 25 = .ok (.istore 5, 2) := by decide +kernel
theorem dX6_greatestLength_27 : decode cX6_greatestLength 27 = .ok (.iload 5, 2) := by decide +kernel
theorem dX6_greatestLength_29 : decode cX6_greatestLength 29 = .ok (.sipush 999, 3) := by decide +kernel
theorem dX6_greatestLength_32 : decode cX6_greatestLength 32 = .ok (.if_icmp .ge 45, 3) := by decide +kernel
theorem dX6_greatestLength_35 : decode cX6_greatestLength 35 = .ok (.iload 4, 2) := by decide +kernel
theorem dX6_greatestLength_37 : decode cX6_greatestLength 37 = .ok (.iload_n 3, 1) := by decide +kernel
theorem dX6_greatestLength_38 : decode cX6_greatestLength 38 = .ok (.isub, 1) := by decide +kernel
theorem dX6_greatestLength_39 : decode cX6_greatestLength 39 = .ok (.iconst 1, 1) := by decide +kernel
theorem dX6_greatestLength_40 : decode cX6_greatestLength 40 = .ok (.if_icmp .le 37, 3) := by decide +kernel
theorem dX6_greatestLength_43 : decode cX6_greatestLength 43 = .ok (.iload_n 3, 1) := by decide +kernel
theorem dX6_greatestLength_44 : decode cX6_greatestLength 44 = .ok (.iload 4, 2) := by decide +kernel
theorem dX6_greatestLength_46 : decode cX6_greatestLength 46 = .ok (.iadd, 1) := by decide +kernel
theorem dX6_greatestLength_47 : decode cX6_greatestLength 47 = .ok (.iconst 2, 1) := by decide +kernel
theorem dX6_greatestLength_48 : decode cX6_greatestLength 48 = .ok (.idiv, 1) := by decide +kernel
theorem dX6_greatestLength_49 : decode cX6_greatestLength 49 = .ok (.istore 6, 2) := by decide +kernel
theorem dX6_greatestLength_51 : decode cX6_greatestLength 51 = .ok (.aload_n 2, 1) := by decide +kernel
theorem dX6_greatestLength_52 : decode cX6_greatestLength 52 = .ok (.iload 6, 2) := by decide +kernel
theorem dX6_greatestLength_54 : decode cX6_greatestLength 54 = .ok (.invokevirtual 164, 3) := by decide +kernel
theorem dX6_greatestLength_57 : decode cX6_greatestLength 57 = .ok (.iload_n 1, 1) := by decide +kernel
theorem dX6_greatestLength_58 : decode cX6_greatestLength 58 = .ok (.if_icmp .gt 9, 3) := by decide +kernel
theorem dX6_greatestLength_61 : decode cX6_greatestLength 61 = .ok (.iload 6, 2) := by decide +kernel
theorem dX6_greatestLength_63 : decode cX6_greatestLength 63 = .ok (.istore_n 3, 1) := by decide +kernel
theorem dX6_greatestLength_64 : decode cX6_greatestLength 64 = .ok (.goto 7, 3) := by decide +kernel
theorem dX6_greatestLength_67 : decode cX6_greatestLength 67 = .ok (.iload 6, 2) := by decide +kernel
theorem dX6_greatestLength_69 : decode cX6_greatestLength 69 = .ok (.istore 4, 2) := by decide +kernel
theorem dX6_greatestLength_71 : decode cX6_greatestLength 71 = .ok (.iinc 5 1, 3) := by decide +kernel
theorem dX6_greatestLength_74 : decode cX6_greatestLength 74 = .ok (.goto (-47), 3) := by decide +kernel
theorem dX6_greatestLength_77 : decode cX6_greatestLength 77 = .ok (.iload_n 3, 1) := by decide +kernel
theorem dX6_greatestLength_78 : decode cX6_greatestLength 78 = .ok (.ifCond .le 7, 3) := by decide +kernel
theorem dX6_greatestLength_81 : decode cX6_greatestLength 81 = .ok (.iload_n 3, 1) := by decide +kernel
theorem dX6_greatestLength_82 : decode cX6_greatestLength 82 = .ok (.goto 5, 3) := by decide +kernel
theorem dX6_greatestLength_85 : decode cX6_greatestLength 85 = .ok (.bipush (-9), 2) := by decide +kernel
theorem dX6_greatestLength_87 : decode cX6_greatestLength 87 = .ok (.ireturn, 1) := by decide +kernel
theorem dX6_runScript_0 : decode cX6_runScript 0 = .ok (.iload_n 1, 1) := by decide +kernel
theorem dX6_runScript_1 : decode cX6_runScript 1 = .ok (.iconst 4, 1) := by decide +kernel
theorem dX6_runScript_2 : decode cX6_runScript 2 = .ok (.invokestatic 122, 3) := by decide +kernel
theorem dX6_runScript_5 : decode cX6_runScript 5 = .ok (.ifCond .eq 9, 3) := by decide +kernel
theorem dX6_runScript_8 : decode cX6_runScript 8 = .ok (.lload_n 2, 1) := by decide +kernel
theorem dX6_runScript_9 : decode cX6_runScript 9 = .ok (.lconst 0, 1) := by decide +kernel
theorem dX6_runScript_10 : decode cX6_runScript 10 = .ok (.lcmp, 1) := by decide +kernel
theorem dX6_runScript_11 : decode cX6_runScript 11 = .ok (.ifCond .ge 6, 3) := by decide +kernel
theorem dX6_runScript_14 : decode cX6_runScript 14 = .ok (.bipush (-2), 2) := by decide +kernel
theorem dX6_runScript_16 : decode cX6_runScript 16 = .ok (.ireturn, 1) := by decide +kernel
theorem dX6_runScript_17 : decode cX6_runScript 17 = .ok (.lconst 1, 1) := by decide +kernel
theorem dX6_runScript_18 : decode cX6_runScript 18 = .ok (.lstore 4, 2) := by decide +kernel
theorem dX6_runScript_20 : decode cX6_runScript 20 = .ok (.iconst 0, 1) := by decide +kernel
theorem dX6_runScript_21 : decode cX6_runScript 21 = .ok (.istore 6, 2) := by decide +kernel
theorem dX6_runScript_23 : decode cX6_runScript 23 = .ok (.iload 6, 2) := by decide +kernel
theorem dX6_runScript_25 : decode cX6_runScript 25 = .ok (.iload_n 1, 1) := by decide +kernel
theorem dX6_runScript_26 : decode cX6_runScript 26 = .ok (.if_icmp .ge 17, 3) := by decide +kernel
theorem dX6_runScript_29 : decode cX6_runScript 29 = .ok (.lload 4, 2) := by decide +kernel
theorem dX6_runScript_31 : decode cX6_runScript 31 = .ok (.ldc2_w 178, 3) := by decide +kernel
theorem dX6_runScript_34 : decode cX6_runScript 34 = .ok (.lmul, 1) := by decide +kernel
theorem dX6_runScript_35 : decode cX6_runScript 35 = .ok (.lstore 4, 2) := by decide +kernel
theorem dX6_runScript_37 : decode cX6_runScript 37 = .ok (.iinc 6 1, 3) := by decide +kernel
theorem dX6_runScript_40 : decode cX6_runScript 40 = .ok (.goto (-17), 3) := by decide +kernel
theorem dX6_runScript_43 : decode cX6_runScript 43 = .ok (.lload_n 2, 1) := by decide +kernel
theorem dX6_runScript_44 : decode cX6_runScript 44 = .ok (.lload 4, 2) := by decide +kernel
theorem dX6_runScript_46 : decode cX6_runScript 46 = .ok (.lcmp, 1) := by decide +kernel
theorem dX6_runScript_47 : decode cX6_runScript 47 = .ok (.ifCond .lt 6, 3) := by decide +kernel
theorem dX6_runScript_50 : decode cX6_runScript 50 = .ok (.bipush (-2), 2) := by decide +kernel
theorem dX6_runScript_52 : decode cX6_runScript 52 = .ok (.ireturn, 1) := by decide +kernel
theorem dX6_runScript_53 : decode cX6_runScript 53 = .ok (.aload_n 0, 1) := by decide +kernel
theorem dX6_runScript_54 : decode cX6_runScript 54 = .ok (.getfield 23, 3) := by decide +kernel
theorem dX6_runScript_57 : decode cX6_runScript 57 = .ok (.aload_n 0, 1) := by decide +kernel
theorem dX6_runScript_58 : decode cX6_runScript 58 = .ok (.getfield 19, 3) := by decide +kernel
theorem dX6_runScript_61 : decode cX6_runScript 61 = .ok (.invokevirtual 62, 3) := by decide +kernel
theorem dX6_runScript_64 : decode cX6_runScript 64 = .ok (.iconst 0, 1) := by decide +kernel
theorem dX6_runScript_65 : decode cX6_runScript 65 = .ok (.istore 6, 2) := by decide +kernel
theorem dX6_runScript_67 : decode cX6_runScript 67 = .ok (.iload 6, 2) := by decide +kernel
theorem dX6_runScript_69 : decode cX6_runScript 69 = .ok (.iload_n 1, 1) := by decide +kernel
theorem dX6_runScript_70 : decode cX6_runScript 70 = .ok (.if_icmp .ge 47, 3) := by decide +kernel
theorem dX6_runScript_73 : decode cX6_runScript 73 = .ok (.lload 4, 2) := by decide +kernel
theorem dX6_runScript_75 : decode cX6_runScript 75 = .ok (.lconst 1, 1) := by decide +kernel
theorem dX6_runScript_76 : decode cX6_runScript 76 = .ok (.lcmp, 1) := by decide +kernel
theorem dX6_runScript_77 : decode cX6_runScript 77 = .ok (.ifCond .le 40, 3) := by decide +kernel
theorem dX6_runScript_80 : decode cX6_runScript 80 = .ok (.lload 4, 2) := by decide +kernel
theorem dX6_runScript_82 : decode cX6_runScript 82 = .ok (.ldc2_w 178, 3) := by decide +kernel
theorem dX6_runScript_85 : decode cX6_runScript 85 = .ok (.ldiv, 1) := by decide +kernel
theorem dX6_runScript_86 : decode cX6_runScript 86 = .ok (.lstore 4, 2) := by decide +kernel
theorem dX6_runScript_88 : decode cX6_runScript 88 = .ok (.aload_n 0, 1) := by decide +kernel
theorem dX6_runScript_89 : decode cX6_runScript 89 = .ok (.lload_n 2, 1) := by decide +kernel
theorem dX6_runScript_90 : decode cX6_runScript 90 = .ok (.lload 4, 2) := by decide +kernel
theorem dX6_runScript_92 : decode cX6_runScript 92 = .ok (.lconst 1, 1) := by decide +kernel
theorem dX6_runScript_93 : decode cX6_runScript 93 = .ok (.invokestatic 180, 3) := by decide +kernel
theorem dX6_runScript_96 : decode cX6_runScript 96 = .ok (.ldiv, 1) := by decide +kernel
theorem dX6_runScript_97 : decode cX6_runScript 97 = .ok (.ldc2_w 178, 3) := by decide +kernel
theorem dX6_runScript_100 : decode cX6_runScript 100 = .ok (.lrem, 1) := by decide +kernel
theorem dX6_runScript_101 : decode cX6_runScript 101 = .ok (.l2i, 1) := by decide +kernel
theorem dX6_runScript_102 : decode cX6_runScript 102 = .ok (.invokevirtual 186, 3) := by decide +kernel
theorem dX6_runScript_105 : decode cX6_runScript 105 = .ok (.ifCond .ne 6, 3) := by decide +kernel
theorem dX6_runScript_108 : decode cX6_runScript 108 = .ok (.iload 6, 2) := by decide +kernel
theorem dX6_runScript_110 : decode cX6_runScript 110 = .ok (.ireturn, 1) := by decide +kernel
theorem dX6_runScript_111 : decode cX6_runScript 111 = .ok (.iinc 6 1, 3) := by decide +kernel
theorem dX6_runScript_114 : decode cX6_runScript 114 = .ok (.goto (-47), 3) := by decide +kernel
theorem dX6_runScript_117 : decode cX6_runScript 117 = .ok (.bipush (-9), 2) := by decide +kernel
theorem dX6_runScript_119 : decode cX6_runScript 119 = .ok (.ireturn, 1) := by decide +kernel
theorem dX6_randomSpeeds_0 : decode cX6_randomSpeeds 0 = .ok (.iload_n 3, 1) := by decide +kernel
theorem dX6_randomSpeeds_1 : decode cX6_randomSpeeds 1 = .ok (.sipush 500, 3) := by decide +kernel
theorem dX6_randomSpeeds_4 : decode cX6_randomSpeeds 4 = .ok (.invokestatic 122, 3) := by decide +kernel
theorem dX6_randomSpeeds_7 : decode cX6_randomSpeeds 7 = .ok (.ifCond .ne 6, 3) := by decide +kernel
theorem dX6_randomSpeeds_10 : decode cX6_randomSpeeds 10 = .ok (.bipush (-2), 2) := by decide +kernel
theorem dX6_randomSpeeds_12 : decode cX6_randomSpeeds 12 = .ok (.ireturn, 1) := by decide +kernel
theorem dX6_randomSpeeds_13 : decode cX6_randomSpeeds 13 = .ok (.aload_n 0, 1) := by decide +kernel
theorem dX6_randomSpeeds_14 : decode cX6_randomSpeeds 14 = .ok (.getfield 23, 3) := by decide +kernel
theorem dX6_randomSpeeds_17 : decode cX6_randomSpeeds 17 = .ok (.aload_n 0, 1) := by decide +kernel
theorem dX6_randomSpeeds_18 : decode cX6_randomSpeeds 18 = .ok (.getfield 19, 3) := by decide +kernel
theorem dX6_randomSpeeds_21 : decode cX6_randomSpeeds 21 = .ok (.invokevirtual 62, 3) := by decide +kernel
theorem dX6_randomSpeeds_24 : decode cX6_randomSpeeds 24 = .ok (.lload_n 1, 1) := by decide +kernel
theorem dX6_randomSpeeds_25 : decode cX6_randomSpeeds 25 = .ok (.lstore 4, 2) := by decide +kernel
theorem dX6_randomSpeeds_27 : decode cX6_randomSpeeds 27 = .ok (.iconst 0, 1) := by decide +kernel
theorem dX6_randomSpeeds_28 : decode cX6_randomSpeeds 28 = .ok (.istore 6, 2) := by decide +kernel
theorem dX6_randomSpeeds_30 : decode cX6_randomSpeeds 30 = .ok (.iload 6, 2) := by decide +kernel
theorem dX6_randomSpeeds_32 : decode cX6_randomSpeeds 32 = .ok (.iload_n 3, 1) := by decide +kernel
theorem dX6_randomSpeeds_33 : decode cX6_randomSpeeds 33 = .ok (.if_icmp .ge 78, 3) := by decide +kernel
theorem dX6_randomSpeeds_36 : decode cX6_randomSpeeds 36 = .ok (.aload_n 0, 1) := by decide +kernel
theorem dX6_randomSpeeds_37 : decode cX6_randomSpeeds 37 = .ok (.getfield 23, 3) := by decide +kernel
theorem dX6_randomSpeeds_40 : decode cX6_randomSpeeds 40 = .ok (.getfield 73, 3) := by decide +kernel
theorem dX6_randomSpeeds_43 : decode cX6_randomSpeeds 43 = .ok (.ifCond .le 68, 3) := by decide +kernel
theorem dX6_randomSpeeds_46 : decode cX6_randomSpeeds 46 = .ok (.lload 4, 2) := by decide +kernel
theorem dX6_randomSpeeds_48 : decode cX6_randomSpeeds 48 = .ok (.ldc2_w 189, 3) := by decide +kernel
theorem dX6_randomSpeeds_51 : decode cX6_randomSpeeds 51 = .ok (.lmul, 1) := by decide +kernel
theorem dX6_randomSpeeds_52 : decode cX6_randomSpeeds 52 = .ok (.ldc2_w 191, 3) := by decide +kernel
theorem dX6_randomSpeeds_55 : decode cX6_randomSpeeds 55 = .ok (.ladd, 1) := by decide +kernel
theorem dX6_randomSpeeds_56 : decode cX6_randomSpeeds 56 = .ok (.lstore 4, 2) := by decide +kernel
theorem dX6_randomSpeeds_58 : decode cX6_randomSpeeds 58 = .ok (.lload 4, 2) := by decide +kernel
theorem dX6_randomSpeeds_60 : decode cX6_randomSpeeds 60 = .ok (.bipush 33, 2) := by decide +kernel
theorem dX6_randomSpeeds_62 : decode cX6_randomSpeeds 62 = .ok (.lushr, 1) := by decide +kernel
theorem dX6_randomSpeeds_63 : decode cX6_randomSpeeds 63 = .ok (.l2i, 1) := by decide +kernel
theorem dX6_randomSpeeds_64 : decode cX6_randomSpeeds 64 = .ok (.istore 7, 2) := by decide +kernel
theorem dX6_randomSpeeds_66 : decode cX6_randomSpeeds 66 = .ok (.iload 7, 2) := by decide +kernel
theorem dX6_randomSpeeds_68 : decode cX6_randomSpeeds 68 = .ok (.iconst 4, 1) := by decide +kernel
theorem dX6_randomSpeeds_69 : decode cX6_randomSpeeds 69 = .ok (.irem, 1) := by decide +kernel
theorem dX6_randomSpeeds_70 : decode cX6_randomSpeeds 70 = .ok (.ifCond .ne 20, 3) := by decide +kernel
theorem dX6_randomSpeeds_73 : decode cX6_randomSpeeds 73 = .ok (.aload_n 0, 1) := by decide +kernel
theorem dX6_randomSpeeds_74 : decode cX6_randomSpeeds 74 = .ok (.getfield 23, 3) := by decide +kernel
theorem dX6_randomSpeeds_77 : decode cX6_randomSpeeds 77 = .ok (.iload 7, 2) := by decide +kernel
theorem dX6_randomSpeeds_79 : decode cX6_randomSpeeds 79 = .ok (.iconst 4, 1) := by decide +kernel
theorem dX6_randomSpeeds_80 : decode cX6_randomSpeeds 80 = .ok (.idiv, 1) := by decide +kernel
theorem dX6_randomSpeeds_81 : decode cX6_randomSpeeds 81 = .ok (.sipush 999, 3) := by decide +kernel
theorem dX6_randomSpeeds_84 : decode cX6_randomSpeeds 84 = .ok (.irem, 1) := by decide +kernel
theorem dX6_randomSpeeds_85 : decode cX6_randomSpeeds 85 = .ok (.iconst 1, 1) := by decide +kernel
theorem dX6_randomSpeeds_86 : decode cX6_randomSpeeds 86 = .ok (.iadd, 1) := by decide +kernel
theorem dX6_randomSpeeds_87 : decode cX6_randomSpeeds 87 = .ok (.putfield 132, 3) := by decide +kernel
theorem dX6_randomSpeeds_90 : decode cX6_randomSpeeds 90 = .ok (.aload_n 0, 1) := by decide +kernel
theorem dX6_randomSpeeds_91 : decode cX6_randomSpeeds 91 = .ok (.getfield 23, 3) := by decide +kernel
theorem dX6_randomSpeeds_94 : decode cX6_randomSpeeds 94 = .ok (.aload_n 0, 1) := by decide +kernel
theorem dX6_randomSpeeds_95 : decode cX6_randomSpeeds 95 = .ok (.getfield 46, 3) := by decide +kernel
theorem dX6_randomSpeeds_98 : decode cX6_randomSpeeds 98 = .ok (.iconst 1, 1) := by decide +kernel
theorem dX6_randomSpeeds_99 : decode cX6_randomSpeeds 99 = .ok (.ldc 145, 2) := by decide +kernel
theorem dX6_randomSpeeds_101 : decode cX6_randomSpeeds 101 = .ok (.invokevirtual 146, 3) := by decide +kernel
theorem dX6_randomSpeeds_104 : decode cX6_randomSpeeds 104 = .ok (.pop, 1) := by decide +kernel
theorem dX6_randomSpeeds_105 : decode cX6_randomSpeeds 105 = .ok (.iinc 6 1, 3) := by decide +kernel
theorem dX6_randomSpeeds_108 : decode cX6_randomSpeeds 108 = .ok (.goto (-78), 3) := by decide +kernel
theorem dX6_randomSpeeds_111 : decode cX6_randomSpeeds 111 = .ok (.aload_n 0, 1) := by decide +kernel
theorem dX6_randomSpeeds_112 : decode cX6_randomSpeeds 112 = .ok (.getfield 23, 3) := by decide +kernel
theorem dX6_randomSpeeds_115 : decode cX6_randomSpeeds 115 = .ok (.getfield 83, 3) := by decide +kernel
theorem dX6_randomSpeeds_118 : decode cX6_randomSpeeds 118 = .ok (.aload_n 0, 1) := by decide +kernel
theorem dX6_randomSpeeds_119 : decode cX6_randomSpeeds 119 = .ok (.getfield 19, 3) := by decide +kernel
theorem dX6_randomSpeeds_122 : decode cX6_randomSpeeds 122 = .ok (.getfield 83, 3) := by decide +kernel
theorem dX6_randomSpeeds_125 : decode cX6_randomSpeeds 125 = .ok (.isub, 1) := by decide +kernel
theorem dX6_randomSpeeds_126 : decode cX6_randomSpeeds 126 = .ok (.ireturn, 1) := by decide +kernel
theorem dX6_save_0 : decode cX6_save 0 = .ok (.iload_n 1, 1) := by decide +kernel
theorem dX6_save_1 : decode cX6_save 1 = .ok (.invokestatic 193, 3) := by decide +kernel
theorem dX6_save_4 : decode cX6_save 4 = .ok (.ifCond .ne 5, 3) := by decide +kernel
theorem dX6_save_7 : decode cX6_save 7 = .ok (.iconst (-1), 1) := by decide +kernel
theorem dX6_save_8 : decode cX6_save 8 = .ok (.ireturn, 1) := by decide +kernel
theorem dX6_save_9 : decode cX6_save 9 = .ok (.aload_n 0, 1) := by decide +kernel
theorem dX6_save_10 : decode cX6_save 10 = .ok (.iload_n 1, 1) := by decide +kernel
theorem dX6_save_11 : decode cX6_save 11 = .ok (.invokevirtual 196, 3) := by decide +kernel
theorem dX6_save_14 : decode cX6_save 14 = .ok (.astore_n 2, 1) := by decide +kernel
theorem dX6_save_15 : decode cX6_save 15 = .ok (.aload_n 2, 1) := by decide +kernel
theorem dX6_save_16 : decode cX6_save 16 = .ok (.getfield 200, 3) := by decide +kernel
theorem dX6_save_19 : decode cX6_save 19 = .ok (.aload_n 0, 1) := by decide +kernel
theorem dX6_save_20 : decode cX6_save 20 = .ok (.getfield 19, 3) := by decide +kernel
theorem dX6_save_23 : decode cX6_save 23 = .ok (.invokevirtual 62, 3) := by decide +kernel
theorem dX6_save_26 : decode cX6_save 26 = .ok (.aload_n 2, 1) := by decide +kernel
theorem dX6_save_27 : decode cX6_save 27 = .ok (.iconst 1, 1) := by decide +kernel
theorem dX6_save_28 : decode cX6_save 28 = .ok (.putfield 69, 3) := by decide +kernel
theorem dX6_save_31 : decode cX6_save 31 = .ok (.aload_n 0, 1) := by decide +kernel
theorem dX6_save_32 : decode cX6_save 32 = .ok (.getfield 19, 3) := by decide +kernel
theorem dX6_save_35 : decode cX6_save 35 = .ok (.getfield 73, 3) := by decide +kernel
theorem dX6_save_38 : decode cX6_save 38 = .ok (.ireturn, 1) := by decide +kernel
theorem dX6_restore_0 : decode cX6_restore 0 = .ok (.iload_n 1, 1) := by decide +kernel
theorem dX6_restore_1 : decode cX6_restore 1 = .ok (.invokestatic 193, 3) := by decide +kernel
theorem dX6_restore_4 : decode cX6_restore 4 = .ok (.ifCond .ne 5, 3) := by decide +kernel
theorem dX6_restore_7 : decode cX6_restore 7 = .ok (.iconst (-1), 1) := by decide +kernel
theorem dX6_restore_8 : decode cX6_restore 8 = .ok (.ireturn, 1) := by decide +kernel
theorem dX6_restore_9 : decode cX6_restore 9 = .ok (.aload_n 0, 1) := by decide +kernel
theorem dX6_restore_10 : decode cX6_restore 10 = .ok (.iload_n 1, 1) := by decide +kernel
theorem dX6_restore_11 : decode cX6_restore 11 = .ok (.invokevirtual 196, 3) := by decide +kernel
theorem dX6_restore_14 : decode cX6_restore 14 = .ok (.astore_n 2, 1) := by decide +kernel
theorem dX6_restore_15 : decode cX6_restore 15 = .ok (.aload_n 2, 1) := by decide +kernel
theorem dX6_restore_16 : decode cX6_restore 16 = .ok (.getfield 69, 3) := by decide +kernel
theorem dX6_restore_19 : decode cX6_restore 19 = .ok (.ifCond .ne 6, 3) := by decide +kernel
theorem dX6_restore_22 : decode cX6_restore 22 = .ok (.bipush (-3), 2) := by decide +kernel
theorem dX6_restore_24 : decode cX6_restore 24 = .ok (.ireturn, 1) := by decide +kernel
theorem dX6_restore_25 : decode cX6_restore 25 = .ok (.aload_n 0, 1) := by decide +kernel
theorem dX6_restore_26 : decode cX6_restore 26 = .ok (.getfield 19, 3) := by decide +kernel
theorem dX6_restore_29 : decode cX6_restore 29 = .ok (.aload_n 2, 1) := by decide +kernel
theorem dX6_restore_30 : decode cX6_restore 30 = .ok (.getfield 200, 3) := by decide +kernel
theorem dX6_restore_33 : decode cX6_restore 33 = .ok (.invokevirtual 62, 3) := by decide +kernel
theorem dX6_restore_36 : decode cX6_restore 36 = .ok (.aload_n 0, 1) := by decide +kernel
theorem dX6_restore_37 : decode cX6_restore 37 = .ok (.getfield 29, 3) := by decide +kernel
theorem dX6_restore_40 : decode cX6_restore 40 = .ok (.invokevirtual 66, 3) := by decide +kernel
theorem dX6_restore_43 : decode cX6_restore 43 = .ok (.aload_n 0, 1) := by decide +kernel
theorem dX6_restore_44 : decode cX6_restore 44 = .ok (.getfield 19, 3) := by decide +kernel
theorem dX6_restore_47 : decode cX6_restore 47 = .ok (.getfield 73, 3) := by decide +kernel
theorem dX6_restore_50 : decode cX6_restore 50 = .ok (.ireturn, 1) := by decide +kernel
theorem dX6_isAxis_0 : decode cX6_isAxis 0 = .ok (.iload_n 0, 1) := by decide +kernel
theorem dX6_isAxis_1 : decode cX6_isAxis 1 = .ok (.ifCond .eq 8, 3) := by decide +kernel
theorem dX6_isAxis_4 : decode cX6_isAxis 4 = .ok (.iload_n 0, 1) := by decide +kernel
theorem dX6_isAxis_5 : decode cX6_isAxis 5 = .ok (.iconst 1, 1) := by decide +kernel
theorem dX6_isAxis_6 : decode cX6_isAxis 6 = .ok (.if_icmp .ne 7, 3) := by decide +kernel
theorem dX6_isAxis_9 : decode cX6_isAxis 9 = .ok (.iconst 1, 1) := by decide +kernel
theorem dX6_isAxis_10 : decode cX6_isAxis 10 = .ok (.goto 4, 3) := by decide +kernel
theorem dX6_isAxis_13 : decode cX6_isAxis 13 = .ok (.iconst 0, 1) := by decide +kernel
theorem dX6_isAxis_14 : decode cX6_isAxis 14 = .ok (.ireturn, 1) := by decide +kernel
theorem dX6_isSlot_0 : decode cX6_isSlot 0 = .ok (.iload_n 0, 1) := by decide +kernel
theorem dX6_isSlot_1 : decode cX6_isSlot 1 = .ok (.ifCond .eq 8, 3) := by decide +kernel
theorem dX6_isSlot_4 : decode cX6_isSlot 4 = .ok (.iload_n 0, 1) := by decide +kernel
theorem dX6_isSlot_5 : decode cX6_isSlot 5 = .ok (.iconst 1, 1) := by decide +kernel
theorem dX6_isSlot_6 : decode cX6_isSlot 6 = .ok (.if_icmp .ne 7, 3) := by decide +kernel
theorem dX6_isSlot_9 : decode cX6_isSlot 9 = .ok (.iconst 1, 1) := by decide +kernel
theorem dX6_isSlot_10 : decode cX6_isSlot 10 = .ok (.goto 4, 3) := by decide +kernel
theorem dX6_isSlot_13 : decode cX6_isSlot 13 = .ok (.iconst 0, 1) := by decide +kernel
theorem dX6_isSlot_14 : decode cX6_isSlot 14 = .ok (.ireturn, 1) := by decide +kernel
theorem dX6_isIndex_0 : decode cX6_isIndex 0 = .ok (.iload_n 0, 1) := by decide +kernel
theorem dX6_isIndex_1 : decode cX6_isIndex 1 = .ok (.ifCond .lt 14, 3) := by decide +kernel
theorem dX6_isIndex_4 : decode cX6_isIndex 4 = .ok (.iload_n 0, 1) := by decide +kernel
theorem dX6_isIndex_5 : decode cX6_isIndex 5 = .ok (.sipush 999, 3) := by decide +kernel
theorem dX6_isIndex_8 : decode cX6_isIndex 8 = .ok (.if_icmp .gt 7, 3) := by decide +kernel
theorem dX6_isIndex_11 : decode cX6_isIndex 11 = .ok (.iconst 1, 1) := by decide +kernel
theorem dX6_isIndex_12 : decode cX6_isIndex 12 = .ok (.goto 4, 3) := by decide +kernel
theorem dX6_isIndex_15 : decode cX6_isIndex 15 = .ok (.iconst 0, 1) := by decide +kernel
theorem dX6_isIndex_16 : decode cX6_isIndex 16 = .ok (.ireturn, 1) := by decide +kernel
theorem dX6_isPositive_0 : decode cX6_isPositive 0 = .ok (.iload_n 0, 1) := by decide +kernel
theorem dX6_isPositive_1 : decode cX6_isPositive 1 = .ok (.iconst 1, 1) := by decide +kernel
theorem dX6_isPositive_2 : decode cX6_isPositive 2 = .ok (.if_icmp .lt 12, 3) := by decide +kernel
theorem dX6_isPositive_5 : decode cX6_isPositive 5 = .ok (.iload_n 0, 1) := by decide +kernel
theorem dX6_isPositive_6 : decode cX6_isPositive 6 = .ok (.iload_n 1, 1) := by decide +kernel
theorem dX6_isPositive_7 : decode cX6_isPositive 7 = .ok (.if_icmp .gt 7, 3) := by decide +kernel
theorem dX6_isPositive_10 : decode cX6_isPositive 10 = .ok (.iconst 1, 1) := by decide +kernel
theorem dX6_isPositive_11 : decode cX6_isPositive 11 = .ok (.goto 4, 3) := by decide +kernel
theorem dX6_isPositive_14 : decode cX6_isPositive 14 = .ok (.iconst 0, 1) := by decide +kernel
theorem dX6_isPositive_15 : decode cX6_isPositive 15 = .ok (.ireturn, 1) := by decide +kernel
theorem dX6_isDistance_0 : decode cX6_isDistance 0 = .ok (.iload_n 0, 1) := by decide +kernel
theorem dX6_isDistance_1 : decode cX6_isDistance 1 = .ok (.sipush (-999), 3) := by decide +kernel
theorem dX6_isDistance_4 : decode cX6_isDistance 4 = .ok (.if_icmp .lt 14, 3) := by decide +kernel
theorem dX6_isDistance_7 : decode cX6_isDistance 7 = .ok (.iload_n 0, 1) := by decide +kernel
theorem dX6_isDistance_8 : decode cX6_isDistance 8 = .ok (.sipush 999, 3) := by decide +kernel
theorem dX6_isDistance_11 : decode cX6_isDistance 11 = .ok (.if_icmp .gt 7, 3) := by decide +kernel
theorem dX6_isDistance_14 : decode cX6_isDistance 14 = .ok (.iconst 1, 1) := by decide +kernel
theorem dX6_isDistance_15 : decode cX6_isDistance 15 = .ok (.goto 4, 3) := by decide +kernel
theorem dX6_isDistance_18 : decode cX6_isDistance 18 = .ok (.iconst 0, 1) := by decide +kernel
theorem dX6_isDistance_19 : decode cX6_isDistance 19 = .ok (.ireturn, 1) := by decide +kernel
theorem dX6_slotAt_0 : decode cX6_slotAt 0 = .ok (.iload_n 1, 1) := by decide +kernel
theorem dX6_slotAt_1 : decode cX6_slotAt 1 = .ok (.ifCond .ne 10, 3) := by decide +kernel
theorem dX6_slotAt_4 : decode cX6_slotAt 4 = .ok (.aload_n 0, 1) := by decide +kernel
theorem dX6_slotAt_5 : decode cX6_slotAt 5 = .ok (.getfield 36, 3) := by decide +kernel
theorem dX6_slotAt_8 : decode cX6_slotAt 8 = .ok (.goto 7, 3) := by decide +kernel
theorem dX6_slotAt_11 : decode cX6_slotAt 11 = .ok (.aload_n 0, 1) := by decide +kernel
theorem dX6_slotAt_12 : decode cX6_slotAt 12 = .ok (.getfield 40, 3) := by decide +kernel
theorem dX6_slotAt_15 : decode cX6_slotAt 15 = .ok (.areturn, 1) := by decide +kernel
theorem dX6_presentRamp_0 : decode cX6_presentRamp 0 = .ok (.aload_n 0, 1) := by decide +kernel
theorem dX6_presentRamp_1 : decode cX6_presentRamp 1 = .ok (.getfield 46, 3) := by decide +kernel
theorem dX6_presentRamp_4 : decode cX6_presentRamp 4 = .ok (.aload_n 0, 1) := by decide +kernel
theorem dX6_presentRamp_5 : decode cX6_presentRamp 5 = .ok (.getfield 19, 3) := by decide +kernel
theorem dX6_presentRamp_8 : decode cX6_presentRamp 8 = .ok (.getfield 129, 3) := by decide +kernel
theorem dX6_presentRamp_11 : decode cX6_presentRamp 11 = .ok (.aload_n 0, 1) := by decide +kernel
theorem dX6_presentRamp_12 : decode cX6_presentRamp 12 = .ok (.getfield 19, 3) := by decide +kernel
theorem dX6_presentRamp_15 : decode cX6_presentRamp 15 = .ok (.getfield 132, 3) := by decide +kernel
theorem dX6_presentRamp_18 : decode cX6_presentRamp 18 = .ok (.invokevirtual 201, 3) := by decide +kernel
theorem dX6_presentRamp_21 : decode cX6_presentRamp 21 = .ok (.aload_n 0, 1) := by decide +kernel
theorem dX6_presentRamp_22 : decode cX6_presentRamp 22 = .ok (.getfield 46, 3) := by decide +kernel
theorem dX6_presentRamp_25 : decode cX6_presentRamp 25 = .ok (.areturn, 1) := by decide +kernel
theorem dX6_succeeds_0 : decode cX6_succeeds 0 = .ok (.iload_n 1, 1) := by decide +kernel
theorem dX6_succeeds_1 : decode cX6_succeeds 1 = .ok (.sipush 1000, 3) := by decide +kernel
theorem dX6_succeeds_4 : decode cX6_succeeds 4 = .ok (.irem, 1) := by decide +kernel
theorem dX6_succeeds_5 : decode cX6_succeeds 5 = .ok (.istore_n 2, 1) := by decide +kernel
theorem dX6_succeeds_6 : decode cX6_succeeds 6 = .ok (.iload_n 1, 1) := by decide +kernel
theorem dX6_succeeds_7 : decode cX6_succeeds 7 = .ok (.sipush 1000, 3) := by decide +kernel
theorem dX6_succeeds_10 : decode cX6_succeeds 10 = .ok (.idiv, 1) := by decide +kernel
theorem dX6_succeeds_11 : decode cX6_succeeds 11 = .ok (.tableswitch 173 1 6 #[37, 64, 86, 112, 129, 156], 37) := by decide +kernel
theorem dX6_succeeds_48 : decode cX6_succeeds 48 = .ok (.iload_n 2, 1) := by decide +kernel
theorem dX6_succeeds_49 : decode cX6_succeeds 49 = .ok (.ifCond .le 24, 3) := by decide +kernel
theorem dX6_succeeds_52 : decode cX6_succeeds 52 = .ok (.aload_n 0, 1) := by decide +kernel
theorem dX6_succeeds_53 : decode cX6_succeeds 53 = .ok (.getfield 23, 3) := by decide +kernel
theorem dX6_succeeds_56 : decode cX6_succeeds 56 = .ok (.aload_n 0, 1) := by decide +kernel
theorem dX6_succeeds_57 : decode cX6_succeeds 57 = .ok (.getfield 46, 3) := by decide +kernel
theorem dX6_succeeds_60 : decode cX6_succeeds 60 = .ok (.iload_n 2, 1) := by decide +kernel
theorem dX6_succeeds_61 : decode cX6_succeeds 61 = .ok (.ldc 145, 2) := by decide +kernel
theorem dX6_succeeds_63 : decode cX6_succeeds 63 = .ok (.invokevirtual 146, 3) := by decide +kernel
theorem dX6_succeeds_66 : decode cX6_succeeds 66 = .ok (.ifCond .le 7, 3) := by decide +kernel
theorem dX6_succeeds_69 : decode cX6_succeeds 69 = .ok (.iconst 1, 1) := by decide +kernel
theorem dX6_succeeds_70 : decode cX6_succeeds 70 = .ok (.goto 4, 3) := by decide +kernel
theorem dX6_succeeds_73 : decode cX6_succeeds 73 = .ok (.iconst 0, 1) := by decide +kernel
theorem dX6_succeeds_74 : decode cX6_succeeds 74 = .ok (.ireturn, 1) := by decide +kernel
theorem dX6_succeeds_75 : decode cX6_succeeds 75 = .ok (.iload_n 2, 1) := by decide +kernel
theorem dX6_succeeds_76 : decode cX6_succeeds 76 = .ok (.ifCond .le 11, 3) := by decide +kernel
theorem dX6_succeeds_79 : decode cX6_succeeds 79 = .ok (.aload_n 0, 1) := by decide +kernel
theorem dX6_succeeds_80 : decode cX6_succeeds 80 = .ok (.getfield 23, 3) := by decide +kernel
theorem dX6_succeeds_83 : decode cX6_succeeds 83 = .ok (.iload_n 2, 1) := by decide +kernel
theorem dX6_succeeds_84 : decode cX6_succeeds 84 = .ok (.putfield 132, 3) := by decide +kernel
theorem dX6_succeeds_87 : decode cX6_succeeds 87 = .ok (.iload_n 2, 1) := by decide +kernel
theorem dX6_succeeds_88 : decode cX6_succeeds 88 = .ok (.ifCond .le 7, 3) := by decide +kernel
theorem dX6_succeeds_91 : decode cX6_succeeds 91 = .ok (.iconst 1, 1) := by decide +kernel
theorem dX6_succeeds_92 : decode cX6_succeeds 92 = .ok (.goto 4, 3) := by decide +kernel
theorem dX6_succeeds_95 : decode cX6_succeeds 95 = .ok (.iconst 0, 1) := by decide +kernel
theorem dX6_succeeds_96 : decode cX6_succeeds 96 = .ok (.ireturn, 1) := by decide +kernel
theorem dX6_succeeds_97 : decode cX6_succeeds 97 = .ok (.iload_n 2, 1) := by decide +kernel
theorem dX6_succeeds_98 : decode cX6_succeeds 98 = .ok (.ifCond .gt 13, 3) := by decide +kernel
theorem dX6_succeeds_101 : decode cX6_succeeds 101 = .ok (.aload_n 0, 1) := by decide +kernel
theorem dX6_succeeds_102 : decode cX6_succeeds 102 = .ok (.getfield 23, 3) := by decide +kernel
theorem dX6_succeeds_105 : decode cX6_succeeds 105 = .ok (.invokevirtual 99, 3) := by decide +kernel
theorem dX6_succeeds_108 : decode cX6_succeeds 108 = .ok (.ifCond .ne 5, 3) := by decide +kernel
theorem dX6_succeeds_111 : decode cX6_succeeds 111 = .ok (.iconst 0, 1) := by decide +kernel
theorem dX6_succeeds_112 : decode cX6_succeeds 112 = .ok (.ireturn, 1) := by decide +kernel
theorem dX6_succeeds_113 : decode cX6_succeeds 113 = .ok (.aload_n 0, 1) := by decide +kernel
theorem dX6_succeeds_114 : decode cX6_succeeds 114 = .ok (.getfield 23, 3) := by decide +kernel
theorem dX6_succeeds_117 : decode cX6_succeeds 117 = .ok (.invokevirtual 151, 3) := by decide +kernel
theorem dX6_succeeds_120 : decode cX6_succeeds 120 = .ok (.pop, 1) := by decide +kernel
theorem dX6_succeeds_121 : decode cX6_succeeds 121 = .ok (.iconst 1, 1) := by decide +kernel
theorem dX6_succeeds_122 : decode cX6_succeeds 122 = .ok (.ireturn, 1) := by decide +kernel
theorem dX6_succeeds_123 : decode cX6_succeeds 123 = .ok (.aload_n 0, 1) := by decide +kernel
theorem dX6_succeeds_124 : decode cX6_succeeds 124 = .ok (.getfield 23, 3) := by decide +kernel
theorem dX6_succeeds_127 : decode cX6_succeeds 127 = .ok (.getfield 205, 3) := by decide +kernel
theorem dX6_succeeds_130 : decode cX6_succeeds 130 = .ok (.iload_n 2, 1) := by decide +kernel
theorem dX6_succeeds_131 : decode cX6_succeeds 131 = .ok (.if_icmp .ne 7, 3) := by decide +kernel
theorem dX6_succeeds_134 : decode cX6_succeeds 134 = .ok (.iconst 1, 1) := by decide +kernel
theorem dX6_succeeds_135 : decode cX6_succeeds 135 = .ok (.goto 4, 3) := by decide +kernel
theorem dX6_succeeds_138 : decode cX6_succeeds 138 = .ok (.iconst 0, 1) := by decide +kernel
theorem dX6_succeeds_139 : decode cX6_succeeds 139 = .ok (.ireturn, 1) := by decide +kernel
theorem dX6_succeeds_140 : decode cX6_succeeds 140 = .ok (.aload_n 0, 1) := by decide +kernel
theorem dX6_succeeds_141 : decode cX6_succeeds 141 = .ok (.getfield 23, 3) := by decide +kernel
theorem dX6_succeeds_144 : decode cX6_succeeds 144 = .ok (.invokevirtual 99, 3) := by decide +kernel
theorem dX6_succeeds_147 : decode cX6_succeeds 147 = .ok (.ifCond .eq 18, 3) := by decide +kernel
theorem dX6_succeeds_150 : decode cX6_succeeds 150 = .ok (.aload_n 0, 1) := by decide +kernel
theorem dX6_succeeds_151 : decode cX6_succeeds 151 = .ok (.getfield 23, 3) := by decide +kernel
theorem dX6_succeeds_154 : decode cX6_succeeds 154 = .ok (.getfield 103, 3) := by decide +kernel
theorem dX6_succeeds_157 : decode cX6_succeeds 157 = .ok (.iload_n 2, 1) := by decide +kernel
theorem dX6_succeeds_158 : decode cX6_succeeds 158 = .ok (.if_icmp .ne 7, 3) := by decide +kernel
theorem dX6_succeeds_161 : decode cX6_succeeds 161 = .ok (.iconst 1, 1) := by decide +kernel
theorem dX6_succeeds_162 : decode cX6_succeeds 162 = .ok (.goto 4, 3) := by decide +kernel
theorem dX6_succeeds_165 : decode cX6_succeeds 165 = .ok (.iconst 0, 1) := by decide +kernel
theorem dX6_succeeds_166 : decode cX6_succeeds 166 = .ok (.ireturn, 1) := by decide +kernel
theorem dX6_succeeds_167 : decode cX6_succeeds 167 = .ok (.aload_n 0, 1) := by decide +kernel
theorem dX6_succeeds_168 : decode cX6_succeeds 168 = .ok (.getfield 23, 3) := by decide +kernel
theorem dX6_succeeds_171 : decode cX6_succeeds 171 = .ok (.getfield 73, 3) := by decide +kernel
theorem dX6_succeeds_174 : decode cX6_succeeds 174 = .ok (.iload_n 2, 1) := by decide +kernel
theorem dX6_succeeds_175 : decode cX6_succeeds 175 = .ok (.if_icmp .ne 7, 3) := by decide +kernel
theorem dX6_succeeds_178 : decode cX6_succeeds 178 = .ok (.iconst 1, 1) := by decide +kernel
theorem dX6_succeeds_179 : decode cX6_succeeds 179 = .ok (.goto 4, 3) := by decide +kernel
theorem dX6_succeeds_182 : decode cX6_succeeds 182 = .ok (.iconst 0, 1) := by decide +kernel
theorem dX6_succeeds_183 : decode cX6_succeeds 183 = .ok (.ireturn, 1) := by decide +kernel
theorem dX6_succeeds_184 : decode cX6_succeeds 184 = .ok (.iconst 0, 1) := by decide +kernel
theorem dX6_succeeds_185 : decode cX6_succeeds 185 = .ok (.ireturn, 1) := by decide +kernel
