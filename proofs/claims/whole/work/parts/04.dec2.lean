theorem dX7_init_0 : decode cX7_init 0 = .ok (.aload_n 0, 1) := by decide +kernel
theorem dX7_init_1 : decode cX7_init 1 = .ok (.invokespecial 1, 3) := by decide +kernel
theorem dX7_init_4 : decode cX7_init 4 = .ok (.aload_n 0, 1) := by decide +kernel
theorem dX7_init_5 : decode cX7_init 5 = .ok (.bipush 80, 2) := by decide +kernel
theorem dX7_init_7 : decode cX7_init 7 = .ok (.newarray .int, 2) := by decide +kernel
theorem dX7_init_9 : decode cX7_init 9 = .ok (.putfield 7, 3) := by decide +kernel
theorem dX7_init_12 : decode cX7_init 12 = .ok (.aload_n 0, 1) := by decide +kernel
theorem dX7_init_13 : decode cX7_init 13 = .ok (.bipush 33, 2) := by decide +kernel
theorem dX7_init_15 : decode cX7_init 15 = .ok (.newarray .int, 2) := by decide +kernel
theorem dX7_init_17 : decode cX7_init 17 = .ok (.putfield 13, 3) := by decide +kernel
theorem dX7_init_20 : decode cX7_init 20 = .ok (.aload_n 0, 1) := by decide +kernel
theorem dX7_init_21 : decode cX7_init 21 = .ok (.bipush 33, 2) := by decide +kernel
theorem dX7_init_23 : decode cX7_init 23 = .ok (.newarray .int, 2) := by decide +kernel
theorem dX7_init_25 : decode cX7_init 25 = .ok (.putfield 16, 3) := by decide +kernel
theorem dX7_init_28 : decode cX7_init 28 = .ok (.aload_n 0, 1) := by decide +kernel
theorem dX7_init_29 : decode cX7_init 29 = .ok (.bipush 33, 2) := by decide +kernel
theorem dX7_init_31 : decode cX7_init 31 = .ok (.newarray .int, 2) := by decide +kernel
theorem dX7_init_33 : decode cX7_init 33 = .ok (.putfield 19, 3) := by decide +kernel
theorem dX7_init_36 : decode cX7_init 36 = .ok (.aload_n 0, 1) := by decide +kernel
theorem dX7_init_37 : decode cX7_init 37 = .ok (.sipush 462, 3) := by decide +kernel
theorem dX7_init_40 : decode cX7_init 40 = .ok (.newarray .int, 2) := by decide +kernel
theorem dX7_init_42 : decode cX7_init 42 = .ok (.putfield 22, 3) := by decide +kernel
theorem dX7_init_45 : decode cX7_init 45 = .ok (.aload_n 0, 1) := by decide +kernel
theorem dX7_init_46 : decode cX7_init 46 = .ok (.bipush 66, 2) := by decide +kernel
theorem dX7_init_48 : decode cX7_init 48 = .ok (.newarray .int, 2) := by decide +kernel
theorem dX7_init_50 : decode cX7_init 50 = .ok (.putfield 25, 3) := by decide +kernel
theorem dX7_init_53 : decode cX7_init 53 = .ok (.aload_n 0, 1) := by decide +kernel
theorem dX7_init_54 : decode cX7_init 54 = .ok (.iconst 2, 1) := by decide +kernel
theorem dX7_init_55 : decode cX7_init 55 = .ok (.newarray .boolean, 2) := by decide +kernel
theorem dX7_init_57 : decode cX7_init 57 = .ok (.putfield 28, 3) := by decide +kernel
theorem dX7_init_60 : decode cX7_init 60 = .ok (.aload_n 0, 1) := by decide +kernel
theorem dX7_init_61 : decode cX7_init 61 = .ok (.sipush 1001, 3) := by decide +kernel
theorem dX7_init_64 : decode cX7_init 64 = .ok (.newarray .int, 2) := by decide +kernel
theorem dX7_init_66 : decode cX7_init 66 = .ok (.putfield 32, 3) := by decide +kernel
theorem dX7_init_69 : decode cX7_init 69 = .ok (.aload_n 0, 1) := by decide +kernel
theorem dX7_init_70 : decode cX7_init 70 = .ok (.getfield 13, 3) := by decide +kernel
theorem dX7_init_73 : decode cX7_init 73 = .ok (.iconst 0, 1) := by decide +kernel
theorem dX7_init_74 : decode cX7_init 74 = .ok (.bipush 100, 2) := by decide +kernel
theorem dX7_init_76 : decode cX7_init 76 = .ok (.iastore, 1) := by decide +kernel
theorem dX7_init_77 : decode cX7_init 77 = .ok (.aload_n 0, 1) := by decide +kernel
theorem dX7_init_78 : decode cX7_init 78 = .ok (.getfield 13, 3) := by decide +kernel
theorem dX7_init_81 : decode cX7_init 81 = .ok (.iconst 1, 1) := by decide +kernel
theorem dX7_init_82 : decode cX7_init 82 = .ok (.sipush 200, 3) := by decide +kernel
theorem dX7_init_85 : decode cX7_init 85 = .ok (.iastore, 1) := by decide +kernel
theorem dX7_init_86 : decode cX7_init 86 = .ok (.aload_n 0, 1) := by decide +kernel
theorem dX7_init_87 : decode cX7_init 87 = .ok (.getfield 13, 3) := by decide +kernel
theorem dX7_init_90 : decode cX7_init 90 = .ok (.bipush 7, 2) := by decide +kernel
theorem dX7_init_92 : decode cX7_init 92 = .ok (.bipush (-9), 2) := by decide +kernel
theorem dX7_init_94 : decode cX7_init 94 = .ok (.iastore, 1) := by decide +kernel
theorem dX7_init_95 : decode cX7_init 95 = .ok (.return_, 1) := by decide +kernel
theorem dX7_in_0 : decode cX7_in 0 = .ok (.lload_n 0, 1) := by decide +kernel
theorem dX7_in_1 : decode cX7_in 1 = .ok (.lload_n 2, 1) := by decide +kernel
theorem dX7_in_2 : decode cX7_in 2 = .ok (.lcmp, 1) := by decide +kernel
theorem dX7_in_3 : decode cX7_in 3 = .ok (.ifCond .lt 14, 3) := by decide +kernel
theorem dX7_in_6 : decode cX7_in 6 = .ok (.lload_n 0, 1) := by decide +kernel
theorem dX7_in_7 : decode cX7_in 7 = .ok (.lload 4, 2) := by decide +kernel
theorem dX7_in_9 : decode cX7_in 9 = .ok (.lcmp, 1) := by decide +kernel
theorem dX7_in_10 : decode cX7_in 10 = .ok (.ifCond .gt 7, 3) := by decide +kernel
theorem dX7_in_13 : decode cX7_in 13 = .ok (.iconst 1, 1) := by decide +kernel
theorem dX7_in_14 : decode cX7_in 14 = .ok (.goto 4, 3) := by decide +kernel
theorem dX7_in_17 : decode cX7_in 17 = .ok (.iconst 0, 1) := by decide +kernel
theorem dX7_in_18 : decode cX7_in 18 = .ok (.ireturn, 1) := by decide +kernel
theorem dX7_copy_0 : decode cX7_copy 0 = .ok (.iconst 0, 1) := by decide +kernel
theorem dX7_copy_1 : decode cX7_copy 1 = .ok (.istore_n 2, 1) := by decide +kernel
theorem dX7_copy_2 : decode cX7_copy 2 = .ok (.iload_n 2, 1) := by decide +kernel
theorem dX7_copy_3 : decode cX7_copy 3 = .ok (.bipush 33, 2) := by decide +kernel
theorem dX7_copy_5 : decode cX7_copy 5 = .ok (.if_icmp .ge 15, 3) := by decide +kernel
theorem dX7_copy_8 : decode cX7_copy 8 = .ok (.aload_n 1, 1) := by decide +kernel
theorem dX7_copy_9 : decode cX7_copy 9 = .ok (.iload_n 2, 1) := by decide +kernel
theorem dX7_copy_10 : decode cX7_copy 10 = .ok (.aload_n 0, 1) := by decide +kernel
theorem dX7_copy_11 : decode cX7_copy 11 = .ok (.iload_n 2, 1) := by decide +kernel
theorem dX7_copy_12 : decode cX7_copy 12 = .ok (.iaload, 1) := by decide +kernel
theorem dX7_copy_13 : decode cX7_copy 13 = .ok (.iastore, 1) := by decide +kernel
theorem dX7_copy_14 : decode cX7_copy 14 = .ok (.iinc 2 1, 3) := by decide +kernel
theorem dX7_copy_17 : decode cX7_copy 17 = .ok (.goto (-15), 3) := by decide +kernel
theorem dX7_copy_20 : decode cX7_copy 20 = .ok (.return_, 1) := by decide +kernel
theorem dX7_abs_0 : decode cX7_abs 0 = .ok (.iload_n 0, 1) := by decide +kernel
theorem dX7_abs_1 : decode cX7_abs 1 = .ok (.ifCond .ge 8, 3) := by decide +kernel
theorem dX7_abs_4 : decode cX7_abs 4 = .ok (.iload_n 0, 1) := by decide +kernel
theorem dX7_abs_5 : decode cX7_abs 5 = .ok (.ineg, 1) := by decide +kernel
theorem dX7_abs_6 : decode cX7_abs 6 = .ok (.goto 4, 3) := by decide +kernel
theorem dX7_abs_9 : decode cX7_abs 9 = .ok (.iload_n 0, 1) := by decide +kernel
theorem dX7_abs_10 : decode cX7_abs 10 = .ok (.ireturn, 1) := by decide +kernel
theorem dX7_squareRoot_0 : decode cX7_squareRoot 0 = .ok (.lconst 0, 1) := by decide +kernel
theorem dX7_squareRoot_1 : decode cX7_squareRoot 1 = .ok (.lstore_n 2, 1) := by decide +kernel
theorem dX7_squareRoot_2 : decode cX7_squareRoot 2 = .ok (.bipush 18, 2) := by decide +kernel
theorem dX7_squareRoot_4 : decode cX7_squareRoot 4 = .ok (.istore 4, 2) := by decide +kernel
theorem dX7_squareRoot_6 : decode cX7_squareRoot 6 = .ok (.iload 4, 2) := by decide +kernel
theorem dX7_squareRoot_8 : decode cX7_squareRoot 8 = .ok (.ifCond .lt 34, 3) := by decide +kernel
theorem dX7_squareRoot_11 : decode cX7_squareRoot 11 = .ok (.lload_n 2, 1) := by decide +kernel
theorem dX7_squareRoot_12 : decode cX7_squareRoot 12 = .ok (.lconst 1, 1) := by decide +kernel
theorem dX7_squareRoot_13 : decode cX7_squareRoot 13 = .ok (.iload 4, 2) := by decide +kernel
theorem dX7_squareRoot_15 : decode cX7_squareRoot 15 = .ok (.lshl, 1) := by decide +kernel
theorem dX7_squareRoot_16 : decode cX7_squareRoot 16 = .ok (.lor, 1) := by decide +kernel
theorem dX7_squareRoot_17 : decode cX7_squareRoot 17 = .ok (.lstore 5, 2) := by decide +kernel
theorem dX7_squareRoot_19 : decode cX7_squareRoot 19 = .ok (.lload 5, 2) := by decide +kernel
theorem dX7_squareRoot_21 : decode cX7_squareRoot 21 = .ok (.lload 5, 2) := by decide +kernel
theorem dX7_squareRoot_23 : decode cX7_squareRoot 23 = .ok (.lmul, 1) := by decide +kernel
theorem dX7_squareRoot_24 : decode cX7_squareRoot 24 = .ok (.lload_n 0, 1) := by decide +kernel
theorem dX7_squareRoot_25 : decode cX7_squareRoot 25 = .ok (.lcmp, 1) := by decide +kernel
theorem dX7_squareRoot_26 : decode cX7_squareRoot 26 = .ok (.ifCond .gt 8, 3) := by decide +kernel
theorem dX7_squareRoot_29 : decode cX7_squareRoot 29 = .ok (.lload 5, 2) := by decide +kernel
theorem dX7_squareRoot_31 : decode cX7_squareRoot 31 = .ok (.goto 4, 3) := by decide +kernel
theorem dX7_squareRoot_34 : decode cX7_squareRoot 34 = .ok (.lload_n 2, 1) := by decide +kernel
theorem dX7_squareRoot_35 : decode cX7_squareRoot 35 = .ok (.lstore_n 2, 1) := by decide +kernel
theorem dX7_squareRoot_36 : decode cX7_squareRoot 36 = .ok (.iinc 4 (-1), 3) := by decide +kernel
theorem dX7_squareRoot_39 : decode cX7_squareRoot 39 = .ok (.goto (-33), 3) := by decide +kernel
theorem dX7_squareRoot_42 : decode cX7_squareRoot 42 = .ok (.lload_n 2, 1) := by decide +kernel
theorem dX7_squareRoot_43 : decode cX7_squareRoot 43 = .ok (.l2i, 1) := by decide +kernel
theorem dX7_squareRoot_44 : decode cX7_squareRoot 44 = .ok (.ireturn, 1) := by decide +kernel
theorem dX7_layRoots_0 : decode cX7_layRoots 0 = .ok (.aload_n 0, 1) := by decide +kernel
theorem dX7_layRoots_1 : decode cX7_layRoots 1 = .ok (.getfield 35, 3) := by decide +kernel
theorem dX7_layRoots_4 : decode cX7_layRoots 4 = .ok (.iload_n 1, 1) := by decide +kernel
theorem dX7_layRoots_5 : decode cX7_layRoots 5 = .ok (.if_icmp .eq 13, 3) := by decide +kernel
theorem dX7_layRoots_8 : decode cX7_layRoots 8 = .ok (.aload_n 0, 1) := by decide +kernel
theorem dX7_layRoots_9 : decode cX7_layRoots 9 = .ok (.iload_n 1, 1) := by decide +kernel
theorem dX7_layRoots_10 : decode cX7_layRoots 10 = .ok (.putfield 35, 3) := by decide +kernel
theorem dX7_layRoots_13 : decode cX7_layRoots 13 = .ok (.aload_n 0, 1) := by decide +kernel
theorem dX7_layRoots_14 : decode cX7_layRoots 14 = .ok (.iconst 0, 1) := by decide +kernel
theorem dX7_layRoots_15 : decode cX7_layRoots 15 = .ok (.putfield 39, 3) := by decide +kernel
theorem dX7_layRoots_18 : decode cX7_layRoots 18 = .ok (.aload_n 0, 1) := by decide +kernel
theorem dX7_layRoots_19 : decode cX7_layRoots 19 = .ok (.getfield 39, 3) := by decide +kernel
theorem dX7_layRoots_22 : decode cX7_layRoots 22 = .ok (.iload_n 2, 1) := by decide +kernel
theorem dX7_layRoots_23 : decode cX7_layRoots 23 = .ok (.if_icmp .ge 40, 3) := by decide +kernel
theorem dX7_layRoots_26 : decode cX7_layRoots 26 = .ok (.aload_n 0, 1) := by decide +kernel
theorem dX7_layRoots_27 : decode cX7_layRoots 27 = .ok (.getfield 32, 3) := by decide +kernel
theorem dX7_layRoots_30 : decode cX7_layRoots 30 = .ok (.aload_n 0, 1) := by decide +kernel
theorem dX7_layRoots_31 : decode cX7_layRoots 31 = .ok (.getfield 39, 3) := by decide +kernel
theorem dX7_layRoots_34 : decode cX7_layRoots 34 = .ok (.ldc2_w 42, 3) := by decide +kernel
theorem dX7_layRoots_37 : decode cX7_layRoots 37 = .ok (.aload_n 0, 1) := by decide +kernel
theorem dX7_layRoots_38 : decode cX7_layRoots 38 = .ok (.getfield 39, 3) := by decide +kernel
theorem dX7_layRoots_41 : decode cX7_layRoots 41 = .ok (.i2l, 1) := by decide +kernel
theorem dX7_layRoots_42 : decode cX7_layRoots 42 = .ok (.lmul, 1) := by decide +kernel
theorem dX7_layRoots_43 : decode cX7_layRoots 43 = .ok (.iload_n 1, 1) := by decide +kernel
theorem dX7_layRoots_44 : decode cX7_layRoots 44 = .ok (.i2l, 1) := by decide +kernel
theorem dX7_layRoots_45 : decode cX7_layRoots 45 = .ok (.ldiv, 1) := by decide +kernel
theorem dX7_layRoots_46 : decode cX7_layRoots 46 = .ok (.invokestatic 44, 3) := by decide +kernel
theorem dX7_layRoots_49 : decode cX7_layRoots 49 = .ok (.iastore, 1) := by decide +kernel
theorem dX7_layRoots_50 : decode cX7_layRoots 50 = .ok (.aload_n 0, 1) := by decide +kernel
theorem dX7_layRoots_51 : decode cX7_layRoots 51 = .ok (.dup, 1) := by decide +kernel
theorem dX7_layRoots_52 : decode cX7_layRoots 52 = .ok (.getfield 39, 3) := by decide +kernel
theorem dX7_layRoots_55 : decode cX7_layRoots 55 = .ok (.iconst 1, 1) := by decide +kernel
theorem dX7_layRoots_56 : decode cX7_layRoots 56 = .ok (.iadd, 1) := by decide +kernel
theorem dX7_layRoots_57 : decode cX7_layRoots 57 = .ok (.putfield 39, 3) := by decide +kernel
theorem dX7_layRoots_60 : decode cX7_layRoots 60 = .ok (.goto (-42), 3) := by decide +kernel
theorem dX7_layRoots_63 : decode cX7_layRoots 63 = .ok (.return_, 1) := by decide +kernel
theorem dX7_rampOf_0 : decode cX7_rampOf 0 = .ok (.aload_n 0, 1) := by decide +kernel
theorem dX7_rampOf_1 : decode cX7_rampOf 1 = .ok (.iload_n 1, 1) := by decide +kernel
theorem dX7_rampOf_2 : decode cX7_rampOf 2 = .ok (.iload_n 2, 1) := by decide +kernel
theorem dX7_rampOf_3 : decode cX7_rampOf 3 = .ok (.iconst 2, 1) := by decide +kernel
theorem dX7_rampOf_4 : decode cX7_rampOf 4 = .ok (.iadd, 1) := by decide +kernel
theorem dX7_rampOf_5 : decode cX7_rampOf 5 = .ok (.invokevirtual 48, 3) := by decide +kernel
theorem dX7_rampOf_8 : decode cX7_rampOf 8 = .ok (.aload_n 0, 1) := by decide +kernel
theorem dX7_rampOf_9 : decode cX7_rampOf 9 = .ok (.getfield 32, 3) := by decide +kernel
theorem dX7_rampOf_12 : decode cX7_rampOf 12 = .ok (.iload_n 2, 1) := by decide +kernel
theorem dX7_rampOf_13 : decode cX7_rampOf 13 = .ok (.iconst 1, 1) := by decide +kernel
theorem dX7_rampOf_14 : decode cX7_rampOf 14 = .ok (.iadd, 1) := by decide +kernel
theorem dX7_rampOf_15 : decode cX7_rampOf 15 = .ok (.iaload, 1) := by decide +kernel
theorem dX7_rampOf_16 : decode cX7_rampOf 16 = .ok (.aload_n 0, 1) := by decide +kernel
theorem dX7_rampOf_17 : decode cX7_rampOf 17 = .ok (.getfield 32, 3) := by decide +kernel
theorem dX7_rampOf_20 : decode cX7_rampOf 20 = .ok (.iload_n 2, 1) := by decide +kernel
theorem dX7_rampOf_21 : decode cX7_rampOf 21 = .ok (.iaload, 1) := by decide +kernel
theorem dX7_rampOf_22 : decode cX7_rampOf 22 = .ok (.isub, 1) := by decide +kernel
theorem dX7_rampOf_23 : decode cX7_rampOf 23 = .ok (.ireturn, 1) := by decide +kernel
theorem dX7_cruiseOf_0 : decode cX7_cruiseOf 0 = .ok (.sipush 10000, 3) := by decide +kernel
theorem dX7_cruiseOf_3 : decode cX7_cruiseOf 3 = .ok (.iload_n 0, 1) := by decide +kernel
theorem dX7_cruiseOf_4 : decode cX7_cruiseOf 4 = .ok (.iadd, 1) := by decide +kernel
theorem dX7_cruiseOf_5 : decode cX7_cruiseOf 5 = .ok (.iconst 1, 1) := by decide +kernel
theorem dX7_cruiseOf_6 : decode cX7_cruiseOf 6 = .ok (.isub, 1) := by decide +kernel
theorem dX7_cruiseOf_7 : decode cX7_cruiseOf 7 = .ok (.iload_n 0, 1) := by decide +kernel
theorem dX7_cruiseOf_8 : decode cX7_cruiseOf 8 = .ok (.idiv, 1) := by decide +kernel
theorem dX7_cruiseOf_9 : decode cX7_cruiseOf 9 = .ok (.ireturn, 1) := by decide +kernel
theorem dX7_topOf_0 : decode cX7_topOf 0 = .ok (.iconst 0, 1) := by decide +kernel
theorem dX7_topOf_1 : decode cX7_topOf 1 = .ok (.istore 4, 2) := by decide +kernel
theorem dX7_topOf_3 : decode cX7_topOf 3 = .ok (.iload 4, 2) := by decide +kernel
theorem dX7_topOf_5 : decode cX7_topOf 5 = .ok (.iload_n 3, 1) := by decide +kernel
theorem dX7_topOf_6 : decode cX7_topOf 6 = .ok (.if_icmp .ge 23, 3) := by decide +kernel
theorem dX7_topOf_9 : decode cX7_topOf 9 = .ok (.aload_n 0, 1) := by decide +kernel
theorem dX7_topOf_10 : decode cX7_topOf 10 = .ok (.iload_n 1, 1) := by decide +kernel
theorem dX7_topOf_11 : decode cX7_topOf 11 = .ok (.iload 4, 2) := by decide +kernel
theorem dX7_topOf_13 : decode cX7_topOf 13 = .ok (.invokevirtual 52, 3) := by decide +kernel
theorem dX7_topOf_16 : decode cX7_topOf 16 = .ok (.iload_n 2, 1) := by decide +kernel
theorem dX7_topOf_17 : decode cX7_topOf 17 = .ok (.invokestatic 56, 3) := by decide +kernel
theorem dX7_topOf_20 : decode cX7_topOf 20 = .ok (.if_icmp .le 9, 3) := by decide +kernel
theorem dX7_topOf_23 : decode cX7_topOf 23 = .ok (.iinc 4 1, 3) := by decide +kernel
theorem dX7_topOf_26 : decode cX7_topOf 26 = .ok (.goto (-23), 3) := by decide +kernel
theorem dX7_topOf_29 : decode cX7_topOf 29 = .ok (.iload 4, 2) := by decide +kernel
theorem dX7_topOf_31 : decode cX7_topOf 31 = .ok (.ireturn, 1) := by decide +kernel
theorem dX7_fullTop_0 : decode cX7_fullTop 0 = .ok (.aload_n 0, 1) := by decide +kernel
theorem dX7_fullTop_1 : decode cX7_fullTop 1 = .ok (.getfield 60, 3) := by decide +kernel
theorem dX7_fullTop_4 : decode cX7_fullTop 4 = .ok (.iload_n 1, 1) := by decide +kernel
theorem dX7_fullTop_5 : decode cX7_fullTop 5 = .ok (.if_icmp .ne 11, 3) := by decide +kernel
theorem dX7_fullTop_8 : decode cX7_fullTop 8 = .ok (.aload_n 0, 1) := by decide +kernel
theorem dX7_fullTop_9 : decode cX7_fullTop 9 = .ok (.getfield 63, 3) := by decide +kernel
theorem dX7_fullTop_12 : decode cX7_fullTop 12 = .ok (.iload_n 2, 1) := by decide +kernel
theorem dX7_fullTop_13 : decode cX7_fullTop 13 = .ok (.if_icmp .eq 26, 3) := by decide +kernel
theorem dX7_fullTop_16 : decode cX7_fullTop 16 = .ok (.aload_n 0, 1) := by decide +kernel
theorem dX7_fullTop_17 : decode cX7_fullTop 17 = .ok (.aload_n 0, 1) := by decide +kernel
theorem dX7_fullTop_18 : decode cX7_fullTop 18 = .ok (.iload_n 1, 1) := by decide +kernel
theorem dX7_fullTop_19 : decode cX7_fullTop 19 = .ok (.iload_n 2, 1) := by decide +kernel
theorem dX7_fullTop_20 : decode cX7_fullTop 20 = .ok (.sipush 999, 3) := by decide +kernel
theorem dX7_fullTop_23 : decode cX7_fullTop 23 = .ok (.invokevirtual 66, 3) := by decide +kernel
theorem dX7_fullTop_26 : decode cX7_fullTop 26 = .ok (.putfield 70, 3) := by decide +kernel
theorem dX7_fullTop_29 : decode cX7_fullTop 29 = .ok (.aload_n 0, 1) := by decide +kernel
theorem dX7_fullTop_30 : decode cX7_fullTop 30 = .ok (.iload_n 1, 1) := by decide +kernel
theorem dX7_fullTop_31 : decode cX7_fullTop 31 = .ok (.putfield 60, 3) := by decide +kernel
theorem dX7_fullTop_34 : decode cX7_fullTop 34 = .ok (.aload_n 0, 1) := by decide +kernel
theorem dX7_fullTop_35 : decode cX7_fullTop 35 = .ok (.iload_n 2, 1) := by decide +kernel
theorem dX7_fullTop_36 : decode cX7_fullTop 36 = .ok (.putfield 63, 3) := by decide +kernel
theorem dX7_fullTop_39 : decode cX7_fullTop 39 = .ok (.aload_n 0, 1) := by decide +kernel
theorem dX7_fullTop_40 : decode cX7_fullTop 40 = .ok (.getfield 70, 3) := by decide +kernel
theorem dX7_fullTop_43 : decode cX7_fullTop 43 = .ok (.ireturn, 1) := by decide +kernel
theorem dX7_intervalOf_0 : decode cX7_intervalOf 0 = .ok (.aload_n 0, 1) := by decide +kernel
theorem dX7_intervalOf_1 : decode cX7_intervalOf 1 = .ok (.iload_n 1, 1) := by decide +kernel
theorem dX7_intervalOf_2 : decode cX7_intervalOf 2 = .ok (.iload_n 3, 1) := by decide +kernel
theorem dX7_intervalOf_3 : decode cX7_intervalOf 3 = .ok (.invokevirtual 52, 3) := by decide +kernel
theorem dX7_intervalOf_6 : decode cX7_intervalOf 6 = .ok (.istore 4, 2) := by decide +kernel
theorem dX7_intervalOf_8 : decode cX7_intervalOf 8 = .ok (.iload 4, 2) := by decide +kernel
theorem dX7_intervalOf_10 : decode cX7_intervalOf 10 = .ok (.iload_n 2, 1) := by decide +kernel
theorem dX7_intervalOf_11 : decode cX7_intervalOf 11 = .ok (.invokestatic 56, 3) := by decide +kernel
theorem dX7_intervalOf_14 : decode cX7_intervalOf 14 = .ok (.if_icmp .le 8, 3) := by decide +kernel
theorem dX7_intervalOf_17 : decode cX7_intervalOf 17 = .ok (.iload 4, 2) := by decide +kernel
theorem dX7_intervalOf_19 : decode cX7_intervalOf 19 = .ok (.goto 7, 3) := by decide +kernel
theorem dX7_intervalOf_22 : decode cX7_intervalOf 22 = .ok (.iload_n 2, 1) := by decide +kernel
theorem dX7_intervalOf_23 : decode cX7_intervalOf 23 = .ok (.invokestatic 56, 3) := by decide +kernel
theorem dX7_intervalOf_26 : decode cX7_intervalOf 26 = .ok (.ireturn, 1) := by decide +kernel
theorem dX7_indexAfter_0 : decode cX7_indexAfter 0 = .ok (.iload_n 1, 1) := by decide +kernel
theorem dX7_indexAfter_1 : decode cX7_indexAfter 1 = .ok (.iconst 1, 1) := by decide +kernel
theorem dX7_indexAfter_2 : decode cX7_indexAfter 2 = .ok (.isub, 1) := by decide +kernel
theorem dX7_indexAfter_3 : decode cX7_indexAfter 3 = .ok (.iload_n 2, 1) := by decide +kernel
theorem dX7_indexAfter_4 : decode cX7_indexAfter 4 = .ok (.if_icmp .ge 9, 3) := by decide +kernel
theorem dX7_indexAfter_7 : decode cX7_indexAfter 7 = .ok (.iload_n 1, 1) := by decide +kernel
theorem dX7_indexAfter_8 : decode cX7_indexAfter 8 = .ok (.iconst 1, 1) := by decide +kernel
theorem dX7_indexAfter_9 : decode cX7_indexAfter 9 = .ok (.isub, 1) := by decide +kernel
theorem dX7_indexAfter_10 : decode cX7_indexAfter 10 = .ok (.goto 4, 3) := by decide +kernel
theorem dX7_indexAfter_13 : decode cX7_indexAfter 13 = .ok (.iload_n 2, 1) := by decide +kernel
theorem dX7_indexAfter_14 : decode cX7_indexAfter 14 = .ok (.istore_n 3, 1) := by decide +kernel
theorem dX7_indexAfter_15 : decode cX7_indexAfter 15 = .ok (.iload_n 0, 1) := by decide +kernel
theorem dX7_indexAfter_16 : decode cX7_indexAfter 16 = .ok (.iconst 1, 1) := by decide +kernel
theorem dX7_indexAfter_17 : decode cX7_indexAfter 17 = .ok (.iadd, 1) := by decide +kernel
theorem dX7_indexAfter_18 : decode cX7_indexAfter 18 = .ok (.iload_n 3, 1) := by decide +kernel
theorem dX7_indexAfter_19 : decode cX7_indexAfter 19 = .ok (.if_icmp .gt 9, 3) := by decide +kernel
theorem dX7_indexAfter_22 : decode cX7_indexAfter 22 = .ok (.iload_n 0, 1) := by decide +kernel
theorem dX7_indexAfter_23 : decode cX7_indexAfter 23 = .ok (.iconst 1, 1) := by decide +kernel
theorem dX7_indexAfter_24 : decode cX7_indexAfter 24 = .ok (.iadd, 1) := by decide +kernel
theorem dX7_indexAfter_25 : decode cX7_indexAfter 25 = .ok (.goto 15, 3) := by decide +kernel
theorem dX7_indexAfter_28 : decode cX7_indexAfter 28 = .ok (.iload_n 0, 1) := by decide +kernel
theorem dX7_indexAfter_29 : decode cX7_indexAfter 29 = .ok (.iload_n 3, 1) := by decide +kernel
theorem dX7_indexAfter_30 : decode cX7_indexAfter 30 = .ok (.if_icmp .gt 7, 3) := by decide +kernel
theorem dX7_indexAfter_33 : decode cX7_indexAfter 33 = .ok (.iload_n 0, 1) := by decide +kernel
theorem dX7_indexAfter_34 : decode cX7_indexAfter 34 = .ok (.goto 6, 3) := by decide +kernel
theorem dX7_indexAfter_37 : decode cX7_indexAfter 37 = .ok (.iload_n 0, 1) := by decide +kernel
theorem dX7_indexAfter_38 : decode cX7_indexAfter 38 = .ok (.iconst 1, 1) := by decide +kernel
theorem dX7_indexAfter_39 : decode cX7_indexAfter 39 = .ok (.isub, 1) := by decide +kernel
theorem dX7_indexAfter_40 : decode cX7_indexAfter 40 = .ok (.ireturn, 1) := by decide +kernel
theorem dX7_ticksOf_0 : decode cX7_ticksOf 0 = .ok (.aload_n 0, 1) := by decide +kernel
theorem dX7_ticksOf_1 : decode cX7_ticksOf 1 = .ok (.iload_n 1, 1) := by decide +kernel
theorem dX7_ticksOf_2 : decode cX7_ticksOf 2 = .ok (.iload_n 2, 1) := by decide +kernel
theorem dX7_ticksOf_3 : decode cX7_ticksOf 3 = .ok (.iload_n 3, 1) := by decide +kernel
theorem dX7_ticksOf_4 : decode cX7_ticksOf 4 = .ok (.iconst 2, 1) := by decide +kernel
theorem dX7_ticksOf_5 : decode cX7_ticksOf 5 = .ok (.idiv, 1) := by decide +kernel
theorem dX7_ticksOf_6 : decode cX7_ticksOf 6 = .ok (.iconst 1, 1) := by decide +kernel
theorem dX7_ticksOf_7 : decode cX7_ticksOf 7 = .ok (.iadd, 1) := by decide +kernel
theorem dX7_ticksOf_8 : decode cX7_ticksOf 8 = .ok (.sipush 999, 3) := by decide +kernel
theorem dX7_ticksOf_11 : decode cX7_ticksOf 11 = .ok (.if_icmp .ge 11, 3) := by decide +kernel
theorem dX7_ticksOf_14 : decode cX7_ticksOf 14 = .ok (.iload_n 3, 1) := by decide +kernel
theorem dX7_ticksOf_15 : decode cX7_ticksOf 15 = .ok (.iconst 2, 1) := by decide +kernel
theorem dX7_ticksOf_16 : decode cX7_ticksOf 16 = .ok (.idiv, 1) := by decide +kernel
theorem dX7_ticksOf_17 : decode cX7_ticksOf 17 = .ok (.iconst 1, 1) := by decide +kernel
theorem dX7_ticksOf_18 : decode cX7_ticksOf 18 = .ok (.iadd, 1) := by decide +kernel
theorem dX7_ticksOf_19 : decode cX7_ticksOf 19 = .ok (.goto 6, 3) := by decide +kernel
theorem dX7_ticksOf_22 : decode cX7_ticksOf 22 = .ok (.sipush 999, 3) := by decide +kernel
theorem dX7_ticksOf_25 : decode cX7_ticksOf 25 = .ok (.invokevirtual 66, 3) := by decide +kernel
theorem dX7_ticksOf_28 : decode cX7_ticksOf 28 = .ok (.istore 4, 2) := by decide +kernel
theorem dX7_ticksOf_30 : decode cX7_ticksOf 30 = .ok (.iconst 0, 1) := by decide +kernel
theorem dX7_ticksOf_31 : decode cX7_ticksOf 31 = .ok (.istore 5, 2) := by decide +kernel
theorem dX7_ticksOf_33 : decode cX7_ticksOf 33 = .ok (.aload_n 0, 1) := by decide +kernel
theorem dX7_ticksOf_34 : decode cX7_ticksOf 34 = .ok (.iload_n 1, 1) := by decide +kernel
theorem dX7_ticksOf_35 : decode cX7_ticksOf 35 = .ok (.iload_n 2, 1) := by decide +kernel
theorem dX7_ticksOf_36 : decode cX7_ticksOf 36 = .ok (.iconst 0, 1) := by decide +kernel
theorem dX7_ticksOf_37 : decode cX7_ticksOf 37 = .ok (.invokevirtual 73, 3) := by decide +kernel
theorem dX7_ticksOf_40 : decode cX7_ticksOf 40 = .ok (.istore 6, 2) := by decide +kernel
theorem dX7_ticksOf_42 : decode cX7_ticksOf 42 = .ok (.iload_n 3, 1) := by decide +kernel
theorem dX7_ticksOf_43 : decode cX7_ticksOf 43 = .ok (.iconst 1, 1) := by decide +kernel
theorem dX7_ticksOf_44 : decode cX7_ticksOf 44 = .ok (.isub, 1) := by decide +kernel
theorem dX7_ticksOf_45 : decode cX7_ticksOf 45 = .ok (.istore 7, 2) := by decide +kernel
theorem dX7_ticksOf_47 : decode cX7_ticksOf 47 = .ok (.iload 7, 2) := by decide +kernel
theorem dX7_ticksOf_49 : decode cX7_ticksOf 49 = .ok (.ifCond .le 33, 3) := by decide +kernel
theorem dX7_ticksOf_52 : decode cX7_ticksOf 52 = .ok (.iload 5, 2) := by decide +kernel
theorem dX7_ticksOf_54 : decode cX7_ticksOf 54 = .ok (.iload 7, 2) := by decide +kernel
theorem dX7_ticksOf_56 : decode cX7_ticksOf 56 = .ok (.iload 4, 2) := by decide +kernel
theorem dX7_ticksOf_58 : decode cX7_ticksOf 58 = .ok (.invokestatic 76, 3) := by decide +kernel
theorem dX7_ticksOf_61 : decode cX7_ticksOf 61 = .ok (.istore 5, 2) := by decide +kernel
theorem dX7_ticksOf_63 : decode cX7_ticksOf 63 = .ok (.iload 6, 2) := by decide +kernel
theorem dX7_ticksOf_65 : decode cX7_ticksOf 65 = .ok (.aload_n 0, 1) := by decide +kernel
theorem dX7_ticksOf_66 : decode cX7_ticksOf 66 = .ok (.iload_n 1, 1) := by decide +kernel
theorem dX7_ticksOf_67 : decode cX7_ticksOf 67 = .ok (.iload_n 2, 1) := by decide +kernel
theorem dX7_ticksOf_68 : decode cX7_ticksOf 68 = .ok (.iload 5, 2) := by decide +kernel
theorem dX7_ticksOf_70 : decode cX7_ticksOf 70 = .ok (.invokevirtual 73, 3) := by decide +kernel
theorem dX7_ticksOf_73 : decode cX7_ticksOf 73 = .ok (.iadd, 1) := by decide +kernel
theorem dX7_ticksOf_74 : decode cX7_ticksOf 74 = .ok (.istore 6, 2) := by decide +kernel
theorem dX7_ticksOf_76 : decode cX7_ticksOf 76 = .ok (.iinc 7 (-1), 3) := by decide +kernel
theorem dX7_ticksOf_79 : decode cX7_ticksOf 79 = .ok (.goto (-32), 3) := by decide +kernel
theorem dX7_ticksOf_82 : decode cX7_ticksOf 82 = .ok (.iload 6, 2) := by decide +kernel
theorem dX7_ticksOf_84 : decode cX7_ticksOf 84 = .ok (.ireturn, 1) := by decide +kernel
theorem dX7_append_0 : decode cX7_append 0 = .ok (.iload_n 1, 1) := by decide +kernel
theorem dX7_append_1 : decode cX7_append 1 = .ok (.i2l, 1) := by decide +kernel
theorem dX7_append_2 : decode cX7_append 2 = .ok (.lconst 0, 1) := by decide +kernel
theorem dX7_append_3 : decode cX7_append 3 = .ok (.ldc2_w 79, 3) := by decide +kernel
theorem dX7_append_6 : decode cX7_append 6 = .ok (.invokestatic 81, 3) := by decide +kernel
theorem dX7_append_9 : decode cX7_append 9 = .ok (.ifCond .ne 6, 3) := by decide +kernel
theorem dX7_append_12 : decode cX7_append 12 = .ok (.bipush (-2), 2) := by decide +kernel
theorem dX7_append_14 : decode cX7_append 14 = .ok (.ireturn, 1) := by decide +kernel
theorem dX7_append_15 : decode cX7_append 15 = .ok (.aload_n 0, 1) := by decide +kernel
theorem dX7_append_16 : decode cX7_append 16 = .ok (.getfield 85, 3) := by decide +kernel
theorem dX7_append_19 : decode cX7_append 19 = .ok (.bipush 80, 2) := by decide +kernel
theorem dX7_append_21 : decode cX7_append 21 = .ok (.if_icmp .ne 6, 3) := by decide +kernel
theorem dX7_append_24 : decode cX7_append 24 = .ok (.bipush (-4), 2) := by decide +kernel
theorem dX7_append_26 : decode cX7_append 26 = .ok (.ireturn, 1) := by decide +kernel
theorem dX7_append_27 : decode cX7_append 27 = .ok (.aload_n 0, 1) := by decide +kernel
theorem dX7_append_28 : decode cX7_append 28 = .ok (.getfield 7, 3) := by decide +kernel
theorem dX7_append_31 : decode cX7_append 31 = .ok (.aload_n 0, 1) := by decide +kernel
theorem dX7_append_32 : decode cX7_append 32 = .ok (.getfield 85, 3) := by decide +kernel
theorem dX7_append_35 : decode cX7_append 35 = .ok (.iload_n 1, 1) := by decide +kernel
theorem dX7_append_36 : decode cX7_append 36 = .ok (.iastore, 1) := by decide +kernel
theorem dX7_append_37 : decode cX7_append 37 = .ok (.aload_n 0, 1) := by decide +kernel
theorem dX7_append_38 : decode cX7_append 38 = .ok (.dup, 1) := by decide +kernel
theorem dX7_append_39 : decode cX7_append 39 = .ok (.getfield 85, 3) := by decide +kernel
theorem dX7_append_42 : decode cX7_append 42 = .ok (.iconst 1, 1) := by decide +kernel
theorem dX7_append_43 : decode cX7_append 43 = .ok (.iadd, 1) := by decide +kernel
theorem dX7_append_44 : decode cX7_append 44 = .ok (.putfield 85, 3) := by decide +kernel
theorem dX7_append_47 : decode cX7_append 47 = .ok (.aload_n 0, 1) := by decide +kernel
theorem dX7_append_48 : decode cX7_append 48 = .ok (.getfield 85, 3) := by decide +kernel
theorem dX7_append_51 : decode cX7_append 51 = .ok (.ireturn, 1) := by decide +kernel
theorem dX7_clearText_0 : decode cX7_clearText 0 = .ok (.aload_n 0, 1) := by decide +kernel
theorem dX7_clearText_1 : decode cX7_clearText 1 = .ok (.getfield 85, 3) := by decide +kernel
theorem dX7_clearText_4 : decode cX7_clearText 4 = .ok (.istore_n 1, 1) := by decide +kernel
theorem dX7_clearText_5 : decode cX7_clearText 5 = .ok (.aload_n 0, 1) := by decide +kernel
theorem dX7_clearText_6 : decode cX7_clearText 6 = .ok (.iconst 0, 1) := by decide +kernel
theorem dX7_clearText_7 : decode cX7_clearText 7 = .ok (.putfield 85, 3) := by decide +kernel
theorem dX7_clearText_10 : decode cX7_clearText 10 = .ok (.iload_n 1, 1) := by decide +kernel
theorem dX7_clearText_11 : decode cX7_clearText 11 = .ok (.ireturn, 1) := by decide +kernel
theorem dX7_takes_0 : decode cX7_takes 0 = .ok (.aload_n 0, 1) := by decide +kernel
theorem dX7_takes_1 : decode cX7_takes 1 = .ok (.getfield 88, 3) := by decide +kernel
theorem dX7_takes_4 : decode cX7_takes 4 = .ok (.aload_n 0, 1) := by decide +kernel
theorem dX7_takes_5 : decode cX7_takes 5 = .ok (.getfield 85, 3) := by decide +kernel
theorem dX7_takes_8 : decode cX7_takes 8 = .ok (.if_icmp .ge 20, 3) := by decide +kernel
theorem dX7_takes_11 : decode cX7_takes 11 = .ok (.aload_n 0, 1) := by decide +kernel
theorem dX7_takes_12 : decode cX7_takes 12 = .ok (.getfield 7, 3) := by decide +kernel
theorem dX7_takes_15 : decode cX7_takes 15 = .ok (.aload_n 0, 1) := by decide +kernel
theorem dX7_takes_16 : decode cX7_takes 16 = .ok (.getfield 88, 3) := by decide +kernel
theorem dX7_takes_19 : decode cX7_takes 19 = .ok (.iaload, 1) := by decide +kernel
theorem dX7_takes_20 : decode cX7_takes 20 = .ok (.iload_n 1, 1) := by decide +kernel
theorem dX7_takes_21 : decode cX7_takes 21 = .ok (.if_icmp .ne 7, 3) := by decide +kernel
theorem dX7_takes_24 : decode cX7_takes 24 = .ok (.iconst 1, 1) := by decide +kernel
theorem dX7_takes_25 : decode cX7_takes 25 = .ok (.goto 4, 3) := by decide +kernel
theorem dX7_takes_28 : decode cX7_takes 28 = .ok (.iconst 0, 1) := by decide +kernel
theorem dX7_takes_29 : decode cX7_takes 29 = .ok (.istore_n 2, 1) := by decide +kernel
theorem dX7_takes_30 : decode cX7_takes 30 = .ok (.aload_n 0, 1) := by decide +kernel
theorem dX7_takes_31 : decode cX7_takes 31 = .ok (.dup, 1) := by decide +kernel
theorem dX7_takes_32 : decode cX7_takes 32 = .ok (.getfield 88, 3) := by decide +kernel
theorem dX7_takes_35 : decode cX7_takes 35 = .ok (.iload_n 2, 1) := by decide +kernel
theorem dX7_takes_36 : decode cX7_takes 36 = .ok (.ifCond .eq 7, 3) := by decide +kernel
theorem dX7_takes_39 : decode cX7_takes 39 = .ok (.iconst 1, 1) := by decide +kernel
theorem dX7_takes_40 : decode cX7_takes 40 = .ok (.goto 4, 3) := by decide +kernel
theorem dX7_takes_43 : decode cX7_takes 43 = .ok (.iconst 0, 1) := by decide +kernel
theorem dX7_takes_44 : decode cX7_takes 44 = .ok (.iadd, 1) := by decide +kernel
theorem dX7_takes_45 : decode cX7_takes 45 = .ok (.putfield 88, 3) := by decide +kernel
theorem dX7_takes_48 : decode cX7_takes 48 = .ok (.iload_n 2, 1) := by decide +kernel
theorem dX7_takes_49 : decode cX7_takes 49 = .ok (.ireturn, 1) := by decide +kernel
theorem dX7_number_0 : decode cX7_number 0 = .ok (.iconst 0, 1) := by decide +kernel
theorem dX7_number_1 : decode cX7_number 1 = .ok (.istore_n 3, 1) := by decide +kernel
theorem dX7_number_2 : decode cX7_number 2 = .ok (.iconst 0, 1) := by decide +kernel
theorem dX7_number_3 : decode cX7_number 3 = .ok (.istore 4, 2) := by decide +kernel
theorem dX7_number_5 : decode cX7_number 5 = .ok (.iload 4, 2) := by decide +kernel
theorem dX7_number_7 : decode cX7_number 7 = .ok (.iload_n 1, 1) := by decide +kernel
theorem dX7_number_8 : decode cX7_number 8 = .ok (.if_icmp .ge 92, 3) := by decide +kernel
theorem dX7_number_11 : decode cX7_number 11 = .ok (.aload_n 0, 1) := by decide +kernel
theorem dX7_number_12 : decode cX7_number 12 = .ok (.getfield 88, 3) := by decide +kernel
theorem dX7_number_15 : decode cX7_number 15 = .ok (.aload_n 0, 1) := by decide +kernel
theorem dX7_number_16 : decode cX7_number 16 = .ok (.getfield 85, 3) := by decide +kernel
theorem dX7_number_19 : decode cX7_number 19 = .ok (.if_icmp .ge 18, 3) := by decide +kernel
theorem dX7_number_22 : decode cX7_number 22 = .ok (.aload_n 0, 1) := by decide +kernel
theorem dX7_number_23 : decode cX7_number 23 = .ok (.getfield 7, 3) := by decide +kernel
theorem dX7_number_26 : decode cX7_number 26 = .ok (.aload_n 0, 1) := by decide +kernel
theorem dX7_number_27 : decode cX7_number 27 = .ok (.getfield 88, 3) := by decide +kernel
theorem dX7_number_30 : decode cX7_number 30 = .ok (.iaload, 1) := by decide +kernel
theorem dX7_number_31 : decode cX7_number 31 = .ok (.bipush 48, 2) := by decide +kernel
theorem dX7_number_33 : decode cX7_number 33 = .ok (.isub, 1) := by decide +kernel
theorem dX7_number_34 : decode cX7_number 34 = .ok (.goto 5, 3) := by decide +kernel
theorem dX7_number_37 : decode cX7_number 37 = .ok (.bipush (-9), 2) := by decide +kernel
theorem dX7_number_39 : decode cX7_number 39 = .ok (.istore 5, 2) := by decide +kernel
theorem dX7_number_41 : decode cX7_number 41 = .ok (.iload 5, 2) := by decide +kernel
theorem dX7_number_43 : decode cX7_number 43 = .ok (.i2l, 1) := by decide +kernel
theorem dX7_number_44 : decode cX7_number 44 = .ok (.lconst 0, 1) := by decide +kernel
theorem dX7_number_45 : decode cX7_number 45 = .ok (.ldc2_w 91, 3) := by decide +kernel
theorem dX7_number_48 : decode cX7_number 48 = .ok (.invokestatic 81, 3) := by decide +kernel
theorem dX7_number_51 : decode cX7_number 51 = .ok (.ifCond .eq 22, 3) := by decide +kernel
theorem dX7_number_54 : decode cX7_number 54 = .ok (.iload 4, 2) := by decide +kernel
theorem dX7_number_56 : decode cX7_number 56 = .ok (.iload_n 1, 1) := by decide +kernel
theorem dX7_number_57 : decode cX7_number 57 = .ok (.iconst 1, 1) := by decide +kernel
theorem dX7_number_58 : decode cX7_number 58 = .ok (.isub, 1) := by decide +kernel
theorem dX7_number_59 : decode cX7_number 59 = .ok (.if_icmp .ne 17, 3) := by decide +kernel
theorem dX7_number_62 : decode cX7_number 62 = .ok (.bipush 10, 2) := by decide +kernel
theorem dX7_number_64 : decode cX7_number 64 = .ok (.iload_n 3, 1) := by decide +kernel
theorem dX7_number_65 : decode cX7_number 65 = .ok (.imul, 1) := by decide +kernel
theorem dX7_number_66 : decode cX7_number 66 = .ok (.iload 5, 2) := by decide +kernel
theorem dX7_number_68 : decode cX7_number 68 = .ok (.iadd, 1) := by decide +kernel
theorem dX7_number_69 : decode cX7_number 69 = .ok (.iload_n 2, 1) := by decide +kernel
theorem dX7_number_70 : decode cX7_number 70 = .ok (.if_icmp .ge 6, 3) := by decide +kernel
theorem dX7_number_73 : decode cX7_number 73 = .ok (.bipush (-9), 2) := by decide +kernel
theorem dX7_number_75 : decode cX7_number 75 = .ok (.ireturn, 1) := by decide +kernel
theorem dX7_number_76 : decode cX7_number 76 = .ok (.bipush 10, 2) := by decide +kernel
theorem dX7_number_78 : decode cX7_number 78 = .ok (.iload_n 3, 1) := by decide +kernel
theorem dX7_number_79 : decode cX7_number 79 = .ok (.imul, 1) := by decide +kernel
theorem dX7_number_80 : decode cX7_number 80 = .ok (.iload 5, 2) := by decide +kernel
theorem dX7_number_82 : decode cX7_number 82 = .ok (.iadd, 1) := by decide +kernel
theorem dX7_number_83 : decode cX7_number 83 = .ok (.istore_n 3, 1) := by decide +kernel
theorem dX7_number_84 : decode cX7_number 84 = .ok (.aload_n 0, 1) := by decide +kernel
theorem dX7_number_85 : decode cX7_number 85 = .ok (.dup, 1) := by decide +kernel
theorem dX7_number_86 : decode cX7_number 86 = .ok (.getfield 88, 3) := by decide +kernel
theorem dX7_number_89 : decode cX7_number 89 = .ok (.iconst 1, 1) := by decide +kernel
theorem dX7_number_90 : decode cX7_number 90 = .ok (.iadd, 1) := by decide +kernel
theorem dX7_number_91 : decode cX7_number 91 = .ok (.putfield 88, 3) := by decide +kernel
theorem dX7_number_94 : decode cX7_number 94 = .ok (.iinc 4 1, 3) := by decide +kernel
theorem dX7_number_97 : decode cX7_number 97 = .ok (.goto (-92), 3) := by decide +kernel
theorem dX7_number_100 : decode cX7_number 100 = .ok (.iload_n 3, 1) := by decide +kernel
theorem dX7_number_101 : decode cX7_number 101 = .ok (.ireturn, 1) := by decide +kernel
theorem dX7_signedNumber_0 : decode cX7_signedNumber 0 = .ok (.aload_n 0, 1) := by decide +kernel
theorem dX7_signedNumber_1 : decode cX7_signedNumber 1 = .ok (.getfield 88, 3) := by decide +kernel
theorem dX7_signedNumber_4 : decode cX7_signedNumber 4 = .ok (.aload_n 0, 1) := by decide +kernel
theorem dX7_signedNumber_5 : decode cX7_signedNumber 5 = .ok (.getfield 85, 3) := by decide +kernel
theorem dX7_signedNumber_8 : decode cX7_signedNumber 8 = .ok (.if_icmp .ge 21, 3) := by decide +kernel
theorem dX7_signedNumber_11 : decode cX7_signedNumber 11 = .ok (.aload_n 0, 1) := by decide +kernel
theorem dX7_signedNumber_12 : decode cX7_signedNumber 12 = .ok (.getfield 7, 3) := by decide +kernel
theorem dX7_signedNumber_15 : decode cX7_signedNumber 15 = .ok (.aload_n 0, 1) := by decide +kernel
theorem dX7_signedNumber_16 : decode cX7_signedNumber 16 = .ok (.getfield 88, 3) := by decide +kernel
theorem dX7_signedNumber_19 : decode cX7_signedNumber 19 = .ok (.iaload, 1) := by decide +kernel
theorem dX7_signedNumber_20 : decode cX7_signedNumber 20 = .ok (.bipush 45, 2) := by decide +kernel
theorem dX7_signedNumber_22 : decode cX7_signedNumber 22 = .ok (.if_icmp .ne 7, 3) := by decide +kernel
theorem dX7_signedNumber_25 : decode cX7_signedNumber 25 = .ok (.iconst 1, 1) := by decide +kernel
theorem dX7_signedNumber_26 : decode cX7_signedNumber 26 = .ok (.goto 4, 3) := by decide +kernel
theorem dX7_signedNumber_29 : decode cX7_signedNumber 29 = .ok (.iconst 0, 1) := by decide +kernel
theorem dX7_signedNumber_30 : decode cX7_signedNumber 30 = .ok (.istore_n 2, 1) := by decide +kernel
theorem dX7_signedNumber_31 : decode cX7_signedNumber 31 = .ok (.iload_n 2, 1) := by decide +kernel
theorem dX7_signedNumber_32 : decode cX7_signedNumber 32 = .ok (.ifCond .ne 15, 3) := by decide +kernel
theorem dX7_signedNumber_35 : decode cX7_signedNumber 35 = .ok (.aload_n 0, 1) := by decide +kernel
theorem dX7_signedNumber_36 : decode cX7_signedNumber 36 = .ok (.bipush 43, 2) := by decide +kernel
theorem dX7_signedNumber_38 : decode cX7_signedNumber 38 = .ok (.invokevirtual 93, 3) := by decide +kernel
theorem dX7_signedNumber_41 : decode cX7_signedNumber 41 = .ok (.ifCond .ne 6, 3) := by decide +kernel
theorem dX7_signedNumber_44 : decode cX7_signedNumber 44 = .ok (.ldc 97, 2) := by decide +kernel
theorem dX7_signedNumber_46 : decode cX7_signedNumber 46 = .ok (.ireturn, 1) := by decide +kernel
theorem dX7_signedNumber_47 : decode cX7_signedNumber 47 = .ok (.aload_n 0, 1) := by decide +kernel
theorem dX7_signedNumber_48 : decode cX7_signedNumber 48 = .ok (.dup, 1) := by decide +kernel
theorem dX7_signedNumber_49 : decode cX7_signedNumber 49 = .ok (.getfield 88, 3) := by decide +kernel
theorem dX7_signedNumber_52 : decode cX7_signedNumber 52 = .ok (.iload_n 2, 1) := by decide +kernel
theorem dX7_signedNumber_53 : decode cX7_signedNumber 53 = .ok (.ifCond .eq 7, 3) := by decide +kernel
theorem dX7_signedNumber_56 : decode cX7_signedNumber 56 = .ok (.iconst 1, 1) := by decide +kernel
theorem dX7_signedNumber_57 : decode cX7_signedNumber 57 = .ok (.goto 4, 3) := by decide +kernel
theorem dX7_signedNumber_60 : decode cX7_signedNumber 60 = .ok (.iconst 0, 1) := by decide +kernel
theorem dX7_signedNumber_61 : decode cX7_signedNumber 61 = .ok (.iadd, 1) := by decide +kernel
theorem dX7_signedNumber_62 : decode cX7_signedNumber 62 = .ok (.putfield 88, 3) := by decide +kernel
theorem dX7_signedNumber_65 : decode cX7_signedNumber 65 = .ok (.aload_n 0, 1) := by decide +kernel
theorem dX7_signedNumber_66 : decode cX7_signedNumber 66 = .ok (.iconst 3, 1) := by decide +kernel
theorem dX7_signedNumber_67 : decode cX7_signedNumber 67 = .ok (.iload_n 1, 1) := by decide +kernel
theorem dX7_signedNumber_68 : decode cX7_signedNumber 68 = .ok (.invokevirtual 98, 3) := by decide +kernel
theorem dX7_signedNumber_71 : decode cX7_signedNumber 71 = .ok (.istore_n 3, 1) := by decide +kernel
theorem dX7_signedNumber_72 : decode cX7_signedNumber 72 = .ok (.iload_n 3, 1) := by decide +kernel
theorem dX7_signedNumber_73 : decode cX7_signedNumber 73 = .ok (.bipush (-9), 2) := by decide +kernel
theorem dX7_signedNumber_75 : decode cX7_signedNumber 75 = .ok (.if_icmp .ne 8, 3) := by decide +kernel
theorem dX7_signedNumber_78 : decode cX7_signedNumber 78 = .ok (.ldc 97, 2) := by decide +kernel
theorem dX7_signedNumber_80 : decode cX7_signedNumber 80 = .ok (.goto 13, 3) := by decide +kernel
theorem dX7_signedNumber_83 : decode cX7_signedNumber 83 = .ok (.iload_n 2, 1) := by decide +kernel
theorem dX7_signedNumber_84 : decode cX7_signedNumber 84 = .ok (.ifCond .eq 8, 3) := by decide +kernel
theorem dX7_signedNumber_87 : decode cX7_signedNumber 87 = .ok (.iload_n 3, 1) := by decide +kernel
theorem dX7_signedNumber_88 : decode cX7_signedNumber 88 = .ok (.ineg, 1) := by decide +kernel
theorem dX7_signedNumber_89 : decode cX7_signedNumber 89 = .ok (.goto 4, 3) := by decide +kernel
theorem dX7_signedNumber_92 : decode cX7_signedNumber 92 = .ok (.iload_n 3, 1) := by decide +kernel
theorem dX7_signedNumber_93 : decode cX7_signedNumber 93 = .ok (.ireturn, 1) := by decide +kernel
theorem dX7_readItem_0 : decode cX7_readItem 0 = .ok (.bipush 9, 2) := by decide +kernel
theorem dX7_readItem_2 : decode cX7_readItem 2 = .ok (.iconst 3, 1) := by decide +kernel
theorem dX7_readItem_3 : decode cX7_readItem 3 = .ok (.aload_n 0, 1) := by decide +kernel
theorem dX7_readItem_4 : decode cX7_readItem 4 = .ok (.getfield 19, 3) := by decide +kernel
theorem dX7_readItem_7 : decode cX7_readItem 7 = .ok (.iconst 5, 1) := by decide +kernel
theorem dX7_readItem_8 : decode cX7_readItem 8 = .ok (.iaload, 1) := by decide +kernel
theorem dX7_readItem_9 : decode cX7_readItem 9 = .ok (.imul, 1) := by decide +kernel
theorem dX7_readItem_10 : decode cX7_readItem 10 = .ok (.iadd, 1) := by decide +kernel
theorem dX7_readItem_11 : decode cX7_readItem 11 = .ok (.istore_n 1, 1) := by decide +kernel
theorem dX7_readItem_12 : decode cX7_readItem 12 = .ok (.aload_n 0, 1) := by decide +kernel
theorem dX7_readItem_13 : decode cX7_readItem 13 = .ok (.getfield 19, 3) := by decide +kernel
theorem dX7_readItem_16 : decode cX7_readItem 16 = .ok (.iconst 5, 1) := by decide +kernel
theorem dX7_readItem_17 : decode cX7_readItem 17 = .ok (.iaload, 1) := by decide +kernel
theorem dX7_readItem_18 : decode cX7_readItem 18 = .ok (.bipush 8, 2) := by decide +kernel
theorem dX7_readItem_20 : decode cX7_readItem 20 = .ok (.if_icmp .ne 5, 3) := by decide +kernel
theorem dX7_readItem_23 : decode cX7_readItem 23 = .ok (.iconst 0, 1) := by decide +kernel
theorem dX7_readItem_24 : decode cX7_readItem 24 = .ok (.ireturn, 1) := by decide +kernel
theorem dX7_readItem_25 : decode cX7_readItem 25 = .ok (.aload_n 0, 1) := by decide +kernel
theorem dX7_readItem_26 : decode cX7_readItem 26 = .ok (.bipush 119, 2) := by decide +kernel
theorem dX7_readItem_28 : decode cX7_readItem 28 = .ok (.invokevirtual 93, 3) := by decide +kernel
theorem dX7_readItem_31 : decode cX7_readItem 31 = .ok (.ifCond .eq 46, 3) := by decide +kernel
theorem dX7_readItem_34 : decode cX7_readItem 34 = .ok (.aload_n 0, 1) := by decide +kernel
theorem dX7_readItem_35 : decode cX7_readItem 35 = .ok (.getfield 19, 3) := by decide +kernel
theorem dX7_readItem_38 : decode cX7_readItem 38 = .ok (.iload_n 1, 1) := by decide +kernel
theorem dX7_readItem_39 : decode cX7_readItem 39 = .ok (.iconst 2, 1) := by decide +kernel
theorem dX7_readItem_40 : decode cX7_readItem 40 = .ok (.iadd, 1) := by decide +kernel
theorem dX7_readItem_41 : decode cX7_readItem 41 = .ok (.aload_n 0, 1) := by decide +kernel
theorem dX7_readItem_42 : decode cX7_readItem 42 = .ok (.iconst 4, 1) := by decide +kernel
theorem dX7_readItem_43 : decode cX7_readItem 43 = .ok (.iconst 1, 1) := by decide +kernel
theorem dX7_readItem_44 : decode cX7_readItem 44 = .ok (.invokevirtual 98, 3) := by decide +kernel
theorem dX7_readItem_47 : decode cX7_readItem 47 = .ok (.iastore, 1) := by decide +kernel
theorem dX7_readItem_48 : decode cX7_readItem 48 = .ok (.aload_n 0, 1) := by decide +kernel
theorem dX7_readItem_49 : decode cX7_readItem 49 = .ok (.getfield 19, 3) := by decide +kernel
theorem dX7_readItem_52 : decode cX7_readItem 52 = .ok (.iconst 5, 1) := by decide +kernel
theorem dX7_readItem_53 : decode cX7_readItem 53 = .ok (.dup2, 1) := by decide +kernel
theorem dX7_readItem_54 : decode cX7_readItem 54 = .ok (.iaload, 1) := by decide +kernel
theorem dX7_readItem_55 : decode cX7_readItem 55 = .ok (.iconst 1, 1) := by decide +kernel
theorem dX7_readItem_56 : decode cX7_readItem 56 = .ok (.iadd, 1) := by decide +kernel
theorem dX7_readItem_57 : decode cX7_readItem 57 = .ok (.iastore, 1) := by decide +kernel
theorem dX7_readItem_58 : decode cX7_readItem 58 = .ok (.aload_n 0, 1) := by decide +kernel
theorem dX7_readItem_59 : decode cX7_readItem 59 = .ok (.getfield 19, 3) := by decide +kernel
theorem dX7_readItem_62 : decode cX7_readItem 62 = .ok (.iload_n 1, 1) := by decide +kernel
theorem dX7_readItem_63 : decode cX7_readItem 63 = .ok (.iconst 2, 1) := by decide +kernel
theorem dX7_readItem_64 : decode cX7_readItem 64 = .ok (.iadd, 1) := by decide +kernel
theorem dX7_readItem_65 : decode cX7_readItem 65 = .ok (.iaload, 1) := by decide +kernel
theorem dX7_readItem_66 : decode cX7_readItem 66 = .ok (.bipush (-9), 2) := by decide +kernel
theorem dX7_readItem_68 : decode cX7_readItem 68 = .ok (.if_icmp .eq 7, 3) := by decide +kernel
theorem dX7_readItem_71 : decode cX7_readItem 71 = .ok (.iconst 1, 1) := by decide +kernel
theorem dX7_readItem_72 : decode cX7_readItem 72 = .ok (.goto 4, 3) := by decide +kernel
theorem dX7_readItem_75 : decode cX7_readItem 75 = .ok (.iconst 0, 1) := by decide +kernel
theorem dX7_readItem_76 : decode cX7_readItem 76 = .ok (.ireturn, 1) := by decide +kernel
theorem dX7_readItem_77 : decode cX7_readItem 77 = .ok (.aload_n 0, 1) := by decide +kernel
theorem dX7_readItem_78 : decode cX7_readItem 78 = .ok (.bipush 109, 2) := by decide +kernel
theorem dX7_readItem_80 : decode cX7_readItem 80 = .ok (.invokevirtual 93, 3) := by decide +kernel
theorem dX7_readItem_83 : decode cX7_readItem 83 = .ok (.ifCond .ne 5, 3) := by decide +kernel
theorem dX7_readItem_86 : decode cX7_readItem 86 = .ok (.iconst 0, 1) := by decide +kernel
theorem dX7_readItem_87 : decode cX7_readItem 87 = .ok (.ireturn, 1) := by decide +kernel
theorem dX7_readItem_88 : decode cX7_readItem 88 = .ok (.aload_n 0, 1) := by decide +kernel
theorem dX7_readItem_89 : decode cX7_readItem 89 = .ok (.getfield 19, 3) := by decide +kernel
theorem dX7_readItem_92 : decode cX7_readItem 92 = .ok (.iload_n 1, 1) := by decide +kernel
theorem dX7_readItem_93 : decode cX7_readItem 93 = .ok (.aload_n 0, 1) := by decide +kernel
theorem dX7_readItem_94 : decode cX7_readItem 94 = .ok (.iconst 0, 1) := by decide +kernel
theorem dX7_readItem_95 : decode cX7_readItem 95 = .ok (.invokevirtual 101, 3) := by decide +kernel
theorem dX7_readItem_98 : decode cX7_readItem 98 = .ok (.iastore, 1) := by decide +kernel
theorem dX7_readItem_99 : decode cX7_readItem 99 = .ok (.aload_n 0, 1) := by decide +kernel
theorem dX7_readItem_100 : decode cX7_readItem 100 = .ok (.getfield 19, 3) := by decide +kernel
theorem dX7_readItem_103 : decode cX7_readItem 103 = .ok (.iload_n 1, 1) := by decide +kernel
theorem dX7_readItem_104 : decode cX7_readItem 104 = .ok (.iaload, 1) := by decide +kernel
theorem dX7_readItem_105 : decode cX7_readItem 105 = .ok (.i2l, 1) := by decide +kernel
theorem dX7_readItem_106 : decode cX7_readItem 106 = .ok (.ldc2_w 104, 3) := by decide +kernel
theorem dX7_readItem_109 : decode cX7_readItem 109 = .ok (.ldc2_w 106, 3) := by decide +kernel
theorem dX7_readItem_112 : decode cX7_readItem 112 = .ok (.invokestatic 81, 3) := by decide +kernel
theorem dX7_readItem_115 : decode cX7_readItem 115 = .ok (.ifCond .ne 5, 3) := by decide +kernel
theorem dX7_readItem_118 : decode cX7_readItem 118 = .ok (.iconst 0, 1) := by decide +kernel
theorem dX7_readItem_119 : decode cX7_readItem 119 = .ok (.ireturn, 1) := by decide +kernel
theorem dX7_readItem_120 : decode cX7_readItem 120 = .ok (.aload_n 0, 1) := by decide +kernel
theorem dX7_readItem_121 : decode cX7_readItem 121 = .ok (.getfield 19, 3) := by decide +kernel
theorem dX7_readItem_124 : decode cX7_readItem 124 = .ok (.iload_n 1, 1) := by decide +kernel
theorem dX7_readItem_125 : decode cX7_readItem 125 = .ok (.iconst 1, 1) := by decide +kernel
theorem dX7_readItem_126 : decode cX7_readItem 126 = .ok (.iadd, 1) := by decide +kernel
theorem dX7_readItem_127 : decode cX7_readItem 127 = .ok (.aload_n 0, 1) := by decide +kernel
theorem dX7_readItem_128 : decode cX7_readItem 128 = .ok (.aload_n 0, 1) := by decide +kernel
theorem dX7_readItem_129 : decode cX7_readItem 129 = .ok (.getfield 19, 3) := by decide +kernel
theorem dX7_readItem_132 : decode cX7_readItem 132 = .ok (.iload_n 1, 1) := by decide +kernel
theorem dX7_readItem_133 : decode cX7_readItem 133 = .ok (.iaload, 1) := by decide +kernel
theorem dX7_readItem_134 : decode cX7_readItem 134 = .ok (.ifCond .ne 7, 3) := by decide +kernel
theorem dX7_readItem_137 : decode cX7_readItem 137 = .ok (.iconst 1, 1) := by decide +kernel
theorem dX7_readItem_138 : decode cX7_readItem 138 = .ok (.goto 4, 3) := by decide +kernel
theorem dX7_readItem_141 : decode cX7_readItem 141 = .ok (.iconst 0, 1) := by decide +kernel
theorem dX7_readItem_142 : decode cX7_readItem 142 = .ok (.invokevirtual 101, 3) := by decide +kernel
theorem dX7_readItem_145 : decode cX7_readItem 145 = .ok (.iastore, 1) := by decide +kernel
theorem dX7_readItem_146 : decode cX7_readItem 146 = .ok (.aload_n 0, 1) := by decide +kernel
theorem dX7_readItem_147 : decode cX7_readItem 147 = .ok (.getfield 19, 3) := by decide +kernel
theorem dX7_readItem_150 : decode cX7_readItem 150 = .ok (.iconst 5, 1) := by decide +kernel
theorem dX7_readItem_151 : decode cX7_readItem 151 = .ok (.dup2, 1) := by decide +kernel
theorem dX7_readItem_152 : decode cX7_readItem 152 = .ok (.iaload, 1) := by decide +kernel
theorem dX7_readItem_153 : decode cX7_readItem 153 = .ok (.iconst 1, 1) := by decide +kernel
theorem dX7_readItem_154 : decode cX7_readItem 154 = .ok (.iadd, 1) := by decide +kernel
theorem dX7_readItem_155 : decode cX7_readItem 155 = .ok (.iastore, 1) := by decide +kernel
theorem dX7_readItem_156 : decode cX7_readItem 156 = .ok (.aload_n 0, 1) := by decide +kernel
theorem dX7_readItem_157 : decode cX7_readItem 157 = .ok (.getfield 19, 3) := by decide +kernel
theorem dX7_readItem_160 : decode cX7_readItem 160 = .ok (.iload_n 1, 1) := by decide +kernel
theorem dX7_readItem_161 : decode cX7_readItem 161 = .ok (.iconst 1, 1) := by decide +kernel
theorem dX7_readItem_162 : decode cX7_readItem 162 = .ok (.iadd, 1) := by decide +kernel
theorem dX7_readItem_163 : decode cX7_readItem 163 = .ok (.iaload, 1) := by decide +kernel
theorem dX7_readItem_164 : decode cX7_readItem 164 = .ok (.i2l, 1) := by decide +kernel
theorem dX7_readItem_165 : decode cX7_readItem 165 = .ok (.ldc2_w 104, 3) := by decide +kernel
theorem dX7_readItem_168 : decode cX7_readItem 168 = .ok (.ldc2_w 106, 3) := by decide +kernel
theorem dX7_readItem_171 : decode cX7_readItem 171 = .ok (.invokestatic 81, 3) := by decide +kernel
theorem dX7_readItem_174 : decode cX7_readItem 174 = .ok (.ireturn, 1) := by decide +kernel
theorem dX7_readText_0 : decode cX7_readText 0 = .ok (.iconst 0, 1) := by decide +kernel
theorem dX7_readText_1 : decode cX7_readText 1 = .ok (.istore_n 1, 1) := by decide +kernel
theorem dX7_readText_2 : decode cX7_readText 2 = .ok (.iload_n 1, 1) := by decide +kernel
theorem dX7_readText_3 : decode cX7_readText 3 = .ok (.bipush 33, 2) := by decide +kernel
theorem dX7_readText_5 : decode cX7_readText 5 = .ok (.if_icmp .ge 16, 3) := by decide +kernel
theorem dX7_readText_8 : decode cX7_readText 8 = .ok (.aload_n 0, 1) := by decide +kernel
theorem dX7_readText_9 : decode cX7_readText 9 = .ok (.getfield 19, 3) := by decide +kernel
theorem dX7_readText_12 : decode cX7_readText 12 = .ok (.iload_n 1, 1) := by decide +kernel
theorem dX7_readText_13 : decode cX7_readText 13 = .ok (.iconst 0, 1) := by decide +kernel
theorem dX7_readText_14 : decode cX7_readText 14 = .ok (.iastore, 1) := by decide +kernel
theorem dX7_readText_15 : decode cX7_readText 15 = .ok (.iinc 1 1, 3) := by decide +kernel
theorem dX7_readText_18 : decode cX7_readText 18 = .ok (.goto (-16), 3) := by decide +kernel
theorem dX7_readText_21 : decode cX7_readText 21 = .ok (.aload_n 0, 1) := by decide +kernel
theorem dX7_readText_22 : decode cX7_readText 22 = .ok (.getfield 19, 3) := by decide +kernel
theorem dX7_readText_25 : decode cX7_readText 25 = .ok (.bipush 7, 2) := by decide +kernel
theorem dX7_readText_27 : decode cX7_readText 27 = .ok (.bipush (-9), 2) := by decide +kernel
theorem dX7_readText_29 : decode cX7_readText 29 = .ok (.iastore, 1) := by decide +kernel
theorem dX7_readText_30 : decode cX7_readText 30 = .ok (.aload_n 0, 1) := by decide +kernel
theorem dX7_readText_31 : decode cX7_readText 31 = .ok (.iconst 0, 1) := by decide +kernel
theorem dX7_readText_32 : decode cX7_readText 32 = .ok (.putfield 88, 3) := by decide +kernel
theorem dX7_readText_35 : decode cX7_readText 35 = .ok (.aload_n 0, 1) := by decide +kernel
theorem dX7_readText_36 : decode cX7_readText 36 = .ok (.bipush 97, 2) := by decide +kernel
theorem dX7_readText_38 : decode cX7_readText 38 = .ok (.invokevirtual 93, 3) := by decide +kernel
theorem dX7_readText_41 : decode cX7_readText 41 = .ok (.ifCond .ne 8, 3) := by decide +kernel
theorem dX7_readText_44 : decode cX7_readText 44 = .ok (.aload_n 0, 1) := by decide +kernel
theorem dX7_readText_45 : decode cX7_readText 45 = .ok (.getfield 88, 3) := by decide +kernel
theorem dX7_readText_48 : decode cX7_readText 48 = .ok (.ireturn, 1) := by decide +kernel
theorem dX7_readText_49 : decode cX7_readText 49 = .ok (.aload_n 0, 1) := by decide +kernel
theorem dX7_readText_50 : decode cX7_readText 50 = .ok (.getfield 19, 3) := by decide +kernel
theorem dX7_readText_53 : decode cX7_readText 53 = .ok (.iconst 0, 1) := by decide +kernel
theorem dX7_readText_54 : decode cX7_readText 54 = .ok (.aload_n 0, 1) := by decide +kernel
theorem dX7_readText_55 : decode cX7_readText 55 = .ok (.iconst 3, 1) := by decide +kernel
theorem dX7_readText_56 : decode cX7_readText 56 = .ok (.iconst 1, 1) := by decide +kernel
theorem dX7_readText_57 : decode cX7_readText 57 = .ok (.invokevirtual 98, 3) := by decide +kernel
theorem dX7_readText_60 : decode cX7_readText 60 = .ok (.iastore, 1) := by decide +kernel
theorem dX7_readText_61 : decode cX7_readText 61 = .ok (.aload_n 0, 1) := by decide +kernel
theorem dX7_readText_62 : decode cX7_readText 62 = .ok (.getfield 19, 3) := by decide +kernel
theorem dX7_readText_65 : decode cX7_readText 65 = .ok (.iconst 0, 1) := by decide +kernel
theorem dX7_readText_66 : decode cX7_readText 66 = .ok (.iaload, 1) := by decide +kernel
theorem dX7_readText_67 : decode cX7_readText 67 = .ok (.bipush (-9), 2) := by decide +kernel
theorem dX7_readText_69 : decode cX7_readText 69 = .ok (.if_icmp .eq 12, 3) := by decide +kernel
theorem dX7_readText_72 : decode cX7_readText 72 = .ok (.aload_n 0, 1) := by decide +kernel
theorem dX7_readText_73 : decode cX7_readText 73 = .ok (.bipush 118, 2) := by decide +kernel
theorem dX7_readText_75 : decode cX7_readText 75 = .ok (.invokevirtual 93, 3) := by decide +kernel
theorem dX7_readText_78 : decode cX7_readText 78 = .ok (.ifCond .ne 8, 3) := by decide +kernel
theorem dX7_readText_81 : decode cX7_readText 81 = .ok (.aload_n 0, 1) := by decide +kernel
theorem dX7_readText_82 : decode cX7_readText 82 = .ok (.getfield 88, 3) := by decide +kernel
theorem dX7_readText_85 : decode cX7_readText 85 = .ok (.ireturn, 1) := by decide +kernel
theorem dX7_readText_86 : decode cX7_readText 86 = .ok (.aload_n 0, 1) := by decide +kernel
theorem dX7_readText_87 : decode cX7_readText 87 = .ok (.getfield 19, 3) := by decide +kernel
theorem dX7_readText_90 : decode cX7_readText 90 = .ok (.iconst 1, 1) := by decide +kernel
theorem dX7_readText_91 : decode cX7_readText 91 = .ok (.aload_n 0, 1) := by decide +kernel
theorem dX7_readText_92 : decode cX7_readText 92 = .ok (.iconst 3, 1) := by decide +kernel
theorem dX7_readText_93 : decode cX7_readText 93 = .ok (.iconst 1, 1) := by decide +kernel
theorem dX7_readText_94 : decode cX7_readText 94 = .ok (.invokevirtual 98, 3) := by decide +kernel
theorem dX7_readText_97 : decode cX7_readText 97 = .ok (.iastore, 1) := by decide +kernel
theorem dX7_readText_98 : decode cX7_readText 98 = .ok (.aload_n 0, 1) := by decide +kernel
theorem dX7_readText_99 : decode cX7_readText 99 = .ok (.getfield 19, 3) := by decide +kernel
theorem dX7_readText_102 : decode cX7_readText 102 = .ok (.iconst 1, 1) := by decide +kernel
theorem dX7_readText_103 : decode cX7_readText 103 = .ok (.iaload, 1) := by decide +kernel
theorem dX7_readText_104 : decode cX7_readText 104 = .ok (.bipush (-9), 2) := by decide +kernel
theorem dX7_readText_106 : decode cX7_readText 106 = .ok (.if_icmp .ne 8, 3) := by decide +kernel
theorem dX7_readText_109 : decode cX7_readText 109 = .ok (.aload_n 0, 1) := by decide +kernel
theorem dX7_readText_110 : decode cX7_readText 110 = .ok (.getfield 88, 3) := by decide +kernel
theorem dX7_readText_113 : decode cX7_readText 113 = .ok (.ireturn, 1) := by decide +kernel
theorem dX7_readText_114 : decode cX7_readText 114 = .ok (.aload_n 0, 1) := by decide +kernel
theorem dX7_readText_115 : decode cX7_readText 115 = .ok (.getfield 88, 3) := by decide +kernel
theorem dX7_readText_118 : decode cX7_readText 118 = .ok (.aload_n 0, 1) := by decide +kernel
theorem dX7_readText_119 : decode cX7_readText 119 = .ok (.getfield 85, 3) := by decide +kernel
theorem dX7_readText_122 : decode cX7_readText 122 = .ok (.if_icmp .ge 15, 3) := by decide +kernel
theorem dX7_readText_125 : decode cX7_readText 125 = .ok (.aload_n 0, 1) := by decide +kernel
theorem dX7_readText_126 : decode cX7_readText 126 = .ok (.invokevirtual 108, 3) := by decide +kernel
theorem dX7_readText_129 : decode cX7_readText 129 = .ok (.ifCond .ne (-15), 3) := by decide +kernel
theorem dX7_readText_132 : decode cX7_readText 132 = .ok (.aload_n 0, 1) := by decide +kernel
theorem dX7_readText_133 : decode cX7_readText 133 = .ok (.getfield 88, 3) := by decide +kernel
theorem dX7_readText_136 : decode cX7_readText 136 = .ok (.ireturn, 1) := by decide +kernel
theorem dX7_readText_137 : decode cX7_readText 137 = .ok (.bipush (-9), 2) := by decide +kernel
theorem dX7_readText_139 : decode cX7_readText 139 = .ok (.ireturn, 1) := by decide +kernel
theorem dX7_errorPosition_0 : decode cX7_errorPosition 0 = .ok (.aload_n 0, 1) := by decide +kernel
theorem dX7_errorPosition_1 : decode cX7_errorPosition 1 = .ok (.invokevirtual 112, 3) := by decide +kernel
theorem dX7_errorPosition_4 : decode cX7_errorPosition 4 = .ok (.ireturn, 1) := by decide +kernel
theorem dX7_load_0 : decode cX7_load 0 = .ok (.aload_n 0, 1) := by decide +kernel
theorem dX7_load_1 : decode cX7_load 1 = .ok (.invokevirtual 112, 3) := by decide +kernel
theorem dX7_load_4 : decode cX7_load 4 = .ok (.bipush (-9), 2) := by decide +kernel
theorem dX7_load_6 : decode cX7_load 6 = .ok (.if_icmp .eq 6, 3) := by decide +kernel
theorem dX7_load_9 : decode cX7_load 9 = .ok (.bipush (-3), 2) := by decide +kernel
theorem dX7_load_11 : decode cX7_load 11 = .ok (.ireturn, 1) := by decide +kernel
theorem dX7_load_12 : decode cX7_load 12 = .ok (.aload_n 0, 1) := by decide +kernel
theorem dX7_load_13 : decode cX7_load 13 = .ok (.getfield 19, 3) := by decide +kernel
theorem dX7_load_16 : decode cX7_load 16 = .ok (.aload_n 0, 1) := by decide +kernel
theorem dX7_load_17 : decode cX7_load 17 = .ok (.getfield 13, 3) := by decide +kernel
theorem dX7_load_20 : decode cX7_load 20 = .ok (.invokestatic 116, 3) := by decide +kernel
theorem dX7_load_23 : decode cX7_load 23 = .ok (.aload_n 0, 1) := by decide +kernel
theorem dX7_load_24 : decode cX7_load 24 = .ok (.iconst 0, 1) := by decide +kernel
theorem dX7_load_25 : decode cX7_load 25 = .ok (.putfield 120, 3) := by decide +kernel
theorem dX7_load_28 : decode cX7_load 28 = .ok (.aload_n 0, 1) := by decide +kernel
theorem dX7_load_29 : decode cX7_load 29 = .ok (.getfield 28, 3) := by decide +kernel
theorem dX7_load_32 : decode cX7_load 32 = .ok (.iconst 0, 1) := by decide +kernel
theorem dX7_load_33 : decode cX7_load 33 = .ok (.iconst 0, 1) := by decide +kernel
theorem dX7_load_34 : decode cX7_load 34 = .ok (.bastore, 1) := by decide +kernel
theorem dX7_load_35 : decode cX7_load 35 = .ok (.aload_n 0, 1) := by decide +kernel
theorem dX7_load_36 : decode cX7_load 36 = .ok (.getfield 28, 3) := by decide +kernel
theorem dX7_load_39 : decode cX7_load 39 = .ok (.iconst 1, 1) := by decide +kernel
theorem dX7_load_40 : decode cX7_load 40 = .ok (.iconst 0, 1) := by decide +kernel
theorem dX7_load_41 : decode cX7_load 41 = .ok (.bastore, 1) := by decide +kernel
theorem dX7_load_42 : decode cX7_load 42 = .ok (.aload_n 0, 1) := by decide +kernel
theorem dX7_load_43 : decode cX7_load 43 = .ok (.getfield 13, 3) := by decide +kernel
theorem dX7_load_46 : decode cX7_load 46 = .ok (.iconst 5, 1) := by decide +kernel
theorem dX7_load_47 : decode cX7_load 47 = .ok (.iaload, 1) := by decide +kernel
theorem dX7_load_48 : decode cX7_load 48 = .ok (.ireturn, 1) := by decide +kernel
theorem dX7_position_0 : decode cX7_position 0 = .ok (.iload_n 1, 1) := by decide +kernel
theorem dX7_position_1 : decode cX7_position 1 = .ok (.i2l, 1) := by decide +kernel
theorem dX7_position_2 : decode cX7_position 2 = .ok (.lconst 0, 1) := by decide +kernel
theorem dX7_position_3 : decode cX7_position 3 = .ok (.lconst 1, 1) := by decide +kernel
theorem dX7_position_4 : decode cX7_position 4 = .ok (.invokestatic 81, 3) := by decide +kernel
theorem dX7_position_7 : decode cX7_position 7 = .ok (.ifCond .eq 17, 3) := by decide +kernel
theorem dX7_position_10 : decode cX7_position 10 = .ok (.aload_n 0, 1) := by decide +kernel
theorem dX7_position_11 : decode cX7_position 11 = .ok (.getfield 13, 3) := by decide +kernel
theorem dX7_position_14 : decode cX7_position 14 = .ok (.iconst 2, 1) := by decide +kernel
theorem dX7_position_15 : decode cX7_position 15 = .ok (.iload_n 1, 1) := by decide +kernel
theorem dX7_position_16 : decode cX7_position 16 = .ok (.iadd, 1) := by decide +kernel
theorem dX7_position_17 : decode cX7_position 17 = .ok (.iaload, 1) := by decide +kernel
theorem dX7_position_18 : decode cX7_position 18 = .ok (.ldc 123, 2) := by decide +kernel
theorem dX7_position_20 : decode cX7_position 20 = .ok (.iadd, 1) := by decide +kernel
theorem dX7_position_21 : decode cX7_position 21 = .ok (.goto 4, 3) := by decide +kernel
theorem dX7_position_24 : decode cX7_position 24 = .ok (.iconst (-1), 1) := by decide +kernel
theorem dX7_position_25 : decode cX7_position 25 = .ok (.ireturn, 1) := by decide +kernel
theorem dX7_clock_0 : decode cX7_clock 0 = .ok (.aload_n 0, 1) := by decide +kernel
theorem dX7_clock_1 : decode cX7_clock 1 = .ok (.getfield 13, 3) := by decide +kernel
theorem dX7_clock_4 : decode cX7_clock 4 = .ok (.iconst 4, 1) := by decide +kernel
theorem dX7_clock_5 : decode cX7_clock 5 = .ok (.iaload, 1) := by decide +kernel
theorem dX7_clock_6 : decode cX7_clock 6 = .ok (.ireturn, 1) := by decide +kernel
theorem dX7_queueLength_0 : decode cX7_queueLength 0 = .ok (.aload_n 0, 1) := by decide +kernel
theorem dX7_queueLength_1 : decode cX7_queueLength 1 = .ok (.getfield 13, 3) := by decide +kernel
theorem dX7_queueLength_4 : decode cX7_queueLength 4 = .ok (.iconst 5, 1) := by decide +kernel
theorem dX7_queueLength_5 : decode cX7_queueLength 5 = .ok (.iaload, 1) := by decide +kernel
theorem dX7_queueLength_6 : decode cX7_queueLength 6 = .ok (.ireturn, 1) := by decide +kernel
theorem dX7_lengthOf_0 : decode cX7_lengthOf 0 = .ok (.aload_n 0, 1) := by decide +kernel
theorem dX7_lengthOf_1 : decode cX7_lengthOf 1 = .ok (.bipush 9, 2) := by decide +kernel
theorem dX7_lengthOf_3 : decode cX7_lengthOf 3 = .ok (.iconst 3, 1) := by decide +kernel
theorem dX7_lengthOf_4 : decode cX7_lengthOf 4 = .ok (.iload_n 1, 1) := by decide +kernel
theorem dX7_lengthOf_5 : decode cX7_lengthOf 5 = .ok (.imul, 1) := by decide +kernel
theorem dX7_lengthOf_6 : decode cX7_lengthOf 6 = .ok (.iadd, 1) := by decide +kernel
theorem dX7_lengthOf_7 : decode cX7_lengthOf 7 = .ok (.iaload, 1) := by decide +kernel
theorem dX7_lengthOf_8 : decode cX7_lengthOf 8 = .ok (.invokestatic 124, 3) := by decide +kernel
theorem dX7_lengthOf_11 : decode cX7_lengthOf 11 = .ok (.istore_n 2, 1) := by decide +kernel
theorem dX7_lengthOf_12 : decode cX7_lengthOf 12 = .ok (.aload_n 0, 1) := by decide +kernel
theorem dX7_lengthOf_13 : decode cX7_lengthOf 13 = .ok (.bipush 9, 2) := by decide +kernel
theorem dX7_lengthOf_15 : decode cX7_lengthOf 15 = .ok (.iconst 3, 1) := by decide +kernel
theorem dX7_lengthOf_16 : decode cX7_lengthOf 16 = .ok (.iload_n 1, 1) := by decide +kernel
theorem dX7_lengthOf_17 : decode cX7_lengthOf 17 = .ok (.imul, 1) := by decide +kernel
theorem dX7_lengthOf_18 : decode cX7_lengthOf 18 = .ok (.iadd, 1) := by decide +kernel
theorem dX7_lengthOf_19 : decode cX7_lengthOf 19 = .ok (.iconst 1, 1) := by decide +kernel
theorem dX7_lengthOf_20 : decode cX7_lengthOf 20 = .ok (.iadd, 1) := by decide +kernel
theorem dX7_lengthOf_21 : decode cX7_lengthOf 21 = .ok (.iaload, 1) := by decide +kernel
theorem dX7_lengthOf_22 : decode cX7_lengthOf 22 = .ok (.invokestatic 124, 3) := by decide +kernel
theorem dX7_lengthOf_25 : decode cX7_lengthOf 25 = .ok (.istore_n 3, 1) := by decide +kernel
theorem dX7_lengthOf_26 : decode cX7_lengthOf 26 = .ok (.iload_n 2, 1) := by decide +kernel
theorem dX7_lengthOf_27 : decode cX7_lengthOf 27 = .ok (.iload_n 3, 1) := by decide +kernel
theorem dX7_lengthOf_28 : decode cX7_lengthOf 28 = .ok (.if_icmp .le 7, 3) := by decide +kernel
theorem dX7_lengthOf_31 : decode cX7_lengthOf 31 = .ok (.iload_n 2, 1) := by decide +kernel
theorem dX7_lengthOf_32 : decode cX7_lengthOf 32 = .ok (.goto 4, 3) := by decide +kernel
theorem dX7_lengthOf_35 : decode cX7_lengthOf 35 = .ok (.iload_n 3, 1) := by decide +kernel
theorem dX7_lengthOf_36 : decode cX7_lengthOf 36 = .ok (.ireturn, 1) := by decide +kernel
theorem dX7_isUnderWay_0 : decode cX7_isUnderWay 0 = .ok (.aload_n 0, 1) := by decide +kernel
theorem dX7_isUnderWay_1 : decode cX7_isUnderWay 1 = .ok (.bipush 7, 2) := by decide +kernel
theorem dX7_isUnderWay_3 : decode cX7_isUnderWay 3 = .ok (.iaload, 1) := by decide +kernel
theorem dX7_isUnderWay_4 : decode cX7_isUnderWay 4 = .ok (.bipush (-9), 2) := by decide +kernel
theorem dX7_isUnderWay_6 : decode cX7_isUnderWay 6 = .ok (.if_icmp .eq 7, 3) := by decide +kernel
theorem dX7_isUnderWay_9 : decode cX7_isUnderWay 9 = .ok (.iconst 1, 1) := by decide +kernel
theorem dX7_isUnderWay_10 : decode cX7_isUnderWay 10 = .ok (.goto 4, 3) := by decide +kernel
theorem dX7_isUnderWay_13 : decode cX7_isUnderWay 13 = .ok (.iconst 0, 1) := by decide +kernel
theorem dX7_isUnderWay_14 : decode cX7_isUnderWay 14 = .ok (.ireturn, 1) := by decide +kernel
theorem dX7_itemAt_0 : decode cX7_itemAt 0 = .ok (.iload_n 1, 1) := by decide +kernel
theorem dX7_itemAt_1 : decode cX7_itemAt 1 = .ok (.i2l, 1) := by decide +kernel
theorem dX7_itemAt_2 : decode cX7_itemAt 2 = .ok (.lconst 0, 1) := by decide +kernel
theorem dX7_itemAt_3 : decode cX7_itemAt 3 = .ok (.aload_n 0, 1) := by decide +kernel
theorem dX7_itemAt_4 : decode cX7_itemAt 4 = .ok (.getfield 13, 3) := by decide +kernel
theorem dX7_itemAt_7 : decode cX7_itemAt 7 = .ok (.iconst 5, 1) := by decide +kernel
theorem dX7_itemAt_8 : decode cX7_itemAt 8 = .ok (.iaload, 1) := by decide +kernel
theorem dX7_itemAt_9 : decode cX7_itemAt 9 = .ok (.iconst 1, 1) := by decide +kernel
theorem dX7_itemAt_10 : decode cX7_itemAt 10 = .ok (.isub, 1) := by decide +kernel
theorem dX7_itemAt_11 : decode cX7_itemAt 11 = .ok (.i2l, 1) := by decide +kernel
theorem dX7_itemAt_12 : decode cX7_itemAt 12 = .ok (.invokestatic 81, 3) := by decide +kernel
theorem dX7_itemAt_15 : decode cX7_itemAt 15 = .ok (.ifCond .ne 5, 3) := by decide +kernel
theorem dX7_itemAt_18 : decode cX7_itemAt 18 = .ok (.iconst (-1), 1) := by decide +kernel
theorem dX7_itemAt_19 : decode cX7_itemAt 19 = .ok (.ireturn, 1) := by decide +kernel
theorem dX7_itemAt_20 : decode cX7_itemAt 20 = .ok (.aload_n 0, 1) := by decide +kernel
theorem dX7_itemAt_21 : decode cX7_itemAt 21 = .ok (.getfield 13, 3) := by decide +kernel
theorem dX7_itemAt_24 : decode cX7_itemAt 24 = .ok (.bipush 9, 2) := by decide +kernel
theorem dX7_itemAt_26 : decode cX7_itemAt 26 = .ok (.iconst 3, 1) := by decide +kernel
theorem dX7_itemAt_27 : decode cX7_itemAt 27 = .ok (.iload_n 1, 1) := by decide +kernel
theorem dX7_itemAt_28 : decode cX7_itemAt 28 = .ok (.imul, 1) := by decide +kernel
theorem dX7_itemAt_29 : decode cX7_itemAt 29 = .ok (.iadd, 1) := by decide +kernel
theorem dX7_itemAt_30 : decode cX7_itemAt 30 = .ok (.iconst 2, 1) := by decide +kernel
theorem dX7_itemAt_31 : decode cX7_itemAt 31 = .ok (.iadd, 1) := by decide +kernel
theorem dX7_itemAt_32 : decode cX7_itemAt 32 = .ok (.iaload, 1) := by decide +kernel
theorem dX7_itemAt_33 : decode cX7_itemAt 33 = .ok (.istore_n 2, 1) := by decide +kernel
theorem dX7_itemAt_34 : decode cX7_itemAt 34 = .ok (.iload_n 2, 1) := by decide +kernel
theorem dX7_itemAt_35 : decode cX7_itemAt 35 = .ok (.ifCond .le 11, 3) := by decide +kernel
theorem dX7_itemAt_38 : decode cX7_itemAt 38 = .ok (.iload_n 2, 1) := by decide +kernel
theorem dX7_itemAt_39 : decode cX7_itemAt 39 = .ok (.sipush 10000, 3) := by decide +kernel
theorem dX7_itemAt_42 : decode cX7_itemAt 42 = .ok (.iadd, 1) := by decide +kernel
theorem dX7_itemAt_43 : decode cX7_itemAt 43 = .ok (.goto 35, 3) := by decide +kernel
theorem dX7_itemAt_46 : decode cX7_itemAt 46 = .ok (.iload_n 1, 1) := by decide +kernel
theorem dX7_itemAt_47 : decode cX7_itemAt 47 = .ok (.ifCond .ne 23, 3) := by decide +kernel
theorem dX7_itemAt_50 : decode cX7_itemAt 50 = .ok (.aload_n 0, 1) := by decide +kernel
theorem dX7_itemAt_51 : decode cX7_itemAt 51 = .ok (.getfield 13, 3) := by decide +kernel
theorem dX7_itemAt_54 : decode cX7_itemAt 54 = .ok (.invokestatic 127, 3) := by decide +kernel
theorem dX7_itemAt_57 : decode cX7_itemAt 57 = .ok (.ifCond .eq 13, 3) := by decide +kernel
theorem dX7_itemAt_60 : decode cX7_itemAt 60 = .ok (.aload_n 0, 1) := by decide +kernel
theorem dX7_itemAt_61 : decode cX7_itemAt 61 = .ok (.getfield 13, 3) := by decide +kernel
theorem dX7_itemAt_64 : decode cX7_itemAt 64 = .ok (.bipush 8, 2) := by decide +kernel
theorem dX7_itemAt_66 : decode cX7_itemAt 66 = .ok (.iaload, 1) := by decide +kernel
theorem dX7_itemAt_67 : decode cX7_itemAt 67 = .ok (.goto 11, 3) := by decide +kernel
theorem dX7_itemAt_70 : decode cX7_itemAt 70 = .ok (.aload_n 0, 1) := by decide +kernel
theorem dX7_itemAt_71 : decode cX7_itemAt 71 = .ok (.getfield 13, 3) := by decide +kernel
theorem dX7_itemAt_74 : decode cX7_itemAt 74 = .ok (.iload_n 1, 1) := by decide +kernel
theorem dX7_itemAt_75 : decode cX7_itemAt 75 = .ok (.invokestatic 131, 3) := by decide +kernel
theorem dX7_itemAt_78 : decode cX7_itemAt 78 = .ok (.ireturn, 1) := by decide +kernel
theorem dX7_rampIndex_0 : decode cX7_rampIndex 0 = .ok (.aload_n 0, 1) := by decide +kernel
theorem dX7_rampIndex_1 : decode cX7_rampIndex 1 = .ok (.getfield 13, 3) := by decide +kernel
theorem dX7_rampIndex_4 : decode cX7_rampIndex 4 = .ok (.bipush 7, 2) := by decide +kernel
theorem dX7_rampIndex_6 : decode cX7_rampIndex 6 = .ok (.iaload, 1) := by decide +kernel
theorem dX7_rampIndex_7 : decode cX7_rampIndex 7 = .ok (.ireturn, 1) := by decide +kernel
theorem dX7_topIndex_0 : decode cX7_topIndex 0 = .ok (.aload_n 0, 1) := by decide +kernel
theorem dX7_topIndex_1 : decode cX7_topIndex 1 = .ok (.aload_n 0, 1) := by decide +kernel
theorem dX7_topIndex_2 : decode cX7_topIndex 2 = .ok (.getfield 13, 3) := by decide +kernel
theorem dX7_topIndex_5 : decode cX7_topIndex 5 = .ok (.iconst 0, 1) := by decide +kernel
theorem dX7_topIndex_6 : decode cX7_topIndex 6 = .ok (.iaload, 1) := by decide +kernel
theorem dX7_topIndex_7 : decode cX7_topIndex 7 = .ok (.aload_n 0, 1) := by decide +kernel
theorem dX7_topIndex_8 : decode cX7_topIndex 8 = .ok (.getfield 13, 3) := by decide +kernel
theorem dX7_topIndex_11 : decode cX7_topIndex 11 = .ok (.iconst 1, 1) := by decide +kernel
theorem dX7_topIndex_12 : decode cX7_topIndex 12 = .ok (.iaload, 1) := by decide +kernel
theorem dX7_topIndex_13 : decode cX7_topIndex 13 = .ok (.invokevirtual 135, 3) := by decide +kernel
theorem dX7_topIndex_16 : decode cX7_topIndex 16 = .ok (.ireturn, 1) := by decide +kernel
theorem dX7_interval_0 : decode cX7_interval 0 = .ok (.iload_n 1, 1) := by decide +kernel
theorem dX7_interval_1 : decode cX7_interval 1 = .ok (.i2l, 1) := by decide +kernel
theorem dX7_interval_2 : decode cX7_interval 2 = .ok (.lconst 0, 1) := by decide +kernel
theorem dX7_interval_3 : decode cX7_interval 3 = .ok (.ldc2_w 106, 3) := by decide +kernel
theorem dX7_interval_6 : decode cX7_interval 6 = .ok (.invokestatic 81, 3) := by decide +kernel
theorem dX7_interval_9 : decode cX7_interval 9 = .ok (.ifCond .eq 23, 3) := by decide +kernel
theorem dX7_interval_12 : decode cX7_interval 12 = .ok (.aload_n 0, 1) := by decide +kernel
theorem dX7_interval_13 : decode cX7_interval 13 = .ok (.aload_n 0, 1) := by decide +kernel
theorem dX7_interval_14 : decode cX7_interval 14 = .ok (.getfield 13, 3) := by decide +kernel
theorem dX7_interval_17 : decode cX7_interval 17 = .ok (.iconst 0, 1) := by decide +kernel
theorem dX7_interval_18 : decode cX7_interval 18 = .ok (.iaload, 1) := by decide +kernel
theorem dX7_interval_19 : decode cX7_interval 19 = .ok (.aload_n 0, 1) := by decide +kernel
theorem dX7_interval_20 : decode cX7_interval 20 = .ok (.getfield 13, 3) := by decide +kernel
theorem dX7_interval_23 : decode cX7_interval 23 = .ok (.iconst 1, 1) := by decide +kernel
theorem dX7_interval_24 : decode cX7_interval 24 = .ok (.iaload, 1) := by decide +kernel
theorem dX7_interval_25 : decode cX7_interval 25 = .ok (.iload_n 1, 1) := by decide +kernel
theorem dX7_interval_26 : decode cX7_interval 26 = .ok (.invokevirtual 73, 3) := by decide +kernel
theorem dX7_interval_29 : decode cX7_interval 29 = .ok (.goto 5, 3) := by decide +kernel
theorem dX7_interval_32 : decode cX7_interval 32 = .ok (.bipush (-2), 2) := by decide +kernel
theorem dX7_interval_34 : decode cX7_interval 34 = .ok (.ireturn, 1) := by decide +kernel
theorem dX7_approximateInterval_0 : decode cX7_approximateInterval 0 = .ok (.iload_n 1, 1) := by decide +kernel
theorem dX7_approximateInterval_1 : decode cX7_approximateInterval 1 = .ok (.i2l, 1) := by decide +kernel
theorem dX7_approximateInterval_2 : decode cX7_approximateInterval 2 = .ok (.lconst 0, 1) := by decide +kernel
theorem dX7_approximateInterval_3 : decode cX7_approximateInterval 3 = .ok (.ldc2_w 106, 3) := by decide +kernel
theorem dX7_approximateInterval_6 : decode cX7_approximateInterval 6 = .ok (.invokestatic 81, 3) := by decide +kernel
theorem dX7_approximateInterval_9 : decode cX7_approximateInterval 9 = .ok (.ifCond .ne 6, 3) := by decide +kernel
theorem dX7_approximateInterval_12 : decode cX7_approximateInterval 12 = .ok (.bipush (-2), 2) := by decide +kernel
theorem dX7_approximateInterval_14 : decode cX7_approximateInterval 14 = .ok (.ireturn, 1) := by decide +kernel
theorem dX7_approximateInterval_15 : decode cX7_approximateInterval 15 = .ok (.aload_n 0, 1) := by decide +kernel
theorem dX7_approximateInterval_16 : decode cX7_approximateInterval 16 = .ok (.aload_n 0, 1) := by decide +kernel
theorem dX7_approximateInterval_17 : decode cX7_approximateInterval 17 = .ok (.getfield 13, 3) := by decide +kernel
theorem dX7_approximateInterval_20 : decode cX7_approximateInterval 20 = .ok (.iconst 0, 1) := by decide +kernel
theorem dX7_approximateInterval_21 : decode cX7_approximateInterval 21 = .ok (.iaload, 1) := by decide +kernel
theorem dX7_approximateInterval_22 : decode cX7_approximateInterval 22 = .ok (.iconst 2, 1) := by decide +kernel
theorem dX7_approximateInterval_23 : decode cX7_approximateInterval 23 = .ok (.invokevirtual 48, 3) := by decide +kernel
theorem dX7_approximateInterval_26 : decode cX7_approximateInterval 26 = .ok (.sipush 676, 3) := by decide +kernel
theorem dX7_approximateInterval_29 : decode cX7_approximateInterval 29 = .ok (.aload_n 0, 1) := by decide +kernel
theorem dX7_approximateInterval_30 : decode cX7_approximateInterval 30 = .ok (.getfield 32, 3) := by decide +kernel
theorem dX7_approximateInterval_33 : decode cX7_approximateInterval 33 = .ok (.iconst 1, 1) := by decide +kernel
theorem dX7_approximateInterval_34 : decode cX7_approximateInterval 34 = .ok (.iaload, 1) := by decide +kernel
theorem dX7_approximateInterval_35 : decode cX7_approximateInterval 35 = .ok (.imul, 1) := by decide +kernel
theorem dX7_approximateInterval_36 : decode cX7_approximateInterval 36 = .ok (.sipush 1000, 3) := by decide +kernel
theorem dX7_approximateInterval_39 : decode cX7_approximateInterval 39 = .ok (.idiv, 1) := by decide +kernel
theorem dX7_approximateInterval_40 : decode cX7_approximateInterval 40 = .ok (.istore_n 2, 1) := by decide +kernel
theorem dX7_approximateInterval_41 : decode cX7_approximateInterval 41 = .ok (.iconst 0, 1) := by decide +kernel
theorem dX7_approximateInterval_42 : decode cX7_approximateInterval 42 = .ok (.istore_n 3, 1) := by decide +kernel
theorem dX7_approximateInterval_43 : decode cX7_approximateInterval 43 = .ok (.iconst 1, 1) := by decide +kernel
theorem dX7_approximateInterval_44 : decode cX7_approximateInterval 44 = .ok (.istore 4, 2) := by decide +kernel
theorem dX7_approximateInterval_46 : decode cX7_approximateInterval 46 = .ok (.iload 4, 2) := by decide +kernel
theorem dX7_approximateInterval_48 : decode cX7_approximateInterval 48 = .ok (.iload_n 1, 1) := by decide +kernel
theorem dX7_approximateInterval_49 : decode cX7_approximateInterval 49 = .ok (.if_icmp .gt 38, 3) := by decide +kernel
theorem dX7_approximateInterval_52 : decode cX7_approximateInterval 52 = .ok (.iconst 2, 1) := by decide +kernel
theorem dX7_approximateInterval_53 : decode cX7_approximateInterval 53 = .ok (.iload_n 2, 1) := by decide +kernel
theorem dX7_approximateInterval_54 : decode cX7_approximateInterval 54 = .ok (.imul, 1) := by decide +kernel
theorem dX7_approximateInterval_55 : decode cX7_approximateInterval 55 = .ok (.iload_n 3, 1) := by decide +kernel
theorem dX7_approximateInterval_56 : decode cX7_approximateInterval 56 = .ok (.iadd, 1) := by decide +kernel
theorem dX7_approximateInterval_57 : decode cX7_approximateInterval 57 = .ok (.istore 5, 2) := by decide +kernel
theorem dX7_approximateInterval_59 : decode cX7_approximateInterval 59 = .ok (.iload_n 2, 1) := by decide +kernel
theorem dX7_approximateInterval_60 : decode cX7_approximateInterval 60 = .ok (.iload 5, 2) := by decide +kernel
theorem dX7_approximateInterval_62 : decode cX7_approximateInterval 62 = .ok (.iconst 4, 1) := by decide +kernel
theorem dX7_approximateInterval_63 : decode cX7_approximateInterval 63 = .ok (.iload 4, 2) := by decide +kernel
theorem dX7_approximateInterval_65 : decode cX7_approximateInterval 65 = .ok (.imul, 1) := by decide +kernel
theorem dX7_approximateInterval_66 : decode cX7_approximateInterval 66 = .ok (.iconst 1, 1) := by decide +kernel
theorem dX7_approximateInterval_67 : decode cX7_approximateInterval 67 = .ok (.iadd, 1) := by decide +kernel
theorem dX7_approximateInterval_68 : decode cX7_approximateInterval 68 = .ok (.idiv, 1) := by decide +kernel
theorem dX7_approximateInterval_69 : decode cX7_approximateInterval 69 = .ok (.isub, 1) := by decide +kernel
theorem dX7_approximateInterval_70 : decode cX7_approximateInterval 70 = .ok (.istore_n 2, 1) := by decide +kernel
theorem dX7_approximateInterval_71 : decode cX7_approximateInterval 71 = .ok (.iload 5, 2) := by decide +kernel
theorem dX7_approximateInterval_73 : decode cX7_approximateInterval 73 = .ok (.iconst 4, 1) := by decide +kernel
theorem dX7_approximateInterval_74 : decode cX7_approximateInterval 74 = .ok (.iload 4, 2) := by decide +kernel
theorem dX7_approximateInterval_76 : decode cX7_approximateInterval 76 = .ok (.imul, 1) := by decide +kernel
theorem dX7_approximateInterval_77 : decode cX7_approximateInterval 77 = .ok (.iconst 1, 1) := by decide +kernel
theorem dX7_approximateInterval_78 : decode cX7_approximateInterval 78 = .ok (.iadd, 1) := by decide +kernel
theorem dX7_approximateInterval_79 : decode cX7_approximateInterval 79 = .ok (.irem, 1) := by decide +kernel
theorem dX7_approximateInterval_80 : decode cX7_approximateInterval 80 = .ok (.istore_n 3, 1) := by decide +kernel
theorem dX7_approximateInterval_81 : decode cX7_approximateInterval 81 = .ok (.iinc 4 1, 3) := by decide +kernel
theorem dX7_approximateInterval_84 : decode cX7_approximateInterval 84 = .ok (.goto (-38), 3) := by decide +kernel
theorem dX7_approximateInterval_87 : decode cX7_approximateInterval 87 = .ok (.iload_n 2, 1) := by decide +kernel
theorem dX7_approximateInterval_88 : decode cX7_approximateInterval 88 = .ok (.ireturn, 1) := by decide +kernel
theorem dX7_note_0 : decode cX7_note 0 = .ok (.iconst 0, 1) := by decide +kernel
theorem dX7_note_1 : decode cX7_note 1 = .ok (.istore_n 1, 1) := by decide +kernel
theorem dX7_note_2 : decode cX7_note 2 = .ok (.iload_n 1, 1) := by decide +kernel
theorem dX7_note_3 : decode cX7_note 3 = .ok (.bipush 33, 2) := by decide +kernel
theorem dX7_note_5 : decode cX7_note 5 = .ok (.if_icmp .ge 29, 3) := by decide +kernel
theorem dX7_note_8 : decode cX7_note 8 = .ok (.aload_n 0, 1) := by decide +kernel
theorem dX7_note_9 : decode cX7_note 9 = .ok (.getfield 22, 3) := by decide +kernel
theorem dX7_note_12 : decode cX7_note 12 = .ok (.bipush 33, 2) := by decide +kernel
theorem dX7_note_14 : decode cX7_note 14 = .ok (.aload_n 0, 1) := by decide +kernel
theorem dX7_note_15 : decode cX7_note 15 = .ok (.getfield 138, 3) := by decide +kernel
theorem dX7_note_18 : decode cX7_note 18 = .ok (.imul, 1) := by decide +kernel
theorem dX7_note_19 : decode cX7_note 19 = .ok (.iload_n 1, 1) := by decide +kernel
theorem dX7_note_20 : decode cX7_note 20 = .ok (.iadd, 1) := by decide +kernel
theorem dX7_note_21 : decode cX7_note 21 = .ok (.aload_n 0, 1) := by decide +kernel
theorem dX7_note_22 : decode cX7_note 22 = .ok (.getfield 13, 3) := by decide +kernel
theorem dX7_note_25 : decode cX7_note 25 = .ok (.iload_n 1, 1) := by decide +kernel
theorem dX7_note_26 : decode cX7_note 26 = .ok (.iaload, 1) := by decide +kernel
theorem dX7_note_27 : decode cX7_note 27 = .ok (.iastore, 1) := by decide +kernel
theorem dX7_note_28 : decode cX7_note 28 = .ok (.iinc 1 1, 3) := by decide +kernel
theorem dX7_note_31 : decode cX7_note 31 = .ok (.goto (-29), 3) := by decide +kernel
theorem dX7_note_34 : decode cX7_note 34 = .ok (.aload_n 0, 1) := by decide +kernel
theorem dX7_note_35 : decode cX7_note 35 = .ok (.aload_n 0, 1) := by decide +kernel
theorem dX7_note_36 : decode cX7_note 36 = .ok (.getfield 138, 3) := by decide +kernel
theorem dX7_note_39 : decode cX7_note 39 = .ok (.iconst 1, 1) := by decide +kernel
theorem dX7_note_40 : decode cX7_note 40 = .ok (.iadd, 1) := by decide +kernel
theorem dX7_note_41 : decode cX7_note 41 = .ok (.bipush 14, 2) := by decide +kernel
theorem dX7_note_43 : decode cX7_note 43 = .ok (.irem, 1) := by decide +kernel
theorem dX7_note_44 : decode cX7_note 44 = .ok (.putfield 138, 3) := by decide +kernel
theorem dX7_note_47 : decode cX7_note 47 = .ok (.aload_n 0, 1) := by decide +kernel
theorem dX7_note_48 : decode cX7_note 48 = .ok (.aload_n 0, 1) := by decide +kernel
theorem dX7_note_49 : decode cX7_note 49 = .ok (.getfield 120, 3) := by decide +kernel
theorem dX7_note_52 : decode cX7_note 52 = .ok (.bipush 14, 2) := by decide +kernel
theorem dX7_note_54 : decode cX7_note 54 = .ok (.if_icmp .ge 12, 3) := by decide +kernel
theorem dX7_note_57 : decode cX7_note 57 = .ok (.aload_n 0, 1) := by decide +kernel
theorem dX7_note_58 : decode cX7_note 58 = .ok (.getfield 120, 3) := by decide +kernel
theorem dX7_note_61 : decode cX7_note 61 = .ok (.iconst 1, 1) := by decide +kernel
theorem dX7_note_62 : decode cX7_note 62 = .ok (.iadd, 1) := by decide +kernel
theorem dX7_note_63 : decode cX7_note 63 = .ok (.goto 5, 3) := by decide +kernel
theorem dX7_note_66 : decode cX7_note 66 = .ok (.bipush 14, 2) := by decide +kernel
theorem dX7_note_68 : decode cX7_note 68 = .ok (.putfield 120, 3) := by decide +kernel
theorem dX7_note_71 : decode cX7_note 71 = .ok (.return_, 1) := by decide +kernel
theorem dX7_setAcceleration_0 : decode cX7_setAcceleration 0 = .ok (.iload_n 1, 1) := by decide +kernel
theorem dX7_setAcceleration_1 : decode cX7_setAcceleration 1 = .ok (.i2l, 1) := by decide +kernel
theorem dX7_setAcceleration_2 : decode cX7_setAcceleration 2 = .ok (.lconst 1, 1) := by decide +kernel
theorem dX7_setAcceleration_3 : decode cX7_setAcceleration 3 = .ok (.ldc2_w 106, 3) := by decide +kernel
theorem dX7_setAcceleration_6 : decode cX7_setAcceleration 6 = .ok (.invokestatic 81, 3) := by decide +kernel
theorem dX7_setAcceleration_9 : decode cX7_setAcceleration 9 = .ok (.ifCond .ne 6, 3) := by decide +kernel
theorem dX7_setAcceleration_12 : decode cX7_setAcceleration 12 = .ok (.bipush (-2), 2) := by decide +kernel
theorem dX7_setAcceleration_14 : decode cX7_setAcceleration 14 = .ok (.ireturn, 1) := by decide +kernel
theorem dX7_setAcceleration_15 : decode cX7_setAcceleration 15 = .ok (.aload_n 0, 1) := by decide +kernel
theorem dX7_setAcceleration_16 : decode cX7_setAcceleration 16 = .ok (.getfield 13, 3) := by decide +kernel
theorem dX7_setAcceleration_19 : decode cX7_setAcceleration 19 = .ok (.invokestatic 127, 3) := by decide +kernel
theorem dX7_setAcceleration_22 : decode cX7_setAcceleration 22 = .ok (.ifCond .eq 6, 3) := by decide +kernel
theorem dX7_setAcceleration_25 : decode cX7_setAcceleration 25 = .ok (.bipush (-3), 2) := by decide +kernel
theorem dX7_setAcceleration_27 : decode cX7_setAcceleration 27 = .ok (.ireturn, 1) := by decide +kernel
theorem dX7_setAcceleration_28 : decode cX7_setAcceleration 28 = .ok (.aload_n 0, 1) := by decide +kernel
theorem dX7_setAcceleration_29 : decode cX7_setAcceleration 29 = .ok (.invokevirtual 141, 3) := by decide +kernel
theorem dX7_setAcceleration_32 : decode cX7_setAcceleration 32 = .ok (.aload_n 0, 1) := by decide +kernel
theorem dX7_setAcceleration_33 : decode cX7_setAcceleration 33 = .ok (.getfield 13, 3) := by decide +kernel
theorem dX7_setAcceleration_36 : decode cX7_setAcceleration 36 = .ok (.iconst 0, 1) := by decide +kernel
theorem dX7_setAcceleration_37 : decode cX7_setAcceleration 37 = .ok (.iaload, 1) := by decide +kernel
theorem dX7_setAcceleration_38 : decode cX7_setAcceleration 38 = .ok (.istore_n 2, 1) := by decide +kernel
theorem dX7_setAcceleration_39 : decode cX7_setAcceleration 39 = .ok (.aload_n 0, 1) := by decide +kernel
theorem dX7_setAcceleration_40 : decode cX7_setAcceleration 40 = .ok (.getfield 13, 3) := by decide +kernel
theorem dX7_setAcceleration_43 : decode cX7_setAcceleration 43 = .ok (.iconst 0, 1) := by decide +kernel
theorem dX7_setAcceleration_44 : decode cX7_setAcceleration 44 = .ok (.iload_n 1, 1) := by decide +kernel
theorem dX7_setAcceleration_45 : decode cX7_setAcceleration 45 = .ok (.iastore, 1) := by decide +kernel
theorem dX7_setAcceleration_46 : decode cX7_setAcceleration 46 = .ok (.iload_n 2, 1) := by decide +kernel
theorem dX7_setAcceleration_47 : decode cX7_setAcceleration 47 = .ok (.ireturn, 1) := by decide +kernel
theorem dX7_setSpeedLimit_0 : decode cX7_setSpeedLimit 0 = .ok (.iload_n 1, 1) := by decide +kernel
theorem dX7_setSpeedLimit_1 : decode cX7_setSpeedLimit 1 = .ok (.i2l, 1) := by decide +kernel
theorem dX7_setSpeedLimit_2 : decode cX7_setSpeedLimit 2 = .ok (.lconst 1, 1) := by decide +kernel
theorem dX7_setSpeedLimit_3 : decode cX7_setSpeedLimit 3 = .ok (.ldc2_w 106, 3) := by decide +kernel
theorem dX7_setSpeedLimit_6 : decode cX7_setSpeedLimit 6 = .ok (.invokestatic 81, 3) := by decide +kernel
theorem dX7_setSpeedLimit_9 : decode cX7_setSpeedLimit 9 = .ok (.ifCond .ne 6, 3) := by decide +kernel
theorem dX7_setSpeedLimit_12 : decode cX7_setSpeedLimit 12 = .ok (.bipush (-2), 2) := by decide +kernel
theorem dX7_setSpeedLimit_14 : decode cX7_setSpeedLimit 14 = .ok (.ireturn, 1) := by decide +kernel
theorem dX7_setSpeedLimit_15 : decode cX7_setSpeedLimit 15 = .ok (.aload_n 0, 1) := by decide +kernel
theorem dX7_setSpeedLimit_16 : decode cX7_setSpeedLimit 16 = .ok (.invokevirtual 141, 3) := by decide +kernel
theorem dX7_setSpeedLimit_19 : decode cX7_setSpeedLimit 19 = .ok (.aload_n 0, 1) := by decide +kernel
theorem dX7_setSpeedLimit_20 : decode cX7_setSpeedLimit 20 = .ok (.getfield 13, 3) := by decide +kernel
theorem dX7_setSpeedLimit_23 : decode cX7_setSpeedLimit 23 = .ok (.iconst 1, 1) := by decide +kernel
theorem dX7_setSpeedLimit_24 : decode cX7_setSpeedLimit 24 = .ok (.iaload, 1) := by decide +kernel
theorem dX7_setSpeedLimit_25 : decode cX7_setSpeedLimit 25 = .ok (.istore_n 2, 1) := by decide +kernel
theorem dX7_setSpeedLimit_26 : decode cX7_setSpeedLimit 26 = .ok (.aload_n 0, 1) := by decide +kernel
theorem dX7_setSpeedLimit_27 : decode cX7_setSpeedLimit 27 = .ok (.getfield 13, 3) := by decide +kernel
theorem dX7_setSpeedLimit_30 : decode cX7_setSpeedLimit 30 = .ok (.iconst 1, 1) := by decide +kernel
theorem dX7_setSpeedLimit_31 : decode cX7_setSpeedLimit 31 = .ok (.iload_n 1, 1) := by decide +kernel
theorem dX7_setSpeedLimit_32 : decode cX7_setSpeedLimit 32 = .ok (.iastore, 1) := by decide +kernel
theorem dX7_setSpeedLimit_33 : decode cX7_setSpeedLimit 33 = .ok (.iload_n 2, 1) := by decide +kernel
theorem dX7_setSpeedLimit_34 : decode cX7_setSpeedLimit 34 = .ok (.ireturn, 1) := by decide +kernel
theorem dX7_addItem_0 : decode cX7_addItem 0 = .ok (.aload_n 0, 1) := by decide +kernel
theorem dX7_addItem_1 : decode cX7_addItem 1 = .ok (.getfield 13, 3) := by decide +kernel
theorem dX7_addItem_4 : decode cX7_addItem 4 = .ok (.iconst 5, 1) := by decide +kernel
theorem dX7_addItem_5 : decode cX7_addItem 5 = .ok (.iaload, 1) := by decide +kernel
theorem dX7_addItem_6 : decode cX7_addItem 6 = .ok (.bipush 8, 2) := by decide +kernel
theorem dX7_addItem_8 : decode cX7_addItem 8 = .ok (.if_icmp .ne 6, 3) := by decide +kernel
theorem dX7_addItem_11 : decode cX7_addItem 11 = .ok (.bipush (-4), 2) := by decide +kernel
theorem dX7_addItem_13 : decode cX7_addItem 13 = .ok (.ireturn, 1) := by decide +kernel
theorem dX7_addItem_14 : decode cX7_addItem 14 = .ok (.aload_n 0, 1) := by decide +kernel
theorem dX7_addItem_15 : decode cX7_addItem 15 = .ok (.invokevirtual 141, 3) := by decide +kernel
theorem dX7_addItem_18 : decode cX7_addItem 18 = .ok (.bipush 9, 2) := by decide +kernel
theorem dX7_addItem_20 : decode cX7_addItem 20 = .ok (.iconst 3, 1) := by decide +kernel
theorem dX7_addItem_21 : decode cX7_addItem 21 = .ok (.aload_n 0, 1) := by decide +kernel
theorem dX7_addItem_22 : decode cX7_addItem 22 = .ok (.getfield 13, 3) := by decide +kernel
theorem dX7_addItem_25 : decode cX7_addItem 25 = .ok (.iconst 5, 1) := by decide +kernel
theorem dX7_addItem_26 : decode cX7_addItem 26 = .ok (.iaload, 1) := by decide +kernel
theorem dX7_addItem_27 : decode cX7_addItem 27 = .ok (.imul, 1) := by decide +kernel
theorem dX7_addItem_28 : decode cX7_addItem 28 = .ok (.iadd, 1) := by decide +kernel
theorem dX7_addItem_29 : decode cX7_addItem 29 = .ok (.istore 4, 2) := by decide +kernel
theorem dX7_addItem_31 : decode cX7_addItem 31 = .ok (.aload_n 0, 1) := by decide +kernel
theorem dX7_addItem_32 : decode cX7_addItem 32 = .ok (.getfield 13, 3) := by decide +kernel
theorem dX7_addItem_35 : decode cX7_addItem 35 = .ok (.iload 4, 2) := by decide +kernel
theorem dX7_addItem_37 : decode cX7_addItem 37 = .ok (.iload_n 1, 1) := by decide +kernel
theorem dX7_addItem_38 : decode cX7_addItem 38 = .ok (.iastore, 1) := by decide +kernel
theorem dX7_addItem_39 : decode cX7_addItem 39 = .ok (.aload_n 0, 1) := by decide +kernel
theorem dX7_addItem_40 : decode cX7_addItem 40 = .ok (.getfield 13, 3) := by decide +kernel
theorem dX7_addItem_43 : decode cX7_addItem 43 = .ok (.iload 4, 2) := by decide +kernel
theorem dX7_addItem_45 : decode cX7_addItem 45 = .ok (.iconst 1, 1) := by decide +kernel
theorem dX7_addItem_46 : decode cX7_addItem 46 = .ok (.iadd, 1) := by decide +kernel
theorem dX7_addItem_47 : decode cX7_addItem 47 = .ok (.iload_n 2, 1) := by decide +kernel
theorem dX7_addItem_48 : decode cX7_addItem 48 = .ok (.iastore, 1) := by decide +kernel
theorem dX7_addItem_49 : decode cX7_addItem 49 = .ok (.aload_n 0, 1) := by decide +kernel
theorem dX7_addItem_50 : decode cX7_addItem 50 = .ok (.getfield 13, 3) := by decide +kernel
theorem dX7_addItem_53 : decode cX7_addItem 53 = .ok (.iload 4, 2) := by decide +kernel
theorem dX7_addItem_55 : decode cX7_addItem 55 = .ok (.iconst 2, 1) := by decide +kernel
theorem dX7_addItem_56 : decode cX7_addItem 56 = .ok (.iadd, 1) := by decide +kernel
theorem dX7_addItem_57 : decode cX7_addItem 57 = .ok (.iload_n 3, 1) := by decide +kernel
theorem dX7_addItem_58 : decode cX7_addItem 58 = .ok (.iastore, 1) := by decide +kernel
theorem dX7_addItem_59 : decode cX7_addItem 59 = .ok (.aload_n 0, 1) := by decide +kernel
theorem dX7_addItem_60 : decode cX7_addItem 60 = .ok (.getfield 13, 3) := by decide +kernel
theorem dX7_addItem_63 : decode cX7_addItem 63 = .ok (.iconst 5, 1) := by decide +kernel
theorem dX7_addItem_64 : decode cX7_addItem 64 = .ok (.dup2, 1) := by decide +kernel
theorem dX7_addItem_65 : decode cX7_addItem 65 = .ok (.iaload, 1) := by decide +kernel
theorem dX7_addItem_66 : decode cX7_addItem 66 = .ok (.iconst 1, 1) := by decide +kernel
theorem dX7_addItem_67 : decode cX7_addItem 67 = .ok (.iadd, 1) := by decide +kernel
theorem dX7_addItem_68 : decode cX7_addItem 68 = .ok (.iastore, 1) := by decide +kernel
theorem dX7_addItem_69 : decode cX7_addItem 69 = .ok (.aload_n 0, 1) := by decide +kernel
theorem dX7_addItem_70 : decode cX7_addItem 70 = .ok (.getfield 13, 3) := by decide +kernel
theorem dX7_addItem_73 : decode cX7_addItem 73 = .ok (.iconst 5, 1) := by decide +kernel
theorem dX7_addItem_74 : decode cX7_addItem 74 = .ok (.iaload, 1) := by decide +kernel
theorem dX7_addItem_75 : decode cX7_addItem 75 = .ok (.ireturn, 1) := by decide +kernel
theorem dX7_addMove_0 : decode cX7_addMove 0 = .ok (.iload_n 1, 1) := by decide +kernel
theorem dX7_addMove_1 : decode cX7_addMove 1 = .ok (.i2l, 1) := by decide +kernel
theorem dX7_addMove_2 : decode cX7_addMove 2 = .ok (.ldc2_w 104, 3) := by decide +kernel
theorem dX7_addMove_5 : decode cX7_addMove 5 = .ok (.ldc2_w 106, 3) := by decide +kernel
theorem dX7_addMove_8 : decode cX7_addMove 8 = .ok (.invokestatic 81, 3) := by decide +kernel
theorem dX7_addMove_11 : decode cX7_addMove 11 = .ok (.ifCond .eq 25, 3) := by decide +kernel
theorem dX7_addMove_14 : decode cX7_addMove 14 = .ok (.iload_n 2, 1) := by decide +kernel
theorem dX7_addMove_15 : decode cX7_addMove 15 = .ok (.i2l, 1) := by decide +kernel
theorem dX7_addMove_16 : decode cX7_addMove 16 = .ok (.ldc2_w 104, 3) := by decide +kernel
theorem dX7_addMove_19 : decode cX7_addMove 19 = .ok (.ldc2_w 106, 3) := by decide +kernel
theorem dX7_addMove_22 : decode cX7_addMove 22 = .ok (.invokestatic 81, 3) := by decide +kernel
theorem dX7_addMove_25 : decode cX7_addMove 25 = .ok (.ifCond .eq 11, 3) := by decide +kernel
theorem dX7_addMove_28 : decode cX7_addMove 28 = .ok (.iload_n 1, 1) := by decide +kernel
theorem dX7_addMove_29 : decode cX7_addMove 29 = .ok (.ifCond .ne 10, 3) := by decide +kernel
theorem dX7_addMove_32 : decode cX7_addMove 32 = .ok (.iload_n 2, 1) := by decide +kernel
theorem dX7_addMove_33 : decode cX7_addMove 33 = .ok (.ifCond .ne 6, 3) := by decide +kernel
theorem dX7_addMove_36 : decode cX7_addMove 36 = .ok (.bipush (-2), 2) := by decide +kernel
theorem dX7_addMove_38 : decode cX7_addMove 38 = .ok (.ireturn, 1) := by decide +kernel
theorem dX7_addMove_39 : decode cX7_addMove 39 = .ok (.aload_n 0, 1) := by decide +kernel
theorem dX7_addMove_40 : decode cX7_addMove 40 = .ok (.iload_n 1, 1) := by decide +kernel
theorem dX7_addMove_41 : decode cX7_addMove 41 = .ok (.iload_n 2, 1) := by decide +kernel
theorem dX7_addMove_42 : decode cX7_addMove 42 = .ok (.iconst 0, 1) := by decide +kernel
theorem dX7_addMove_43 : decode cX7_addMove 43 = .ok (.invokevirtual 144, 3) := by decide +kernel
theorem dX7_addMove_46 : decode cX7_addMove 46 = .ok (.ireturn, 1) := by decide +kernel
theorem dX7_addWait_0 : decode cX7_addWait 0 = .ok (.iload_n 1, 1) := by decide +kernel
theorem dX7_addWait_1 : decode cX7_addWait 1 = .ok (.i2l, 1) := by decide +kernel
theorem dX7_addWait_2 : decode cX7_addWait 2 = .ok (.lconst 1, 1) := by decide +kernel
theorem dX7_addWait_3 : decode cX7_addWait 3 = .ok (.ldc2_w 147, 3) := by decide +kernel
theorem dX7_addWait_6 : decode cX7_addWait 6 = .ok (.invokestatic 81, 3) := by decide +kernel
theorem dX7_addWait_9 : decode cX7_addWait 9 = .ok (.ifCond .eq 13, 3) := by decide +kernel
theorem dX7_addWait_12 : decode cX7_addWait 12 = .ok (.aload_n 0, 1) := by decide +kernel
theorem dX7_addWait_13 : decode cX7_addWait 13 = .ok (.iconst 0, 1) := by decide +kernel
theorem dX7_addWait_14 : decode cX7_addWait 14 = .ok (.iconst 0, 1) := by decide +kernel
theorem dX7_addWait_15 : decode cX7_addWait 15 = .ok (.iload_n 1, 1) := by decide +kernel
theorem dX7_addWait_16 : decode cX7_addWait 16 = .ok (.invokevirtual 144, 3) := by decide +kernel
theorem dX7_addWait_19 : decode cX7_addWait 19 = .ok (.goto 5, 3) := by decide +kernel
theorem dX7_addWait_22 : decode cX7_addWait 22 = .ok (.bipush (-2), 2) := by decide +kernel
theorem dX7_addWait_24 : decode cX7_addWait 24 = .ok (.ireturn, 1) := by decide +kernel
theorem dX7_dropItem_0 : decode cX7_dropItem 0 = .ok (.aload_n 0, 1) := by decide +kernel
theorem dX7_dropItem_1 : decode cX7_dropItem 1 = .ok (.iconst 5, 1) := by decide +kernel
theorem dX7_dropItem_2 : decode cX7_dropItem 2 = .ok (.dup2, 1) := by decide +kernel
theorem dX7_dropItem_3 : decode cX7_dropItem 3 = .ok (.iaload, 1) := by decide +kernel
theorem dX7_dropItem_4 : decode cX7_dropItem 4 = .ok (.iconst 1, 1) := by decide +kernel
theorem dX7_dropItem_5 : decode cX7_dropItem 5 = .ok (.isub, 1) := by decide +kernel
theorem dX7_dropItem_6 : decode cX7_dropItem 6 = .ok (.iastore, 1) := by decide +kernel
theorem dX7_dropItem_7 : decode cX7_dropItem 7 = .ok (.bipush 9, 2) := by decide +kernel
theorem dX7_dropItem_9 : decode cX7_dropItem 9 = .ok (.iconst 3, 1) := by decide +kernel
theorem dX7_dropItem_10 : decode cX7_dropItem 10 = .ok (.iload_n 1, 1) := by decide +kernel
theorem dX7_dropItem_11 : decode cX7_dropItem 11 = .ok (.imul, 1) := by decide +kernel
theorem dX7_dropItem_12 : decode cX7_dropItem 12 = .ok (.iadd, 1) := by decide +kernel
theorem dX7_dropItem_13 : decode cX7_dropItem 13 = .ok (.istore_n 2, 1) := by decide +kernel
theorem dX7_dropItem_14 : decode cX7_dropItem 14 = .ok (.iload_n 2, 1) := by decide +kernel
theorem dX7_dropItem_15 : decode cX7_dropItem 15 = .ok (.bipush 9, 2) := by decide +kernel
theorem dX7_dropItem_17 : decode cX7_dropItem 17 = .ok (.iconst 3, 1) := by decide +kernel
theorem dX7_dropItem_18 : decode cX7_dropItem 18 = .ok (.aload_n 0, 1) := by decide +kernel
theorem dX7_dropItem_19 : decode cX7_dropItem 19 = .ok (.iconst 5, 1) := by decide +kernel
theorem dX7_dropItem_20 : decode cX7_dropItem 20 = .ok (.iaload, 1) := by decide +kernel
theorem dX7_dropItem_21 : decode cX7_dropItem 21 = .ok (.imul, 1) := by decide +kernel
theorem dX7_dropItem_22 : decode cX7_dropItem 22 = .ok (.iadd, 1) := by decide +kernel
theorem dX7_dropItem_23 : decode cX7_dropItem 23 = .ok (.if_icmp .ge 17, 3) := by decide +kernel
theorem dX7_dropItem_26 : decode cX7_dropItem 26 = .ok (.aload_n 0, 1) := by decide +kernel
theorem dX7_dropItem_27 : decode cX7_dropItem 27 = .ok (.iload_n 2, 1) := by decide +kernel
theorem dX7_dropItem_28 : decode cX7_dropItem 28 = .ok (.aload_n 0, 1) := by decide +kernel
theorem dX7_dropItem_29 : decode cX7_dropItem 29 = .ok (.iload_n 2, 1) := by decide +kernel
theorem dX7_dropItem_30 : decode cX7_dropItem 30 = .ok (.iconst 3, 1) := by decide +kernel
theorem dX7_dropItem_31 : decode cX7_dropItem 31 = .ok (.iadd, 1) := by decide +kernel
theorem dX7_dropItem_32 : decode cX7_dropItem 32 = .ok (.iaload, 1) := by decide +kernel
theorem dX7_dropItem_33 : decode cX7_dropItem 33 = .ok (.iastore, 1) := by decide +kernel
theorem dX7_dropItem_34 : decode cX7_dropItem 34 = .ok (.iinc 2 1, 3) := by decide +kernel
theorem dX7_dropItem_37 : decode cX7_dropItem 37 = .ok (.goto (-23), 3) := by decide +kernel
theorem dX7_dropItem_40 : decode cX7_dropItem 40 = .ok (.bipush 9, 2) := by decide +kernel
theorem dX7_dropItem_42 : decode cX7_dropItem 42 = .ok (.iconst 3, 1) := by decide +kernel
theorem dX7_dropItem_43 : decode cX7_dropItem 43 = .ok (.aload_n 0, 1) := by decide +kernel
theorem dX7_dropItem_44 : decode cX7_dropItem 44 = .ok (.iconst 5, 1) := by decide +kernel
theorem dX7_dropItem_45 : decode cX7_dropItem 45 = .ok (.iaload, 1) := by decide +kernel
theorem dX7_dropItem_46 : decode cX7_dropItem 46 = .ok (.imul, 1) := by decide +kernel
theorem dX7_dropItem_47 : decode cX7_dropItem 47 = .ok (.iadd, 1) := by decide +kernel
theorem dX7_dropItem_48 : decode cX7_dropItem 48 = .ok (.istore_n 2, 1) := by decide +kernel
theorem dX7_dropItem_49 : decode cX7_dropItem 49 = .ok (.iload_n 2, 1) := by decide +kernel
theorem dX7_dropItem_50 : decode cX7_dropItem 50 = .ok (.bipush 33, 2) := by decide +kernel
theorem dX7_dropItem_52 : decode cX7_dropItem 52 = .ok (.if_icmp .ge 13, 3) := by decide +kernel
theorem dX7_dropItem_55 : decode cX7_dropItem 55 = .ok (.aload_n 0, 1) := by decide +kernel
theorem dX7_dropItem_56 : decode cX7_dropItem 56 = .ok (.iload_n 2, 1) := by decide +kernel
theorem dX7_dropItem_57 : decode cX7_dropItem 57 = .ok (.iconst 0, 1) := by decide +kernel
theorem dX7_dropItem_58 : decode cX7_dropItem 58 = .ok (.iastore, 1) := by decide +kernel
theorem dX7_dropItem_59 : decode cX7_dropItem 59 = .ok (.iinc 2 1, 3) := by decide +kernel
theorem dX7_dropItem_62 : decode cX7_dropItem 62 = .ok (.goto (-13), 3) := by decide +kernel
theorem dX7_dropItem_65 : decode cX7_dropItem 65 = .ok (.return_, 1) := by decide +kernel
theorem dX7_endMove_0 : decode cX7_endMove 0 = .ok (.aload_n 0, 1) := by decide +kernel
theorem dX7_endMove_1 : decode cX7_endMove 1 = .ok (.iconst 0, 1) := by decide +kernel
theorem dX7_endMove_2 : decode cX7_endMove 2 = .ok (.invokestatic 149, 3) := by decide +kernel
theorem dX7_endMove_5 : decode cX7_endMove 5 = .ok (.aload_n 0, 1) := by decide +kernel
theorem dX7_endMove_6 : decode cX7_endMove 6 = .ok (.bipush 6, 2) := by decide +kernel
theorem dX7_endMove_8 : decode cX7_endMove 8 = .ok (.iconst 0, 1) := by decide +kernel
theorem dX7_endMove_9 : decode cX7_endMove 9 = .ok (.iastore, 1) := by decide +kernel
theorem dX7_endMove_10 : decode cX7_endMove 10 = .ok (.aload_n 0, 1) := by decide +kernel
theorem dX7_endMove_11 : decode cX7_endMove 11 = .ok (.bipush 7, 2) := by decide +kernel
theorem dX7_endMove_13 : decode cX7_endMove 13 = .ok (.bipush (-9), 2) := by decide +kernel
theorem dX7_endMove_15 : decode cX7_endMove 15 = .ok (.iastore, 1) := by decide +kernel
theorem dX7_endMove_16 : decode cX7_endMove 16 = .ok (.aload_n 0, 1) := by decide +kernel
theorem dX7_endMove_17 : decode cX7_endMove 17 = .ok (.bipush 8, 2) := by decide +kernel
theorem dX7_endMove_19 : decode cX7_endMove 19 = .ok (.iconst 0, 1) := by decide +kernel
theorem dX7_endMove_20 : decode cX7_endMove 20 = .ok (.iastore, 1) := by decide +kernel
theorem dX7_endMove_21 : decode cX7_endMove 21 = .ok (.return_, 1) := by decide +kernel
theorem dX7_nextIndex_0 : decode cX7_nextIndex 0 = .ok (.aload_n 1, 1) := by decide +kernel
theorem dX7_nextIndex_1 : decode cX7_nextIndex 1 = .ok (.invokestatic 127, 3) := by decide +kernel
theorem dX7_nextIndex_4 : decode cX7_nextIndex 4 = .ok (.ifCond .eq 27, 3) := by decide +kernel
theorem dX7_nextIndex_7 : decode cX7_nextIndex 7 = .ok (.aload_n 1, 1) := by decide +kernel
theorem dX7_nextIndex_8 : decode cX7_nextIndex 8 = .ok (.bipush 7, 2) := by decide +kernel
theorem dX7_nextIndex_10 : decode cX7_nextIndex 10 = .ok (.iaload, 1) := by decide +kernel
theorem dX7_nextIndex_11 : decode cX7_nextIndex 11 = .ok (.aload_n 1, 1) := by decide +kernel
theorem dX7_nextIndex_12 : decode cX7_nextIndex 12 = .ok (.bipush 8, 2) := by decide +kernel
theorem dX7_nextIndex_14 : decode cX7_nextIndex 14 = .ok (.iaload, 1) := by decide +kernel
theorem dX7_nextIndex_15 : decode cX7_nextIndex 15 = .ok (.aload_n 0, 1) := by decide +kernel
theorem dX7_nextIndex_16 : decode cX7_nextIndex 16 = .ok (.aload_n 1, 1) := by decide +kernel
theorem dX7_nextIndex_17 : decode cX7_nextIndex 17 = .ok (.iconst 0, 1) := by decide +kernel
theorem dX7_nextIndex_18 : decode cX7_nextIndex 18 = .ok (.iaload, 1) := by decide +kernel
theorem dX7_nextIndex_19 : decode cX7_nextIndex 19 = .ok (.aload_n 1, 1) := by decide +kernel
theorem dX7_nextIndex_20 : decode cX7_nextIndex 20 = .ok (.iconst 1, 1) := by decide +kernel
theorem dX7_nextIndex_21 : decode cX7_nextIndex 21 = .ok (.iaload, 1) := by decide +kernel
theorem dX7_nextIndex_22 : decode cX7_nextIndex 22 = .ok (.invokevirtual 135, 3) := by decide +kernel
theorem dX7_nextIndex_25 : decode cX7_nextIndex 25 = .ok (.invokestatic 76, 3) := by decide +kernel
theorem dX7_nextIndex_28 : decode cX7_nextIndex 28 = .ok (.goto 4, 3) := by decide +kernel
theorem dX7_nextIndex_31 : decode cX7_nextIndex 31 = .ok (.iconst 0, 1) := by decide +kernel
theorem dX7_nextIndex_32 : decode cX7_nextIndex 32 = .ok (.ireturn, 1) := by decide +kernel
theorem dX7_nextTicks_0 : decode cX7_nextTicks 0 = .ok (.aload_n 1, 1) := by decide +kernel
theorem dX7_nextTicks_1 : decode cX7_nextTicks 1 = .ok (.bipush 11, 2) := by decide +kernel
theorem dX7_nextTicks_3 : decode cX7_nextTicks 3 = .ok (.iaload, 1) := by decide +kernel
theorem dX7_nextTicks_4 : decode cX7_nextTicks 4 = .ok (.istore_n 2, 1) := by decide +kernel
theorem dX7_nextTicks_5 : decode cX7_nextTicks 5 = .ok (.iload_n 2, 1) := by decide +kernel
theorem dX7_nextTicks_6 : decode cX7_nextTicks 6 = .ok (.ifCond .le 7, 3) := by decide +kernel
theorem dX7_nextTicks_9 : decode cX7_nextTicks 9 = .ok (.iload_n 2, 1) := by decide +kernel
theorem dX7_nextTicks_10 : decode cX7_nextTicks 10 = .ok (.goto 18, 3) := by decide +kernel
theorem dX7_nextTicks_13 : decode cX7_nextTicks 13 = .ok (.aload_n 0, 1) := by decide +kernel
theorem dX7_nextTicks_14 : decode cX7_nextTicks 14 = .ok (.aload_n 1, 1) := by decide +kernel
theorem dX7_nextTicks_15 : decode cX7_nextTicks 15 = .ok (.iconst 0, 1) := by decide +kernel
theorem dX7_nextTicks_16 : decode cX7_nextTicks 16 = .ok (.iaload, 1) := by decide +kernel
theorem dX7_nextTicks_17 : decode cX7_nextTicks 17 = .ok (.aload_n 1, 1) := by decide +kernel
theorem dX7_nextTicks_18 : decode cX7_nextTicks 18 = .ok (.iconst 1, 1) := by decide +kernel
theorem dX7_nextTicks_19 : decode cX7_nextTicks 19 = .ok (.iaload, 1) := by decide +kernel
theorem dX7_nextTicks_20 : decode cX7_nextTicks 20 = .ok (.aload_n 0, 1) := by decide +kernel
theorem dX7_nextTicks_21 : decode cX7_nextTicks 21 = .ok (.aload_n 1, 1) := by decide +kernel
theorem dX7_nextTicks_22 : decode cX7_nextTicks 22 = .ok (.invokevirtual 153, 3) := by decide +kernel
theorem dX7_nextTicks_25 : decode cX7_nextTicks 25 = .ok (.invokevirtual 73, 3) := by decide +kernel
theorem dX7_nextTicks_28 : decode cX7_nextTicks 28 = .ok (.ireturn, 1) := by decide +kernel
theorem dX7_gone_0 : decode cX7_gone 0 = .ok (.iconst 2, 1) := by decide +kernel
theorem dX7_gone_1 : decode cX7_gone 1 = .ok (.iload_n 0, 1) := by decide +kernel
theorem dX7_gone_2 : decode cX7_gone 2 = .ok (.imul, 1) := by decide +kernel
theorem dX7_gone_3 : decode cX7_gone 3 = .ok (.iload_n 1, 1) := by decide +kernel
theorem dX7_gone_4 : decode cX7_gone 4 = .ok (.imul, 1) := by decide +kernel
theorem dX7_gone_5 : decode cX7_gone 5 = .ok (.iload_n 2, 1) := by decide +kernel
theorem dX7_gone_6 : decode cX7_gone 6 = .ok (.iadd, 1) := by decide +kernel
theorem dX7_gone_7 : decode cX7_gone 7 = .ok (.iconst 2, 1) := by decide +kernel
theorem dX7_gone_8 : decode cX7_gone 8 = .ok (.iload_n 2, 1) := by decide +kernel
theorem dX7_gone_9 : decode cX7_gone 9 = .ok (.imul, 1) := by decide +kernel
theorem dX7_gone_10 : decode cX7_gone 10 = .ok (.idiv, 1) := by decide +kernel
theorem dX7_gone_11 : decode cX7_gone 11 = .ok (.ireturn, 1) := by decide +kernel
theorem dX7_stepIn_0 : decode cX7_stepIn 0 = .ok (.aload_n 0, 1) := by decide +kernel
theorem dX7_stepIn_1 : decode cX7_stepIn 1 = .ok (.aload_n 1, 1) := by decide +kernel
theorem dX7_stepIn_2 : decode cX7_stepIn 2 = .ok (.invokevirtual 157, 3) := by decide +kernel
theorem dX7_stepIn_5 : decode cX7_stepIn 5 = .ok (.istore_n 2, 1) := by decide +kernel
theorem dX7_stepIn_6 : decode cX7_stepIn 6 = .ok (.aload_n 1, 1) := by decide +kernel
theorem dX7_stepIn_7 : decode cX7_stepIn 7 = .ok (.iconst 4, 1) := by decide +kernel
theorem dX7_stepIn_8 : decode cX7_stepIn 8 = .ok (.dup2, 1) := by decide +kernel
theorem dX7_stepIn_9 : decode cX7_stepIn 9 = .ok (.iaload, 1) := by decide +kernel
theorem dX7_stepIn_10 : decode cX7_stepIn 10 = .ok (.iload_n 2, 1) := by decide +kernel
theorem dX7_stepIn_11 : decode cX7_stepIn 11 = .ok (.iadd, 1) := by decide +kernel
theorem dX7_stepIn_12 : decode cX7_stepIn 12 = .ok (.iastore, 1) := by decide +kernel
theorem dX7_stepIn_13 : decode cX7_stepIn 13 = .ok (.aload_n 1, 1) := by decide +kernel
theorem dX7_stepIn_14 : decode cX7_stepIn 14 = .ok (.bipush 11, 2) := by decide +kernel
theorem dX7_stepIn_16 : decode cX7_stepIn 16 = .ok (.iaload, 1) := by decide +kernel
theorem dX7_stepIn_17 : decode cX7_stepIn 17 = .ok (.ifCond .le 10, 3) := by decide +kernel
theorem dX7_stepIn_20 : decode cX7_stepIn 20 = .ok (.aload_n 1, 1) := by decide +kernel
theorem dX7_stepIn_21 : decode cX7_stepIn 21 = .ok (.iconst 0, 1) := by decide +kernel
theorem dX7_stepIn_22 : decode cX7_stepIn 22 = .ok (.invokestatic 149, 3) := by decide +kernel
theorem dX7_stepIn_25 : decode cX7_stepIn 25 = .ok (.iload_n 2, 1) := by decide +kernel
theorem dX7_stepIn_26 : decode cX7_stepIn 26 = .ok (.ireturn, 1) := by decide +kernel
theorem dX7_stepIn_27 : decode cX7_stepIn 27 = .ok (.aload_n 1, 1) := by decide +kernel
theorem dX7_stepIn_28 : decode cX7_stepIn 28 = .ok (.iconst 0, 1) := by decide +kernel
theorem dX7_stepIn_29 : decode cX7_stepIn 29 = .ok (.invokestatic 131, 3) := by decide +kernel
theorem dX7_stepIn_32 : decode cX7_stepIn 32 = .ok (.istore_n 3, 1) := by decide +kernel
theorem dX7_stepIn_33 : decode cX7_stepIn 33 = .ok (.aload_n 0, 1) := by decide +kernel
theorem dX7_stepIn_34 : decode cX7_stepIn 34 = .ok (.aload_n 1, 1) := by decide +kernel
theorem dX7_stepIn_35 : decode cX7_stepIn 35 = .ok (.invokevirtual 153, 3) := by decide +kernel
theorem dX7_stepIn_38 : decode cX7_stepIn 38 = .ok (.istore 4, 2) := by decide +kernel
theorem dX7_stepIn_40 : decode cX7_stepIn 40 = .ok (.aload_n 1, 1) := by decide +kernel
theorem dX7_stepIn_41 : decode cX7_stepIn 41 = .ok (.bipush 8, 2) := by decide +kernel
theorem dX7_stepIn_43 : decode cX7_stepIn 43 = .ok (.aload_n 1, 1) := by decide +kernel
theorem dX7_stepIn_44 : decode cX7_stepIn 44 = .ok (.invokestatic 127, 3) := by decide +kernel
theorem dX7_stepIn_47 : decode cX7_stepIn 47 = .ok (.ifCond .eq 10, 3) := by decide +kernel
theorem dX7_stepIn_50 : decode cX7_stepIn 50 = .ok (.aload_n 1, 1) := by decide +kernel
theorem dX7_stepIn_51 : decode cX7_stepIn 51 = .ok (.bipush 8, 2) := by decide +kernel
theorem dX7_stepIn_53 : decode cX7_stepIn 53 = .ok (.iaload, 1) := by decide +kernel
theorem dX7_stepIn_54 : decode cX7_stepIn 54 = .ok (.goto 4, 3) := by decide +kernel
theorem dX7_stepIn_57 : decode cX7_stepIn 57 = .ok (.iload_n 3, 1) := by decide +kernel
theorem dX7_stepIn_58 : decode cX7_stepIn 58 = .ok (.iastore, 1) := by decide +kernel
theorem dX7_stepIn_59 : decode cX7_stepIn 59 = .ok (.aload_n 1, 1) := by decide +kernel
theorem dX7_stepIn_60 : decode cX7_stepIn 60 = .ok (.bipush 7, 2) := by decide +kernel
theorem dX7_stepIn_62 : decode cX7_stepIn 62 = .ok (.iload 4, 2) := by decide +kernel
theorem dX7_stepIn_64 : decode cX7_stepIn 64 = .ok (.iastore, 1) := by decide +kernel
theorem dX7_stepIn_65 : decode cX7_stepIn 65 = .ok (.iconst 0, 1) := by decide +kernel
theorem dX7_stepIn_66 : decode cX7_stepIn 66 = .ok (.istore 5, 2) := by decide +kernel
theorem dX7_stepIn_68 : decode cX7_stepIn 68 = .ok (.iload 5, 2) := by decide +kernel
theorem dX7_stepIn_70 : decode cX7_stepIn 70 = .ok (.iconst 2, 1) := by decide +kernel
theorem dX7_stepIn_71 : decode cX7_stepIn 71 = .ok (.if_icmp .ge 71, 3) := by decide +kernel
theorem dX7_stepIn_74 : decode cX7_stepIn 74 = .ok (.aload_n 1, 1) := by decide +kernel
theorem dX7_stepIn_75 : decode cX7_stepIn 75 = .ok (.bipush 9, 2) := by decide +kernel
theorem dX7_stepIn_77 : decode cX7_stepIn 77 = .ok (.iload 5, 2) := by decide +kernel
theorem dX7_stepIn_79 : decode cX7_stepIn 79 = .ok (.iadd, 1) := by decide +kernel
theorem dX7_stepIn_80 : decode cX7_stepIn 80 = .ok (.iaload, 1) := by decide +kernel
theorem dX7_stepIn_81 : decode cX7_stepIn 81 = .ok (.istore 6, 2) := by decide +kernel
theorem dX7_stepIn_83 : decode cX7_stepIn 83 = .ok (.aload_n 1, 1) := by decide +kernel
theorem dX7_stepIn_84 : decode cX7_stepIn 84 = .ok (.bipush 6, 2) := by decide +kernel
theorem dX7_stepIn_86 : decode cX7_stepIn 86 = .ok (.iaload, 1) := by decide +kernel
theorem dX7_stepIn_87 : decode cX7_stepIn 87 = .ok (.iconst 1, 1) := by decide +kernel
theorem dX7_stepIn_88 : decode cX7_stepIn 88 = .ok (.iadd, 1) := by decide +kernel
theorem dX7_stepIn_89 : decode cX7_stepIn 89 = .ok (.iload 6, 2) := by decide +kernel
theorem dX7_stepIn_91 : decode cX7_stepIn 91 = .ok (.invokestatic 124, 3) := by decide +kernel
theorem dX7_stepIn_94 : decode cX7_stepIn 94 = .ok (.iload_n 3, 1) := by decide +kernel
theorem dX7_stepIn_95 : decode cX7_stepIn 95 = .ok (.invokestatic 160, 3) := by decide +kernel
theorem dX7_stepIn_98 : decode cX7_stepIn 98 = .ok (.aload_n 1, 1) := by decide +kernel
theorem dX7_stepIn_99 : decode cX7_stepIn 99 = .ok (.bipush 6, 2) := by decide +kernel
theorem dX7_stepIn_101 : decode cX7_stepIn 101 = .ok (.iaload, 1) := by decide +kernel
theorem dX7_stepIn_102 : decode cX7_stepIn 102 = .ok (.iload 6, 2) := by decide +kernel
theorem dX7_stepIn_104 : decode cX7_stepIn 104 = .ok (.invokestatic 124, 3) := by decide +kernel
theorem dX7_stepIn_107 : decode cX7_stepIn 107 = .ok (.iload_n 3, 1) := by decide +kernel
theorem dX7_stepIn_108 : decode cX7_stepIn 108 = .ok (.invokestatic 160, 3) := by decide +kernel
theorem dX7_stepIn_111 : decode cX7_stepIn 111 = .ok (.isub, 1) := by decide +kernel
theorem dX7_stepIn_112 : decode cX7_stepIn 112 = .ok (.istore 7, 2) := by decide +kernel
theorem dX7_stepIn_114 : decode cX7_stepIn 114 = .ok (.aload_n 1, 1) := by decide +kernel
theorem dX7_stepIn_115 : decode cX7_stepIn 115 = .ok (.iconst 2, 1) := by decide +kernel
theorem dX7_stepIn_116 : decode cX7_stepIn 116 = .ok (.iload 5, 2) := by decide +kernel
theorem dX7_stepIn_118 : decode cX7_stepIn 118 = .ok (.iadd, 1) := by decide +kernel
theorem dX7_stepIn_119 : decode cX7_stepIn 119 = .ok (.dup2, 1) := by decide +kernel
theorem dX7_stepIn_120 : decode cX7_stepIn 120 = .ok (.iaload, 1) := by decide +kernel
theorem dX7_stepIn_121 : decode cX7_stepIn 121 = .ok (.iload 6, 2) := by decide +kernel
theorem dX7_stepIn_123 : decode cX7_stepIn 123 = .ok (.ifCond .ge 9, 3) := by decide +kernel
theorem dX7_stepIn_126 : decode cX7_stepIn 126 = .ok (.iload 7, 2) := by decide +kernel
theorem dX7_stepIn_128 : decode cX7_stepIn 128 = .ok (.ineg, 1) := by decide +kernel
theorem dX7_stepIn_129 : decode cX7_stepIn 129 = .ok (.goto 5, 3) := by decide +kernel
theorem dX7_stepIn_132 : decode cX7_stepIn 132 = .ok (.iload 7, 2) := by decide +kernel
theorem dX7_stepIn_134 : decode cX7_stepIn 134 = .ok (.iadd, 1) := by decide +kernel
theorem dX7_stepIn_135 : decode cX7_stepIn 135 = .ok (.iastore, 1) := by decide +kernel
theorem dX7_stepIn_136 : decode cX7_stepIn 136 = .ok (.iinc 5 1, 3) := by decide +kernel
theorem dX7_stepIn_139 : decode cX7_stepIn 139 = .ok (.goto (-71), 3) := by decide +kernel
theorem dX7_stepIn_142 : decode cX7_stepIn 142 = .ok (.aload_n 1, 1) := by decide +kernel
theorem dX7_stepIn_143 : decode cX7_stepIn 143 = .ok (.bipush 6, 2) := by decide +kernel
theorem dX7_stepIn_145 : decode cX7_stepIn 145 = .ok (.dup2, 1) := by decide +kernel
theorem dX7_stepIn_146 : decode cX7_stepIn 146 = .ok (.iaload, 1) := by decide +kernel
theorem dX7_stepIn_147 : decode cX7_stepIn 147 = .ok (.iconst 1, 1) := by decide +kernel
theorem dX7_stepIn_148 : decode cX7_stepIn 148 = .ok (.iadd, 1) := by decide +kernel
theorem dX7_stepIn_149 : decode cX7_stepIn 149 = .ok (.iastore, 1) := by decide +kernel
theorem dX7_stepIn_150 : decode cX7_stepIn 150 = .ok (.aload_n 1, 1) := by decide +kernel
theorem dX7_stepIn_151 : decode cX7_stepIn 151 = .ok (.bipush 8, 2) := by decide +kernel
theorem dX7_stepIn_153 : decode cX7_stepIn 153 = .ok (.dup2, 1) := by decide +kernel
theorem dX7_stepIn_154 : decode cX7_stepIn 154 = .ok (.iaload, 1) := by decide +kernel
theorem dX7_stepIn_155 : decode cX7_stepIn 155 = .ok (.iconst 1, 1) := by decide +kernel
theorem dX7_stepIn_156 : decode cX7_stepIn 156 = .ok (.isub, 1) := by decide +kernel
theorem dX7_stepIn_157 : decode cX7_stepIn 157 = .ok (.iastore, 1) := by decide +kernel
theorem dX7_stepIn_158 : decode cX7_stepIn 158 = .ok (.aload_n 1, 1) := by decide +kernel
theorem dX7_stepIn_159 : decode cX7_stepIn 159 = .ok (.bipush 8, 2) := by decide +kernel
theorem dX7_stepIn_161 : decode cX7_stepIn 161 = .ok (.iaload, 1) := by decide +kernel
theorem dX7_stepIn_162 : decode cX7_stepIn 162 = .ok (.ifCond .ne 7, 3) := by decide +kernel
theorem dX7_stepIn_165 : decode cX7_stepIn 165 = .ok (.aload_n 1, 1) := by decide +kernel
theorem dX7_stepIn_166 : decode cX7_stepIn 166 = .ok (.invokestatic 163, 3) := by decide +kernel
theorem dX7_stepIn_169 : decode cX7_stepIn 169 = .ok (.iload_n 2, 1) := by decide +kernel
theorem dX7_stepIn_170 : decode cX7_stepIn 170 = .ok (.ireturn, 1) := by decide +kernel
theorem dX7_step_0 : decode cX7_step 0 = .ok (.aload_n 0, 1) := by decide +kernel
theorem dX7_step_1 : decode cX7_step 1 = .ok (.getfield 13, 3) := by decide +kernel
theorem dX7_step_4 : decode cX7_step 4 = .ok (.iconst 5, 1) := by decide +kernel
theorem dX7_step_5 : decode cX7_step 5 = .ok (.iaload, 1) := by decide +kernel
theorem dX7_step_6 : decode cX7_step 6 = .ok (.ifCond .ne 6, 3) := by decide +kernel
theorem dX7_step_9 : decode cX7_step 9 = .ok (.bipush (-3), 2) := by decide +kernel
theorem dX7_step_11 : decode cX7_step 11 = .ok (.ireturn, 1) := by decide +kernel
theorem dX7_step_12 : decode cX7_step 12 = .ok (.aload_n 0, 1) := by decide +kernel
theorem dX7_step_13 : decode cX7_step 13 = .ok (.invokevirtual 141, 3) := by decide +kernel
theorem dX7_step_16 : decode cX7_step 16 = .ok (.aload_n 0, 1) := by decide +kernel
theorem dX7_step_17 : decode cX7_step 17 = .ok (.aload_n 0, 1) := by decide +kernel
theorem dX7_step_18 : decode cX7_step 18 = .ok (.getfield 13, 3) := by decide +kernel
theorem dX7_step_21 : decode cX7_step 21 = .ok (.invokevirtual 167, 3) := by decide +kernel
theorem dX7_step_24 : decode cX7_step 24 = .ok (.ireturn, 1) := by decide +kernel
theorem dX7_runIn_0 : decode cX7_runIn 0 = .ok (.iconst 0, 1) := by decide +kernel
theorem dX7_runIn_1 : decode cX7_runIn 1 = .ok (.istore_n 3, 1) := by decide +kernel
theorem dX7_runIn_2 : decode cX7_runIn 2 = .ok (.iload_n 2, 1) := by decide +kernel
theorem dX7_runIn_3 : decode cX7_runIn 3 = .ok (.istore 4, 2) := by decide +kernel
theorem dX7_runIn_5 : decode cX7_runIn 5 = .ok (.aload_n 1, 1) := by decide +kernel
theorem dX7_runIn_6 : decode cX7_runIn 6 = .ok (.iconst 5, 1) := by decide +kernel
theorem dX7_runIn_7 : decode cX7_runIn 7 = .ok (.iaload, 1) := by decide +kernel
theorem dX7_runIn_8 : decode cX7_runIn 8 = .ok (.ifCond .le 29, 3) := by decide +kernel
theorem dX7_runIn_11 : decode cX7_runIn 11 = .ok (.aload_n 0, 1) := by decide +kernel
theorem dX7_runIn_12 : decode cX7_runIn 12 = .ok (.aload_n 1, 1) := by decide +kernel
theorem dX7_runIn_13 : decode cX7_runIn 13 = .ok (.invokevirtual 157, 3) := by decide +kernel
theorem dX7_runIn_16 : decode cX7_runIn 16 = .ok (.iload 4, 2) := by decide +kernel
theorem dX7_runIn_18 : decode cX7_runIn 18 = .ok (.if_icmp .gt 19, 3) := by decide +kernel
theorem dX7_runIn_21 : decode cX7_runIn 21 = .ok (.iload 4, 2) := by decide +kernel
theorem dX7_runIn_23 : decode cX7_runIn 23 = .ok (.aload_n 0, 1) := by decide +kernel
theorem dX7_runIn_24 : decode cX7_runIn 24 = .ok (.aload_n 1, 1) := by decide +kernel
theorem dX7_runIn_25 : decode cX7_runIn 25 = .ok (.invokevirtual 167, 3) := by decide +kernel
theorem dX7_runIn_28 : decode cX7_runIn 28 = .ok (.isub, 1) := by decide +kernel
theorem dX7_runIn_29 : decode cX7_runIn 29 = .ok (.istore 4, 2) := by decide +kernel
theorem dX7_runIn_31 : decode cX7_runIn 31 = .ok (.iinc 3 1, 3) := by decide +kernel
theorem dX7_runIn_34 : decode cX7_runIn 34 = .ok (.goto (-29), 3) := by decide +kernel
theorem dX7_runIn_37 : decode cX7_runIn 37 = .ok (.iload_n 3, 1) := by decide +kernel
theorem dX7_runIn_38 : decode cX7_runIn 38 = .ok (.ireturn, 1) := by decide +kernel
theorem dX7_run_0 : decode cX7_run 0 = .ok (.iload_n 1, 1) := by decide +kernel
theorem dX7_run_1 : decode cX7_run 1 = .ok (.i2l, 1) := by decide +kernel
theorem dX7_run_2 : decode cX7_run 2 = .ok (.lconst 1, 1) := by decide +kernel
theorem dX7_run_3 : decode cX7_run 3 = .ok (.ldc2_w 170, 3) := by decide +kernel
theorem dX7_run_6 : decode cX7_run 6 = .ok (.invokestatic 81, 3) := by decide +kernel
theorem dX7_run_9 : decode cX7_run 9 = .ok (.ifCond .ne 6, 3) := by decide +kernel
theorem dX7_run_12 : decode cX7_run 12 = .ok (.bipush (-2), 2) := by decide +kernel
theorem dX7_run_14 : decode cX7_run 14 = .ok (.ireturn, 1) := by decide +kernel
theorem dX7_run_15 : decode cX7_run 15 = .ok (.aload_n 0, 1) := by decide +kernel
theorem dX7_run_16 : decode cX7_run 16 = .ok (.getfield 13, 3) := by decide +kernel
theorem dX7_run_19 : decode cX7_run 19 = .ok (.iconst 5, 1) := by decide +kernel
theorem dX7_run_20 : decode cX7_run 20 = .ok (.iaload, 1) := by decide +kernel
theorem dX7_run_21 : decode cX7_run 21 = .ok (.ifCond .ne 6, 3) := by decide +kernel
theorem dX7_run_24 : decode cX7_run 24 = .ok (.bipush (-3), 2) := by decide +kernel
theorem dX7_run_26 : decode cX7_run 26 = .ok (.ireturn, 1) := by decide +kernel
theorem dX7_run_27 : decode cX7_run 27 = .ok (.aload_n 0, 1) := by decide +kernel
theorem dX7_run_28 : decode cX7_run 28 = .ok (.invokevirtual 141, 3) := by decide +kernel
theorem dX7_run_31 : decode cX7_run 31 = .ok (.aload_n 0, 1) := by decide +kernel
theorem dX7_run_32 : decode cX7_run 32 = .ok (.aload_n 0, 1) := by decide +kernel
theorem dX7_run_33 : decode cX7_run 33 = .ok (.getfield 13, 3) := by decide +kernel
theorem dX7_run_36 : decode cX7_run 36 = .ok (.iload_n 1, 1) := by decide +kernel
theorem dX7_run_37 : decode cX7_run 37 = .ok (.invokevirtual 172, 3) := by decide +kernel
theorem dX7_run_40 : decode cX7_run 40 = .ok (.ireturn, 1) := by decide +kernel
theorem dX7_stopIn_0 : decode cX7_stopIn 0 = .ok (.aload_n 0, 1) := by decide +kernel
theorem dX7_stopIn_1 : decode cX7_stopIn 1 = .ok (.iconst 5, 1) := by decide +kernel
theorem dX7_stopIn_2 : decode cX7_stopIn 2 = .ok (.iconst 1, 1) := by decide +kernel
theorem dX7_stopIn_3 : decode cX7_stopIn 3 = .ok (.iastore, 1) := by decide +kernel
theorem dX7_stopIn_4 : decode cX7_stopIn 4 = .ok (.bipush 12, 2) := by decide +kernel
theorem dX7_stopIn_6 : decode cX7_stopIn 6 = .ok (.istore_n 1, 1) := by decide +kernel
theorem dX7_stopIn_7 : decode cX7_stopIn 7 = .ok (.iload_n 1, 1) := by decide +kernel
theorem dX7_stopIn_8 : decode cX7_stopIn 8 = .ok (.bipush 33, 2) := by decide +kernel
theorem dX7_stopIn_10 : decode cX7_stopIn 10 = .ok (.if_icmp .ge 13, 3) := by decide +kernel
theorem dX7_stopIn_13 : decode cX7_stopIn 13 = .ok (.aload_n 0, 1) := by decide +kernel
theorem dX7_stopIn_14 : decode cX7_stopIn 14 = .ok (.iload_n 1, 1) := by decide +kernel
theorem dX7_stopIn_15 : decode cX7_stopIn 15 = .ok (.iconst 0, 1) := by decide +kernel
theorem dX7_stopIn_16 : decode cX7_stopIn 16 = .ok (.iastore, 1) := by decide +kernel
theorem dX7_stopIn_17 : decode cX7_stopIn 17 = .ok (.iinc 1 1, 3) := by decide +kernel
theorem dX7_stopIn_20 : decode cX7_stopIn 20 = .ok (.goto (-13), 3) := by decide +kernel
theorem dX7_stopIn_23 : decode cX7_stopIn 23 = .ok (.aload_n 0, 1) := by decide +kernel
theorem dX7_stopIn_24 : decode cX7_stopIn 24 = .ok (.bipush 8, 2) := by decide +kernel
theorem dX7_stopIn_26 : decode cX7_stopIn 26 = .ok (.aload_n 0, 1) := by decide +kernel
theorem dX7_stopIn_27 : decode cX7_stopIn 27 = .ok (.bipush 7, 2) := by decide +kernel
theorem dX7_stopIn_29 : decode cX7_stopIn 29 = .ok (.iaload, 1) := by decide +kernel
theorem dX7_stopIn_30 : decode cX7_stopIn 30 = .ok (.iastore, 1) := by decide +kernel
theorem dX7_stopIn_31 : decode cX7_stopIn 31 = .ok (.aload_n 0, 1) := by decide +kernel
theorem dX7_stopIn_32 : decode cX7_stopIn 32 = .ok (.bipush 8, 2) := by decide +kernel
theorem dX7_stopIn_34 : decode cX7_stopIn 34 = .ok (.iaload, 1) := by decide +kernel
theorem dX7_stopIn_35 : decode cX7_stopIn 35 = .ok (.ifCond .ne 7, 3) := by decide +kernel
theorem dX7_stopIn_38 : decode cX7_stopIn 38 = .ok (.aload_n 0, 1) := by decide +kernel
theorem dX7_stopIn_39 : decode cX7_stopIn 39 = .ok (.invokestatic 163, 3) := by decide +kernel
theorem dX7_stopIn_42 : decode cX7_stopIn 42 = .ok (.aload_n 0, 1) := by decide +kernel
theorem dX7_stopIn_43 : decode cX7_stopIn 43 = .ok (.bipush 8, 2) := by decide +kernel
theorem dX7_stopIn_45 : decode cX7_stopIn 45 = .ok (.iaload, 1) := by decide +kernel
theorem dX7_stopIn_46 : decode cX7_stopIn 46 = .ok (.ireturn, 1) := by decide +kernel
theorem dX7_stop_0 : decode cX7_stop 0 = .ok (.aload_n 0, 1) := by decide +kernel
theorem dX7_stop_1 : decode cX7_stop 1 = .ok (.getfield 13, 3) := by decide +kernel
theorem dX7_stop_4 : decode cX7_stop 4 = .ok (.invokestatic 127, 3) := by decide +kernel
theorem dX7_stop_7 : decode cX7_stop 7 = .ok (.ifCond .ne 6, 3) := by decide +kernel
theorem dX7_stop_10 : decode cX7_stop 10 = .ok (.bipush (-3), 2) := by decide +kernel
theorem dX7_stop_12 : decode cX7_stop 12 = .ok (.ireturn, 1) := by decide +kernel
theorem dX7_stop_13 : decode cX7_stop 13 = .ok (.aload_n 0, 1) := by decide +kernel
theorem dX7_stop_14 : decode cX7_stop 14 = .ok (.invokevirtual 141, 3) := by decide +kernel
theorem dX7_stop_17 : decode cX7_stop 17 = .ok (.aload_n 0, 1) := by decide +kernel
theorem dX7_stop_18 : decode cX7_stop 18 = .ok (.getfield 13, 3) := by decide +kernel
theorem dX7_stop_21 : decode cX7_stop 21 = .ok (.invokestatic 175, 3) := by decide +kernel
theorem dX7_stop_24 : decode cX7_stop 24 = .ok (.ireturn, 1) := by decide +kernel
theorem dX7_removeItem_0 : decode cX7_removeItem 0 = .ok (.iload_n 1, 1) := by decide +kernel
theorem dX7_removeItem_1 : decode cX7_removeItem 1 = .ok (.i2l, 1) := by decide +kernel
theorem dX7_removeItem_2 : decode cX7_removeItem 2 = .ok (.lconst 0, 1) := by decide +kernel
theorem dX7_removeItem_3 : decode cX7_removeItem 3 = .ok (.aload_n 0, 1) := by decide +kernel
theorem dX7_removeItem_4 : decode cX7_removeItem 4 = .ok (.getfield 13, 3) := by decide +kernel
theorem dX7_removeItem_7 : decode cX7_removeItem 7 = .ok (.iconst 5, 1) := by decide +kernel
theorem dX7_removeItem_8 : decode cX7_removeItem 8 = .ok (.iaload, 1) := by decide +kernel
theorem dX7_removeItem_9 : decode cX7_removeItem 9 = .ok (.iconst 1, 1) := by decide +kernel
theorem dX7_removeItem_10 : decode cX7_removeItem 10 = .ok (.isub, 1) := by decide +kernel
theorem dX7_removeItem_11 : decode cX7_removeItem 11 = .ok (.i2l, 1) := by decide +kernel
theorem dX7_removeItem_12 : decode cX7_removeItem 12 = .ok (.invokestatic 81, 3) := by decide +kernel
theorem dX7_removeItem_15 : decode cX7_removeItem 15 = .ok (.ifCond .ne 5, 3) := by decide +kernel
theorem dX7_removeItem_18 : decode cX7_removeItem 18 = .ok (.iconst (-1), 1) := by decide +kernel
theorem dX7_removeItem_19 : decode cX7_removeItem 19 = .ok (.ireturn, 1) := by decide +kernel
theorem dX7_removeItem_20 : decode cX7_removeItem 20 = .ok (.iload_n 1, 1) := by decide +kernel
theorem dX7_removeItem_21 : decode cX7_removeItem 21 = .ok (.ifCond .ne 16, 3) := by decide +kernel
theorem dX7_removeItem_24 : decode cX7_removeItem 24 = .ok (.aload_n 0, 1) := by decide +kernel
theorem dX7_removeItem_25 : decode cX7_removeItem 25 = .ok (.getfield 13, 3) := by decide +kernel
theorem dX7_removeItem_28 : decode cX7_removeItem 28 = .ok (.invokestatic 127, 3) := by decide +kernel
theorem dX7_removeItem_31 : decode cX7_removeItem 31 = .ok (.ifCond .eq 6, 3) := by decide +kernel
theorem dX7_removeItem_34 : decode cX7_removeItem 34 = .ok (.bipush (-3), 2) := by decide +kernel
theorem dX7_removeItem_36 : decode cX7_removeItem 36 = .ok (.ireturn, 1) := by decide +kernel
theorem dX7_removeItem_37 : decode cX7_removeItem 37 = .ok (.aload_n 0, 1) := by decide +kernel
theorem dX7_removeItem_38 : decode cX7_removeItem 38 = .ok (.invokevirtual 141, 3) := by decide +kernel
theorem dX7_removeItem_41 : decode cX7_removeItem 41 = .ok (.aload_n 0, 1) := by decide +kernel
theorem dX7_removeItem_42 : decode cX7_removeItem 42 = .ok (.getfield 13, 3) := by decide +kernel
theorem dX7_removeItem_45 : decode cX7_removeItem 45 = .ok (.iload_n 1, 1) := by decide +kernel
theorem dX7_removeItem_46 : decode cX7_removeItem 46 = .ok (.invokestatic 149, 3) := by decide +kernel
theorem dX7_removeItem_49 : decode cX7_removeItem 49 = .ok (.aload_n 0, 1) := by decide +kernel
theorem dX7_removeItem_50 : decode cX7_removeItem 50 = .ok (.getfield 13, 3) := by decide +kernel
theorem dX7_removeItem_53 : decode cX7_removeItem 53 = .ok (.iconst 5, 1) := by decide +kernel
theorem dX7_removeItem_54 : decode cX7_removeItem 54 = .ok (.iaload, 1) := by decide +kernel
theorem dX7_removeItem_55 : decode cX7_removeItem 55 = .ok (.ireturn, 1) := by decide +kernel
theorem dX7_undo_0 : decode cX7_undo 0 = .ok (.aload_n 0, 1) := by decide +kernel
theorem dX7_undo_1 : decode cX7_undo 1 = .ok (.getfield 120, 3) := by decide +kernel
theorem dX7_undo_4 : decode cX7_undo 4 = .ok (.ifCond .ne 6, 3) := by decide +kernel
theorem dX7_undo_7 : decode cX7_undo 7 = .ok (.bipush (-3), 2) := by decide +kernel
theorem dX7_undo_9 : decode cX7_undo 9 = .ok (.ireturn, 1) := by decide +kernel
theorem dX7_undo_10 : decode cX7_undo 10 = .ok (.aload_n 0, 1) := by decide +kernel
theorem dX7_undo_11 : decode cX7_undo 11 = .ok (.dup, 1) := by decide +kernel
theorem dX7_undo_12 : decode cX7_undo 12 = .ok (.getfield 120, 3) := by decide +kernel
theorem dX7_undo_15 : decode cX7_undo 15 = .ok (.iconst 1, 1) := by decide +kernel
theorem dX7_undo_16 : decode cX7_undo 16 = .ok (.isub, 1) := by decide +kernel
theorem dX7_undo_17 : decode cX7_undo 17 = .ok (.putfield 120, 3) := by decide +kernel
theorem dX7_undo_20 : decode cX7_undo 20 = .ok (.aload_n 0, 1) := by decide +kernel
theorem dX7_undo_21 : decode cX7_undo 21 = .ok (.aload_n 0, 1) := by decide +kernel
theorem dX7_undo_22 : decode cX7_undo 22 = .ok (.getfield 138, 3) := by decide +kernel
theorem dX7_undo_25 : decode cX7_undo 25 = .ok (.bipush 14, 2) := by decide +kernel
theorem dX7_undo_27 : decode cX7_undo 27 = .ok (.iadd, 1) := by decide +kernel
theorem dX7_undo_28 : decode cX7_undo 28 = .ok (.iconst 1, 1) := by decide +kernel
theorem dX7_undo_29 : decode cX7_undo 29 = .ok (.isub, 1) := by decide +kernel
theorem dX7_undo_30 : decode cX7_undo 30 = .ok (.bipush 14, 2) := by decide +kernel
theorem dX7_undo_32 : decode cX7_undo 32 = .ok (.irem, 1) := by decide +kernel
theorem dX7_undo_33 : decode cX7_undo 33 = .ok (.putfield 138, 3) := by decide +kernel
theorem dX7_undo_36 : decode cX7_undo 36 = .ok (.iconst 0, 1) := by decide +kernel
theorem dX7_undo_37 : decode cX7_undo 37 = .ok (.istore_n 1, 1) := by decide +kernel
theorem dX7_undo_38 : decode cX7_undo 38 = .ok (.iload_n 1, 1) := by decide +kernel
theorem dX7_undo_39 : decode cX7_undo 39 = .ok (.bipush 33, 2) := by decide +kernel
theorem dX7_undo_41 : decode cX7_undo 41 = .ok (.if_icmp .ge 29, 3) := by decide +kernel
theorem dX7_undo_44 : decode cX7_undo 44 = .ok (.aload_n 0, 1) := by decide +kernel
theorem dX7_undo_45 : decode cX7_undo 45 = .ok (.getfield 13, 3) := by decide +kernel
theorem dX7_undo_48 : decode cX7_undo 48 = .ok (.iload_n 1, 1) := by decide +kernel
theorem dX7_undo_49 : decode cX7_undo 49 = .ok (.aload_n 0, 1) := by decide +kernel
theorem dX7_undo_50 : decode cX7_undo 50 = .ok (.getfield 22, 3) := by decide +kernel
theorem dX7_undo_53 : decode cX7_undo 53 = .ok (.bipush 33, 2) := by decide +kernel
theorem dX7_undo_55 : decode cX7_undo 55 = .ok (.aload_n 0, 1) := by decide +kernel
theorem dX7_undo_56 : decode cX7_undo 56 = .ok (.getfield 138, 3) := by decide +kernel
theorem dX7_undo_59 : decode cX7_undo 59 = .ok (.imul, 1) := by decide +kernel
theorem dX7_undo_60 : decode cX7_undo 60 = .ok (.iload_n 1, 1) := by decide +kernel
theorem dX7_undo_61 : decode cX7_undo 61 = .ok (.iadd, 1) := by decide +kernel
theorem dX7_undo_62 : decode cX7_undo 62 = .ok (.iaload, 1) := by decide +kernel
theorem dX7_undo_63 : decode cX7_undo 63 = .ok (.iastore, 1) := by decide +kernel
theorem dX7_undo_64 : decode cX7_undo 64 = .ok (.iinc 1 1, 3) := by decide +kernel
theorem dX7_undo_67 : decode cX7_undo 67 = .ok (.goto (-29), 3) := by decide +kernel
theorem dX7_undo_70 : decode cX7_undo 70 = .ok (.aload_n 0, 1) := by decide +kernel
theorem dX7_undo_71 : decode cX7_undo 71 = .ok (.getfield 120, 3) := by decide +kernel
theorem dX7_undo_74 : decode cX7_undo 74 = .ok (.ireturn, 1) := by decide +kernel
theorem dX7_ticksLeft_0 : decode cX7_ticksLeft 0 = .ok (.aload_n 0, 1) := by decide +kernel
theorem dX7_ticksLeft_1 : decode cX7_ticksLeft 1 = .ok (.getfield 13, 3) := by decide +kernel
theorem dX7_ticksLeft_4 : decode cX7_ticksLeft 4 = .ok (.aload_n 0, 1) := by decide +kernel
theorem dX7_ticksLeft_5 : decode cX7_ticksLeft 5 = .ok (.getfield 16, 3) := by decide +kernel
theorem dX7_ticksLeft_8 : decode cX7_ticksLeft 8 = .ok (.invokestatic 116, 3) := by decide +kernel
theorem dX7_ticksLeft_11 : decode cX7_ticksLeft 11 = .ok (.iconst 0, 1) := by decide +kernel
theorem dX7_ticksLeft_12 : decode cX7_ticksLeft 12 = .ok (.istore_n 1, 1) := by decide +kernel
theorem dX7_ticksLeft_13 : decode cX7_ticksLeft 13 = .ok (.aload_n 0, 1) := by decide +kernel
theorem dX7_ticksLeft_14 : decode cX7_ticksLeft 14 = .ok (.getfield 16, 3) := by decide +kernel
theorem dX7_ticksLeft_17 : decode cX7_ticksLeft 17 = .ok (.iconst 5, 1) := by decide +kernel
theorem dX7_ticksLeft_18 : decode cX7_ticksLeft 18 = .ok (.iaload, 1) := by decide +kernel
theorem dX7_ticksLeft_19 : decode cX7_ticksLeft 19 = .ok (.ifCond .le 17, 3) := by decide +kernel
theorem dX7_ticksLeft_22 : decode cX7_ticksLeft 22 = .ok (.iload_n 1, 1) := by decide +kernel
theorem dX7_ticksLeft_23 : decode cX7_ticksLeft 23 = .ok (.aload_n 0, 1) := by decide +kernel
theorem dX7_ticksLeft_24 : decode cX7_ticksLeft 24 = .ok (.aload_n 0, 1) := by decide +kernel
theorem dX7_ticksLeft_25 : decode cX7_ticksLeft 25 = .ok (.getfield 16, 3) := by decide +kernel
theorem dX7_ticksLeft_28 : decode cX7_ticksLeft 28 = .ok (.invokevirtual 167, 3) := by decide +kernel
theorem dX7_ticksLeft_31 : decode cX7_ticksLeft 31 = .ok (.iadd, 1) := by decide +kernel
theorem dX7_ticksLeft_32 : decode cX7_ticksLeft 32 = .ok (.istore_n 1, 1) := by decide +kernel
theorem dX7_ticksLeft_33 : decode cX7_ticksLeft 33 = .ok (.goto (-20), 3) := by decide +kernel
theorem dX7_ticksLeft_36 : decode cX7_ticksLeft 36 = .ok (.iload_n 1, 1) := by decide +kernel
theorem dX7_ticksLeft_37 : decode cX7_ticksLeft 37 = .ok (.ireturn, 1) := by decide +kernel
theorem dX7_moveTicks_0 : decode cX7_moveTicks 0 = .ok (.iload_n 1, 1) := by decide +kernel
theorem dX7_moveTicks_1 : decode cX7_moveTicks 1 = .ok (.i2l, 1) := by decide +kernel
theorem dX7_moveTicks_2 : decode cX7_moveTicks 2 = .ok (.lconst 1, 1) := by decide +kernel
theorem dX7_moveTicks_3 : decode cX7_moveTicks 3 = .ok (.ldc2_w 106, 3) := by decide +kernel
theorem dX7_moveTicks_6 : decode cX7_moveTicks 6 = .ok (.invokestatic 81, 3) := by decide +kernel
theorem dX7_moveTicks_9 : decode cX7_moveTicks 9 = .ok (.ifCond .eq 23, 3) := by decide +kernel
theorem dX7_moveTicks_12 : decode cX7_moveTicks 12 = .ok (.aload_n 0, 1) := by decide +kernel
theorem dX7_moveTicks_13 : decode cX7_moveTicks 13 = .ok (.aload_n 0, 1) := by decide +kernel
theorem dX7_moveTicks_14 : decode cX7_moveTicks 14 = .ok (.getfield 13, 3) := by decide +kernel
theorem dX7_moveTicks_17 : decode cX7_moveTicks 17 = .ok (.iconst 0, 1) := by decide +kernel
theorem dX7_moveTicks_18 : decode cX7_moveTicks 18 = .ok (.iaload, 1) := by decide +kernel
theorem dX7_moveTicks_19 : decode cX7_moveTicks 19 = .ok (.aload_n 0, 1) := by decide +kernel
theorem dX7_moveTicks_20 : decode cX7_moveTicks 20 = .ok (.getfield 13, 3) := by decide +kernel
theorem dX7_moveTicks_23 : decode cX7_moveTicks 23 = .ok (.iconst 1, 1) := by decide +kernel
theorem dX7_moveTicks_24 : decode cX7_moveTicks 24 = .ok (.iaload, 1) := by decide +kernel
theorem dX7_moveTicks_25 : decode cX7_moveTicks 25 = .ok (.iload_n 1, 1) := by decide +kernel
theorem dX7_moveTicks_26 : decode cX7_moveTicks 26 = .ok (.invokevirtual 178, 3) := by decide +kernel
theorem dX7_moveTicks_29 : decode cX7_moveTicks 29 = .ok (.goto 5, 3) := by decide +kernel
theorem dX7_moveTicks_32 : decode cX7_moveTicks 32 = .ok (.bipush (-2), 2) := by decide +kernel
theorem dX7_moveTicks_34 : decode cX7_moveTicks 34 = .ok (.ireturn, 1) := by decide +kernel
theorem dX7_positionAfter_0 : decode cX7_positionAfter 0 = .ok (.iload_n 1, 1) := by decide +kernel
theorem dX7_positionAfter_1 : decode cX7_positionAfter 1 = .ok (.i2l, 1) := by decide +kernel
theorem dX7_positionAfter_2 : decode cX7_positionAfter 2 = .ok (.lconst 0, 1) := by decide +kernel
theorem dX7_positionAfter_3 : decode cX7_positionAfter 3 = .ok (.lconst 1, 1) := by decide +kernel
theorem dX7_positionAfter_4 : decode cX7_positionAfter 4 = .ok (.invokestatic 81, 3) := by decide +kernel
theorem dX7_positionAfter_7 : decode cX7_positionAfter 7 = .ok (.ifCond .ne 5, 3) := by decide +kernel
theorem dX7_positionAfter_10 : decode cX7_positionAfter 10 = .ok (.iconst (-1), 1) := by decide +kernel
theorem dX7_positionAfter_11 : decode cX7_positionAfter 11 = .ok (.ireturn, 1) := by decide +kernel
theorem dX7_positionAfter_12 : decode cX7_positionAfter 12 = .ok (.iload_n 2, 1) := by decide +kernel
theorem dX7_positionAfter_13 : decode cX7_positionAfter 13 = .ok (.i2l, 1) := by decide +kernel
theorem dX7_positionAfter_14 : decode cX7_positionAfter 14 = .ok (.lconst 0, 1) := by decide +kernel
theorem dX7_positionAfter_15 : decode cX7_positionAfter 15 = .ok (.ldc2_w 170, 3) := by decide +kernel
theorem dX7_positionAfter_18 : decode cX7_positionAfter 18 = .ok (.invokestatic 81, 3) := by decide +kernel
theorem dX7_positionAfter_21 : decode cX7_positionAfter 21 = .ok (.ifCond .ne 6, 3) := by decide +kernel
theorem dX7_positionAfter_24 : decode cX7_positionAfter 24 = .ok (.bipush (-2), 2) := by decide +kernel
theorem dX7_positionAfter_26 : decode cX7_positionAfter 26 = .ok (.ireturn, 1) := by decide +kernel
theorem dX7_positionAfter_27 : decode cX7_positionAfter 27 = .ok (.aload_n 0, 1) := by decide +kernel
theorem dX7_positionAfter_28 : decode cX7_positionAfter 28 = .ok (.getfield 13, 3) := by decide +kernel
theorem dX7_positionAfter_31 : decode cX7_positionAfter 31 = .ok (.aload_n 0, 1) := by decide +kernel
theorem dX7_positionAfter_32 : decode cX7_positionAfter 32 = .ok (.getfield 16, 3) := by decide +kernel
theorem dX7_positionAfter_35 : decode cX7_positionAfter 35 = .ok (.invokestatic 116, 3) := by decide +kernel
theorem dX7_positionAfter_38 : decode cX7_positionAfter 38 = .ok (.aload_n 0, 1) := by decide +kernel
theorem dX7_positionAfter_39 : decode cX7_positionAfter 39 = .ok (.aload_n 0, 1) := by decide +kernel
theorem dX7_positionAfter_40 : decode cX7_positionAfter 40 = .ok (.getfield 16, 3) := by decide +kernel
theorem dX7_positionAfter_43 : decode cX7_positionAfter 43 = .ok (.iload_n 2, 1) := by decide +kernel
theorem dX7_positionAfter_44 : decode cX7_positionAfter 44 = .ok (.invokevirtual 172, 3) := by decide +kernel
theorem dX7_positionAfter_47 : decode cX7_positionAfter 47 = .ok (.istore_n 3, 1) := by decide +kernel
theorem dX7_positionAfter_48 : decode cX7_positionAfter 48 = .ok (.aload_n 0, 1) := by decide +kernel
theorem dX7_positionAfter_49 : decode cX7_positionAfter 49 = .ok (.getfield 16, 3) := by decide +kernel
theorem dX7_positionAfter_52 : decode cX7_positionAfter 52 = .ok (.iconst 2, 1) := by decide +kernel
theorem dX7_positionAfter_53 : decode cX7_positionAfter 53 = .ok (.iload_n 1, 1) := by decide +kernel
theorem dX7_positionAfter_54 : decode cX7_positionAfter 54 = .ok (.iadd, 1) := by decide +kernel
theorem dX7_positionAfter_55 : decode cX7_positionAfter 55 = .ok (.iaload, 1) := by decide +kernel
theorem dX7_positionAfter_56 : decode cX7_positionAfter 56 = .ok (.ldc 123, 2) := by decide +kernel
theorem dX7_positionAfter_58 : decode cX7_positionAfter 58 = .ok (.iadd, 1) := by decide +kernel
theorem dX7_positionAfter_59 : decode cX7_positionAfter 59 = .ok (.ireturn, 1) := by decide +kernel
theorem dX7_leastAcceleration_0 : decode cX7_leastAcceleration 0 = .ok (.iload_n 1, 1) := by decide +kernel
theorem dX7_leastAcceleration_1 : decode cX7_leastAcceleration 1 = .ok (.i2l, 1) := by decide +kernel
theorem dX7_leastAcceleration_2 : decode cX7_leastAcceleration 2 = .ok (.lconst 1, 1) := by decide +kernel
theorem dX7_leastAcceleration_3 : decode cX7_leastAcceleration 3 = .ok (.ldc2_w 106, 3) := by decide +kernel
theorem dX7_leastAcceleration_6 : decode cX7_leastAcceleration 6 = .ok (.invokestatic 81, 3) := by decide +kernel
theorem dX7_leastAcceleration_9 : decode cX7_leastAcceleration 9 = .ok (.ifCond .eq 15, 3) := by decide +kernel
theorem dX7_leastAcceleration_12 : decode cX7_leastAcceleration 12 = .ok (.iload_n 2, 1) := by decide +kernel
theorem dX7_leastAcceleration_13 : decode cX7_leastAcceleration 13 = .ok (.i2l, 1) := by decide +kernel
theorem dX7_leastAcceleration_14 : decode cX7_leastAcceleration 14 = .ok (.lconst 1, 1) := by decide +kernel
theorem dX7_leastAcceleration_15 : decode cX7_leastAcceleration 15 = .ok (.ldc2_w 170, 3) := by decide +kernel
theorem dX7_leastAcceleration_18 : decode cX7_leastAcceleration 18 = .ok (.invokestatic 81, 3) := by decide +kernel
theorem dX7_leastAcceleration_21 : decode cX7_leastAcceleration 21 = .ok (.ifCond .ne 6, 3) := by decide +kernel
theorem dX7_leastAcceleration_24 : decode cX7_leastAcceleration 24 = .ok (.bipush (-2), 2) := by decide +kernel
theorem dX7_leastAcceleration_26 : decode cX7_leastAcceleration 26 = .ok (.ireturn, 1) := by decide +kernel
theorem dX7_leastAcceleration_27 : decode cX7_leastAcceleration 27 = .ok (.iconst 1, 1) := by decide +kernel
theorem dX7_leastAcceleration_28 : decode cX7_leastAcceleration 28 = .ok (.istore_n 3, 1) := by decide +kernel
theorem dX7_leastAcceleration_29 : decode cX7_leastAcceleration 29 = .ok (.iload_n 3, 1) := by decide +kernel
theorem dX7_leastAcceleration_30 : decode cX7_leastAcceleration 30 = .ok (.sipush 999, 3) := by decide +kernel
theorem dX7_leastAcceleration_33 : decode cX7_leastAcceleration 33 = .ok (.if_icmp .gt 27, 3) := by decide +kernel
theorem dX7_leastAcceleration_36 : decode cX7_leastAcceleration 36 = .ok (.aload_n 0, 1) := by decide +kernel
theorem dX7_leastAcceleration_37 : decode cX7_leastAcceleration 37 = .ok (.iload_n 3, 1) := by decide +kernel
theorem dX7_leastAcceleration_38 : decode cX7_leastAcceleration 38 = .ok (.aload_n 0, 1) := by decide +kernel
theorem dX7_leastAcceleration_39 : decode cX7_leastAcceleration 39 = .ok (.getfield 13, 3) := by decide +kernel
theorem dX7_leastAcceleration_42 : decode cX7_leastAcceleration 42 = .ok (.iconst 1, 1) := by decide +kernel
theorem dX7_leastAcceleration_43 : decode cX7_leastAcceleration 43 = .ok (.iaload, 1) := by decide +kernel
theorem dX7_leastAcceleration_44 : decode cX7_leastAcceleration 44 = .ok (.iload_n 1, 1) := by decide +kernel
theorem dX7_leastAcceleration_45 : decode cX7_leastAcceleration 45 = .ok (.invokevirtual 178, 3) := by decide +kernel
theorem dX7_leastAcceleration_48 : decode cX7_leastAcceleration 48 = .ok (.iload_n 2, 1) := by decide +kernel
theorem dX7_leastAcceleration_49 : decode cX7_leastAcceleration 49 = .ok (.if_icmp .gt 5, 3) := by decide +kernel
theorem dX7_leastAcceleration_52 : decode cX7_leastAcceleration 52 = .ok (.iload_n 3, 1) := by decide +kernel
theorem dX7_leastAcceleration_53 : decode cX7_leastAcceleration 53 = .ok (.ireturn, 1) := by decide +kernel
theorem dX7_leastAcceleration_54 : decode cX7_leastAcceleration 54 = .ok (.iinc 3 1, 3) := by decide +kernel
theorem dX7_leastAcceleration_57 : decode cX7_leastAcceleration 57 = .ok (.goto (-28), 3) := by decide +kernel
theorem dX7_leastAcceleration_60 : decode cX7_leastAcceleration 60 = .ok (.bipush (-9), 2) := by decide +kernel
theorem dX7_leastAcceleration_62 : decode cX7_leastAcceleration 62 = .ok (.ireturn, 1) := by decide +kernel
theorem dX7_greatestLength_0 : decode cX7_greatestLength 0 = .ok (.iload_n 1, 1) := by decide +kernel
theorem dX7_greatestLength_1 : decode cX7_greatestLength 1 = .ok (.i2l, 1) := by decide +kernel
theorem dX7_greatestLength_2 : decode cX7_greatestLength 2 = .ok (.lconst 1, 1) := by decide +kernel
theorem dX7_greatestLength_3 : decode cX7_greatestLength 3 = .ok (.ldc2_w 170, 3) := by decide +kernel
theorem dX7_greatestLength_6 : decode cX7_greatestLength 6 = .ok (.invokestatic 81, 3) := by decide +kernel
theorem dX7_greatestLength_9 : decode cX7_greatestLength 9 = .ok (.ifCond .ne 6, 3) := by decide +kernel
theorem dX7_greatestLength_12 : decode cX7_greatestLength 12 = .ok (.bipush (-2), 2) := by decide +kernel
theorem dX7_greatestLength_14 : decode cX7_greatestLength 14 = .ok (.ireturn, 1) := by decide +kernel
theorem dX7_greatestLength_15 : decode cX7_greatestLength 15 = .ok (.sipush 999, 3) := by decide +kernel
theorem dX7_greatestLength_18 : decode cX7_greatestLength 18 = .ok (.istore_n 2, 1) := by decide +kernel
theorem dX7_greatestLength_19 : decode cX7_greatestLength 19 = .ok (.iload_n 2, 1) := by decide +kernel
theorem dX7_greatestLength_20 : decode cX7_greatestLength 20 = .ok (.ifCond .le 32, 3) := by decide +kernel
theorem dX7_greatestLength_23 : decode cX7_greatestLength 23 = .ok (.aload_n 0, 1) := by decide +kernel
theorem dX7_greatestLength_24 : decode cX7_greatestLength 24 = .ok (.aload_n 0, 1) := by decide +kernel
theorem dX7_greatestLength_25 : decode cX7_greatestLength 25 = .ok (.getfield 13, 3) := by decide +kernel
theorem dX7_greatestLength_28 : decode cX7_greatestLength 28 = .ok (.iconst 0, 1) := by decide +kernel
theorem dX7_greatestLength_29 : decode cX7_greatestLength 29 = .ok (.iaload, 1) := by decide +kernel
theorem dX7_greatestLength_30 : decode cX7_greatestLength 30 = .ok (.aload_n 0, 1) := by decide +kernel
theorem dX7_greatestLength_31 : decode cX7_greatestLength 31 = .ok (.getfield 13, 3) := by decide +kernel
theorem dX7_greatestLength_34 : decode cX7_greatestLength 34 = .ok (.iconst 1, 1) := by decide +kernel
theorem dX7_greatestLength_35 : decode cX7_greatestLength 35 = .ok (.iaload, 1) := by decide +kernel
theorem dX7_greatestLength_36 : decode cX7_greatestLength 36 = .ok (.iload_n 2, 1) := by decide +kernel
theorem dX7_greatestLength_37 : decode cX7_greatestLength 37 = .ok (.invokevirtual 178, 3) := by decide +kernel
theorem dX7_greatestLength_40 : decode cX7_greatestLength 40 = .ok (.iload_n 1, 1) := by decide +kernel
theorem dX7_greatestLength_41 : decode cX7_greatestLength 41 = .ok (.if_icmp .gt 5, 3) := by decide +kernel
theorem dX7_greatestLength_44 : decode cX7_greatestLength 44 = .ok (.iload_n 2, 1) := by decide +kernel
theorem dX7_greatestLength_45 : decode cX7_greatestLength 45 = .ok (.ireturn, 1) := by decide +kernel
theorem dX7_greatestLength_46 : decode cX7_greatestLength 46 = .ok (.iinc 2 (-1), 3) := by decide +kernel
theorem dX7_greatestLength_49 : decode cX7_greatestLength 49 = .ok (.goto (-30), 3) := by decide +kernel
theorem dX7_greatestLength_52 : decode cX7_greatestLength 52 = .ok (.bipush (-9), 2) := by decide +kernel
theorem dX7_greatestLength_54 : decode cX7_greatestLength 54 = .ok (.ireturn, 1) := by decide +kernel
theorem dX7_command_0 : decode cX7_command 0 = .ok (.iconst 0, 1) := by decide +kernel
theorem dX7_command_1 : decode cX7_command 1 = .ok (.istore_n 3, 1) := by decide +kernel
theorem dX7_command_2 : decode cX7_command 2 = .ok (.iload_n 1, 1) := by decide +kernel
theorem dX7_command_3 : decode cX7_command 3 = .ok (.tableswitch 195 1 6 #[37, 89, 104, 130, 146, 173], 37) := by decide +kernel
theorem dX7_command_40 : decode cX7_command 40 = .ok (.iload_n 2, 1) := by decide +kernel
theorem dX7_command_41 : decode cX7_command 41 = .ok (.ifCond .eq 12, 3) := by decide +kernel
theorem dX7_command_44 : decode cX7_command 44 = .ok (.aload_n 0, 1) := by decide +kernel
theorem dX7_command_45 : decode cX7_command 45 = .ok (.getfield 16, 3) := by decide +kernel
theorem dX7_command_48 : decode cX7_command 48 = .ok (.iconst 5, 1) := by decide +kernel
theorem dX7_command_49 : decode cX7_command 49 = .ok (.iaload, 1) := by decide +kernel
theorem dX7_command_50 : decode cX7_command 50 = .ok (.ifCond .ne 5, 3) := by decide +kernel
theorem dX7_command_53 : decode cX7_command 53 = .ok (.iconst 0, 1) := by decide +kernel
theorem dX7_command_54 : decode cX7_command 54 = .ok (.ireturn, 1) := by decide +kernel
theorem dX7_command_55 : decode cX7_command 55 = .ok (.iconst 0, 1) := by decide +kernel
theorem dX7_command_56 : decode cX7_command 56 = .ok (.istore 4, 2) := by decide +kernel
theorem dX7_command_58 : decode cX7_command 58 = .ok (.iload 4, 2) := by decide +kernel
theorem dX7_command_60 : decode cX7_command 60 = .ok (.iload_n 2, 1) := by decide +kernel
theorem dX7_command_61 : decode cX7_command 61 = .ok (.if_icmp .ge 29, 3) := by decide +kernel
theorem dX7_command_64 : decode cX7_command 64 = .ok (.aload_n 0, 1) := by decide +kernel
theorem dX7_command_65 : decode cX7_command 65 = .ok (.getfield 16, 3) := by decide +kernel
theorem dX7_command_68 : decode cX7_command 68 = .ok (.iconst 5, 1) := by decide +kernel
theorem dX7_command_69 : decode cX7_command 69 = .ok (.iaload, 1) := by decide +kernel
theorem dX7_command_70 : decode cX7_command 70 = .ok (.ifCond .le 20, 3) := by decide +kernel
theorem dX7_command_73 : decode cX7_command 73 = .ok (.iload_n 3, 1) := by decide +kernel
theorem dX7_command_74 : decode cX7_command 74 = .ok (.aload_n 0, 1) := by decide +kernel
theorem dX7_command_75 : decode cX7_command 75 = .ok (.aload_n 0, 1) := by decide +kernel
theorem dX7_command_76 : decode cX7_command 76 = .ok (.getfield 16, 3) := by decide +kernel
theorem dX7_command_79 : decode cX7_command 79 = .ok (.invokevirtual 167, 3) := by decide +kernel
theorem dX7_command_82 : decode cX7_command 82 = .ok (.iadd, 1) := by decide +kernel
theorem dX7_command_83 : decode cX7_command 83 = .ok (.istore_n 3, 1) := by decide +kernel
theorem dX7_command_84 : decode cX7_command 84 = .ok (.iinc 4 1, 3) := by decide +kernel
theorem dX7_command_87 : decode cX7_command 87 = .ok (.goto (-29), 3) := by decide +kernel
theorem dX7_command_90 : decode cX7_command 90 = .ok (.iconst 1, 1) := by decide +kernel
theorem dX7_command_91 : decode cX7_command 91 = .ok (.ireturn, 1) := by decide +kernel
theorem dX7_command_92 : decode cX7_command 92 = .ok (.iload_n 2, 1) := by decide +kernel
theorem dX7_command_93 : decode cX7_command 93 = .ok (.ifCond .ne 5, 3) := by decide +kernel
theorem dX7_command_96 : decode cX7_command 96 = .ok (.iconst 0, 1) := by decide +kernel
theorem dX7_command_97 : decode cX7_command 97 = .ok (.ireturn, 1) := by decide +kernel
theorem dX7_command_98 : decode cX7_command 98 = .ok (.aload_n 0, 1) := by decide +kernel
theorem dX7_command_99 : decode cX7_command 99 = .ok (.getfield 16, 3) := by decide +kernel
theorem dX7_command_102 : decode cX7_command 102 = .ok (.iconst 1, 1) := by decide +kernel
theorem dX7_command_103 : decode cX7_command 103 = .ok (.iload_n 2, 1) := by decide +kernel
theorem dX7_command_104 : decode cX7_command 104 = .ok (.iastore, 1) := by decide +kernel
theorem dX7_command_105 : decode cX7_command 105 = .ok (.iconst 1, 1) := by decide +kernel
theorem dX7_command_106 : decode cX7_command 106 = .ok (.ireturn, 1) := by decide +kernel
theorem dX7_command_107 : decode cX7_command 107 = .ok (.iload_n 2, 1) := by decide +kernel
theorem dX7_command_108 : decode cX7_command 108 = .ok (.ifCond .ne 13, 3) := by decide +kernel
theorem dX7_command_111 : decode cX7_command 111 = .ok (.aload_n 0, 1) := by decide +kernel
theorem dX7_command_112 : decode cX7_command 112 = .ok (.getfield 16, 3) := by decide +kernel
theorem dX7_command_115 : decode cX7_command 115 = .ok (.invokestatic 127, 3) := by decide +kernel
theorem dX7_command_118 : decode cX7_command 118 = .ok (.ifCond .ne 5, 3) := by decide +kernel
theorem dX7_command_121 : decode cX7_command 121 = .ok (.iconst 0, 1) := by decide +kernel
theorem dX7_command_122 : decode cX7_command 122 = .ok (.ireturn, 1) := by decide +kernel
theorem dX7_command_123 : decode cX7_command 123 = .ok (.aload_n 0, 1) := by decide +kernel
theorem dX7_command_124 : decode cX7_command 124 = .ok (.getfield 16, 3) := by decide +kernel
theorem dX7_command_127 : decode cX7_command 127 = .ok (.invokestatic 175, 3) := by decide +kernel
theorem dX7_command_130 : decode cX7_command 130 = .ok (.istore_n 3, 1) := by decide +kernel
theorem dX7_command_131 : decode cX7_command 131 = .ok (.iconst 1, 1) := by decide +kernel
theorem dX7_command_132 : decode cX7_command 132 = .ok (.ireturn, 1) := by decide +kernel
theorem dX7_command_133 : decode cX7_command 133 = .ok (.aload_n 0, 1) := by decide +kernel
theorem dX7_command_134 : decode cX7_command 134 = .ok (.getfield 16, 3) := by decide +kernel
theorem dX7_command_137 : decode cX7_command 137 = .ok (.iconst 2, 1) := by decide +kernel
theorem dX7_command_138 : decode cX7_command 138 = .ok (.iaload, 1) := by decide +kernel
theorem dX7_command_139 : decode cX7_command 139 = .ok (.iload_n 2, 1) := by decide +kernel
theorem dX7_command_140 : decode cX7_command 140 = .ok (.if_icmp .ne 7, 3) := by decide +kernel
theorem dX7_command_143 : decode cX7_command 143 = .ok (.iconst 1, 1) := by decide +kernel
theorem dX7_command_144 : decode cX7_command 144 = .ok (.goto 4, 3) := by decide +kernel
theorem dX7_command_147 : decode cX7_command 147 = .ok (.iconst 0, 1) := by decide +kernel
theorem dX7_command_148 : decode cX7_command 148 = .ok (.ireturn, 1) := by decide +kernel
theorem dX7_command_149 : decode cX7_command 149 = .ok (.aload_n 0, 1) := by decide +kernel
theorem dX7_command_150 : decode cX7_command 150 = .ok (.getfield 16, 3) := by decide +kernel
theorem dX7_command_153 : decode cX7_command 153 = .ok (.invokestatic 127, 3) := by decide +kernel
theorem dX7_command_156 : decode cX7_command 156 = .ok (.ifCond .eq 18, 3) := by decide +kernel
theorem dX7_command_159 : decode cX7_command 159 = .ok (.aload_n 0, 1) := by decide +kernel
theorem dX7_command_160 : decode cX7_command 160 = .ok (.getfield 16, 3) := by decide +kernel
theorem dX7_command_163 : decode cX7_command 163 = .ok (.bipush 7, 2) := by decide +kernel
theorem dX7_command_165 : decode cX7_command 165 = .ok (.iaload, 1) := by decide +kernel
theorem dX7_command_166 : decode cX7_command 166 = .ok (.iload_n 2, 1) := by decide +kernel
theorem dX7_command_167 : decode cX7_command 167 = .ok (.if_icmp .ne 7, 3) := by decide +kernel
theorem dX7_command_170 : decode cX7_command 170 = .ok (.iconst 1, 1) := by decide +kernel
theorem dX7_command_171 : decode cX7_command 171 = .ok (.goto 4, 3) := by decide +kernel
theorem dX7_command_174 : decode cX7_command 174 = .ok (.iconst 0, 1) := by decide +kernel
theorem dX7_command_175 : decode cX7_command 175 = .ok (.ireturn, 1) := by decide +kernel
theorem dX7_command_176 : decode cX7_command 176 = .ok (.iload_n 2, 1) := by decide +kernel
theorem dX7_command_177 : decode cX7_command 177 = .ok (.bipush 10, 2) := by decide +kernel
theorem dX7_command_179 : decode cX7_command 179 = .ok (.if_icmp .ge 17, 3) := by decide +kernel
theorem dX7_command_182 : decode cX7_command 182 = .ok (.aload_n 0, 1) := by decide +kernel
theorem dX7_command_183 : decode cX7_command 183 = .ok (.getfield 16, 3) := by decide +kernel
theorem dX7_command_186 : decode cX7_command 186 = .ok (.iconst 5, 1) := by decide +kernel
theorem dX7_command_187 : decode cX7_command 187 = .ok (.iaload, 1) := by decide +kernel
theorem dX7_command_188 : decode cX7_command 188 = .ok (.iload_n 2, 1) := by decide +kernel
theorem dX7_command_189 : decode cX7_command 189 = .ok (.if_icmp .ne 7, 3) := by decide +kernel
theorem dX7_command_192 : decode cX7_command 192 = .ok (.iconst 1, 1) := by decide +kernel
theorem dX7_command_193 : decode cX7_command 193 = .ok (.goto 4, 3) := by decide +kernel
theorem dX7_command_196 : decode cX7_command 196 = .ok (.iconst 0, 1) := by decide +kernel
theorem dX7_command_197 : decode cX7_command 197 = .ok (.ireturn, 1) := by decide +kernel
theorem dX7_command_198 : decode cX7_command 198 = .ok (.iconst 0, 1) := by decide +kernel
theorem dX7_command_199 : decode cX7_command 199 = .ok (.ireturn, 1) := by decide +kernel
theorem dX7_tenThousands_0 : decode cX7_tenThousands 0 = .ok (.lconst 1, 1) := by decide +kernel
theorem dX7_tenThousands_1 : decode cX7_tenThousands 1 = .ok (.lstore_n 1, 1) := by decide +kernel
theorem dX7_tenThousands_2 : decode cX7_tenThousands 2 = .ok (.iconst 0, 1) := by decide +kernel
theorem dX7_tenThousands_3 : decode cX7_tenThousands 3 = .ok (.istore_n 3, 1) := by decide +kernel
theorem dX7_tenThousands_4 : decode cX7_tenThousands 4 = .ok (.iload_n 3, 1) := by decide +kernel
theorem dX7_tenThousands_5 : decode cX7_tenThousands 5 = .ok (.iload_n 0, 1) := by decide +kernel
theorem dX7_tenThousands_6 : decode cX7_tenThousands 6 = .ok (.if_icmp .ge 15, 3) := by decide +kernel
theorem dX7_tenThousands_9 : decode cX7_tenThousands 9 = .ok (.lload_n 1, 1) := by decide +kernel
theorem dX7_tenThousands_10 : decode cX7_tenThousands 10 = .ok (.ldc2_w 181, 3) := by decide +kernel
theorem dX7_tenThousands_13 : decode cX7_tenThousands 13 = .ok (.lmul, 1) := by decide +kernel
theorem dX7_tenThousands_14 : decode cX7_tenThousands 14 = .ok (.lstore_n 1, 1) := by decide +kernel
theorem dX7_tenThousands_15 : decode cX7_tenThousands 15 = .ok (.iinc 3 1, 3) := by decide +kernel
theorem dX7_tenThousands_18 : decode cX7_tenThousands 18 = .ok (.goto (-14), 3) := by decide +kernel
theorem dX7_tenThousands_21 : decode cX7_tenThousands 21 = .ok (.lload_n 1, 1) := by decide +kernel
theorem dX7_tenThousands_22 : decode cX7_tenThousands 22 = .ok (.lreturn, 1) := by decide +kernel
theorem dX7_runScript_0 : decode cX7_runScript 0 = .ok (.iload_n 1, 1) := by decide +kernel
theorem dX7_runScript_1 : decode cX7_runScript 1 = .ok (.i2l, 1) := by decide +kernel
theorem dX7_runScript_2 : decode cX7_runScript 2 = .ok (.lconst 1, 1) := by decide +kernel
theorem dX7_runScript_3 : decode cX7_runScript 3 = .ok (.ldc2_w 183, 3) := by decide +kernel
theorem dX7_runScript_6 : decode cX7_runScript 6 = .ok (.invokestatic 81, 3) := by decide +kernel
theorem dX7_runScript_9 : decode cX7_runScript 9 = .ok (.ifCond .eq 17, 3) := by decide +kernel
theorem dX7_runScript_12 : decode cX7_runScript 12 = .ok (.lload_n 2, 1) := by decide +kernel
theorem dX7_runScript_13 : decode cX7_runScript 13 = .ok (.lconst 0, 1) := by decide +kernel
theorem dX7_runScript_14 : decode cX7_runScript 14 = .ok (.iload_n 1, 1) := by decide +kernel
theorem dX7_runScript_15 : decode cX7_runScript 15 = .ok (.invokestatic 185, 3) := by decide +kernel
theorem dX7_runScript_18 : decode cX7_runScript 18 = .ok (.lconst 1, 1) := by decide +kernel
theorem dX7_runScript_19 : decode cX7_runScript 19 = .ok (.lsub, 1) := by decide +kernel
theorem dX7_runScript_20 : decode cX7_runScript 20 = .ok (.invokestatic 81, 3) := by decide +kernel
theorem dX7_runScript_23 : decode cX7_runScript 23 = .ok (.ifCond .ne 6, 3) := by decide +kernel
theorem dX7_runScript_26 : decode cX7_runScript 26 = .ok (.bipush (-2), 2) := by decide +kernel
theorem dX7_runScript_28 : decode cX7_runScript 28 = .ok (.ireturn, 1) := by decide +kernel
theorem dX7_runScript_29 : decode cX7_runScript 29 = .ok (.aload_n 0, 1) := by decide +kernel
theorem dX7_runScript_30 : decode cX7_runScript 30 = .ok (.getfield 13, 3) := by decide +kernel
theorem dX7_runScript_33 : decode cX7_runScript 33 = .ok (.aload_n 0, 1) := by decide +kernel
theorem dX7_runScript_34 : decode cX7_runScript 34 = .ok (.getfield 16, 3) := by decide +kernel
theorem dX7_runScript_37 : decode cX7_runScript 37 = .ok (.invokestatic 116, 3) := by decide +kernel
theorem dX7_runScript_40 : decode cX7_runScript 40 = .ok (.iconst 0, 1) := by decide +kernel
theorem dX7_runScript_41 : decode cX7_runScript 41 = .ok (.istore 4, 2) := by decide +kernel
theorem dX7_runScript_43 : decode cX7_runScript 43 = .ok (.iload 4, 2) := by decide +kernel
theorem dX7_runScript_45 : decode cX7_runScript 45 = .ok (.iload_n 1, 1) := by decide +kernel
theorem dX7_runScript_46 : decode cX7_runScript 46 = .ok (.if_icmp .ge 49, 3) := by decide +kernel
theorem dX7_runScript_49 : decode cX7_runScript 49 = .ok (.lload_n 2, 1) := by decide +kernel
theorem dX7_runScript_50 : decode cX7_runScript 50 = .ok (.iload_n 1, 1) := by decide +kernel
theorem dX7_runScript_51 : decode cX7_runScript 51 = .ok (.iconst 1, 1) := by decide +kernel
theorem dX7_runScript_52 : decode cX7_runScript 52 = .ok (.isub, 1) := by decide +kernel
theorem dX7_runScript_53 : decode cX7_runScript 53 = .ok (.iload 4, 2) := by decide +kernel
theorem dX7_runScript_55 : decode cX7_runScript 55 = .ok (.isub, 1) := by decide +kernel
theorem dX7_runScript_56 : decode cX7_runScript 56 = .ok (.invokestatic 185, 3) := by decide +kernel
theorem dX7_runScript_59 : decode cX7_runScript 59 = .ok (.ldiv, 1) := by decide +kernel
theorem dX7_runScript_60 : decode cX7_runScript 60 = .ok (.ldc2_w 181, 3) := by decide +kernel
theorem dX7_runScript_63 : decode cX7_runScript 63 = .ok (.lrem, 1) := by decide +kernel
theorem dX7_runScript_64 : decode cX7_runScript 64 = .ok (.l2i, 1) := by decide +kernel
theorem dX7_runScript_65 : decode cX7_runScript 65 = .ok (.istore 5, 2) := by decide +kernel
theorem dX7_runScript_67 : decode cX7_runScript 67 = .ok (.aload_n 0, 1) := by decide +kernel
theorem dX7_runScript_68 : decode cX7_runScript 68 = .ok (.iload 5, 2) := by decide +kernel
theorem dX7_runScript_70 : decode cX7_runScript 70 = .ok (.sipush 1000, 3) := by decide +kernel
theorem dX7_runScript_73 : decode cX7_runScript 73 = .ok (.idiv, 1) := by decide +kernel
theorem dX7_runScript_74 : decode cX7_runScript 74 = .ok (.iload 5, 2) := by decide +kernel
theorem dX7_runScript_76 : decode cX7_runScript 76 = .ok (.sipush 1000, 3) := by decide +kernel
theorem dX7_runScript_79 : decode cX7_runScript 79 = .ok (.irem, 1) := by decide +kernel
theorem dX7_runScript_80 : decode cX7_runScript 80 = .ok (.invokevirtual 189, 3) := by decide +kernel
theorem dX7_runScript_83 : decode cX7_runScript 83 = .ok (.ifCond .ne 6, 3) := by decide +kernel
theorem dX7_runScript_86 : decode cX7_runScript 86 = .ok (.iload 4, 2) := by decide +kernel
theorem dX7_runScript_88 : decode cX7_runScript 88 = .ok (.ireturn, 1) := by decide +kernel
theorem dX7_runScript_89 : decode cX7_runScript 89 = .ok (.iinc 4 1, 3) := by decide +kernel
theorem dX7_runScript_92 : decode cX7_runScript 92 = .ok (.goto (-49), 3) := by decide +kernel
theorem dX7_runScript_95 : decode cX7_runScript 95 = .ok (.bipush (-9), 2) := by decide +kernel
theorem dX7_runScript_97 : decode cX7_runScript 97 = .ok (.ireturn, 1) := by decide +kernel
theorem dX7_randomSpeeds_0 : decode cX7_randomSpeeds 0 = .ok (.iload_n 3, 1) := by decide +kernel
theorem dX7_randomSpeeds_1 : decode cX7_randomSpeeds 1 = .ok (.i2l, 1) := by decide +kernel
theorem dX7_randomSpeeds_2 : decode cX7_randomSpeeds 2 = .ok (.lconst 1, 1) := by decide +kernel
theorem dX7_randomSpeeds_3 : decode cX7_randomSpeeds 3 = .ok (.ldc2_w 193, 3) := by decide +kernel
theorem dX7_randomSpeeds_6 : decode cX7_randomSpeeds 6 = .ok (.invokestatic 81, 3) := by decide +kernel
theorem dX7_randomSpeeds_9 : decode cX7_randomSpeeds 9 = .ok (.ifCond .ne 6, 3) := by decide +kernel
theorem dX7_randomSpeeds_12 : decode cX7_randomSpeeds 12 = .ok (.bipush (-2), 2) := by decide +kernel
theorem dX7_randomSpeeds_14 : decode cX7_randomSpeeds 14 = .ok (.ireturn, 1) := by decide +kernel
theorem dX7_randomSpeeds_15 : decode cX7_randomSpeeds 15 = .ok (.aload_n 0, 1) := by decide +kernel
theorem dX7_randomSpeeds_16 : decode cX7_randomSpeeds 16 = .ok (.getfield 13, 3) := by decide +kernel
theorem dX7_randomSpeeds_19 : decode cX7_randomSpeeds 19 = .ok (.aload_n 0, 1) := by decide +kernel
theorem dX7_randomSpeeds_20 : decode cX7_randomSpeeds 20 = .ok (.getfield 16, 3) := by decide +kernel
theorem dX7_randomSpeeds_23 : decode cX7_randomSpeeds 23 = .ok (.invokestatic 116, 3) := by decide +kernel
theorem dX7_randomSpeeds_26 : decode cX7_randomSpeeds 26 = .ok (.lload_n 1, 1) := by decide +kernel
theorem dX7_randomSpeeds_27 : decode cX7_randomSpeeds 27 = .ok (.lstore 4, 2) := by decide +kernel
theorem dX7_randomSpeeds_29 : decode cX7_randomSpeeds 29 = .ok (.iconst 0, 1) := by decide +kernel
theorem dX7_randomSpeeds_30 : decode cX7_randomSpeeds 30 = .ok (.istore 6, 2) := by decide +kernel
theorem dX7_randomSpeeds_32 : decode cX7_randomSpeeds 32 = .ok (.iconst 0, 1) := by decide +kernel
theorem dX7_randomSpeeds_33 : decode cX7_randomSpeeds 33 = .ok (.istore 7, 2) := by decide +kernel
theorem dX7_randomSpeeds_35 : decode cX7_randomSpeeds 35 = .ok (.iload 7, 2) := by decide +kernel
theorem dX7_randomSpeeds_37 : decode cX7_randomSpeeds 37 = .ok (.iload_n 3, 1) := by decide +kernel
theorem dX7_randomSpeeds_38 : decode cX7_randomSpeeds 38 = .ok (.if_icmp .ge 74, 3) := by decide +kernel
theorem dX7_randomSpeeds_41 : decode cX7_randomSpeeds 41 = .ok (.aload_n 0, 1) := by decide +kernel
theorem dX7_randomSpeeds_42 : decode cX7_randomSpeeds 42 = .ok (.getfield 16, 3) := by decide +kernel
theorem dX7_randomSpeeds_45 : decode cX7_randomSpeeds 45 = .ok (.iconst 5, 1) := by decide +kernel
theorem dX7_randomSpeeds_46 : decode cX7_randomSpeeds 46 = .ok (.iaload, 1) := by decide +kernel
theorem dX7_randomSpeeds_47 : decode cX7_randomSpeeds 47 = .ok (.ifCond .le 65, 3) := by decide +kernel
theorem dX7_randomSpeeds_50 : decode cX7_randomSpeeds 50 = .ok (.lload 4, 2) := by decide +kernel
theorem dX7_randomSpeeds_52 : decode cX7_randomSpeeds 52 = .ok (.ldc2_w 195, 3) := by decide +kernel
theorem dX7_randomSpeeds_55 : decode cX7_randomSpeeds 55 = .ok (.lmul, 1) := by decide +kernel
theorem dX7_randomSpeeds_56 : decode cX7_randomSpeeds 56 = .ok (.ldc2_w 197, 3) := by decide +kernel
theorem dX7_randomSpeeds_59 : decode cX7_randomSpeeds 59 = .ok (.ladd, 1) := by decide +kernel
theorem dX7_randomSpeeds_60 : decode cX7_randomSpeeds 60 = .ok (.lstore 4, 2) := by decide +kernel
theorem dX7_randomSpeeds_62 : decode cX7_randomSpeeds 62 = .ok (.lload 4, 2) := by decide +kernel
theorem dX7_randomSpeeds_64 : decode cX7_randomSpeeds 64 = .ok (.bipush 33, 2) := by decide +kernel
theorem dX7_randomSpeeds_66 : decode cX7_randomSpeeds 66 = .ok (.lushr, 1) := by decide +kernel
theorem dX7_randomSpeeds_67 : decode cX7_randomSpeeds 67 = .ok (.l2i, 1) := by decide +kernel
theorem dX7_randomSpeeds_68 : decode cX7_randomSpeeds 68 = .ok (.istore 8, 2) := by decide +kernel
theorem dX7_randomSpeeds_70 : decode cX7_randomSpeeds 70 = .ok (.iload 8, 2) := by decide +kernel
theorem dX7_randomSpeeds_72 : decode cX7_randomSpeeds 72 = .ok (.iconst 4, 1) := by decide +kernel
theorem dX7_randomSpeeds_73 : decode cX7_randomSpeeds 73 = .ok (.irem, 1) := by decide +kernel
theorem dX7_randomSpeeds_74 : decode cX7_randomSpeeds 74 = .ok (.ifCond .ne 19, 3) := by decide +kernel
theorem dX7_randomSpeeds_77 : decode cX7_randomSpeeds 77 = .ok (.aload_n 0, 1) := by decide +kernel
theorem dX7_randomSpeeds_78 : decode cX7_randomSpeeds 78 = .ok (.getfield 16, 3) := by decide +kernel
theorem dX7_randomSpeeds_81 : decode cX7_randomSpeeds 81 = .ok (.iconst 1, 1) := by decide +kernel
theorem dX7_randomSpeeds_82 : decode cX7_randomSpeeds 82 = .ok (.iload 8, 2) := by decide +kernel
theorem dX7_randomSpeeds_84 : decode cX7_randomSpeeds 84 = .ok (.iconst 4, 1) := by decide +kernel
theorem dX7_randomSpeeds_85 : decode cX7_randomSpeeds 85 = .ok (.idiv, 1) := by decide +kernel
theorem dX7_randomSpeeds_86 : decode cX7_randomSpeeds 86 = .ok (.sipush 999, 3) := by decide +kernel
theorem dX7_randomSpeeds_89 : decode cX7_randomSpeeds 89 = .ok (.irem, 1) := by decide +kernel
theorem dX7_randomSpeeds_90 : decode cX7_randomSpeeds 90 = .ok (.iconst 1, 1) := by decide +kernel
theorem dX7_randomSpeeds_91 : decode cX7_randomSpeeds 91 = .ok (.iadd, 1) := by decide +kernel
theorem dX7_randomSpeeds_92 : decode cX7_randomSpeeds 92 = .ok (.iastore, 1) := by decide +kernel
theorem dX7_randomSpeeds_93 : decode cX7_randomSpeeds 93 = .ok (.iload 6, 2) := by decide +kernel
theorem dX7_randomSpeeds_95 : decode cX7_randomSpeeds 95 = .ok (.aload_n 0, 1) := by decide +kernel
theorem dX7_randomSpeeds_96 : decode cX7_randomSpeeds 96 = .ok (.aload_n 0, 1) := by decide +kernel
theorem dX7_randomSpeeds_97 : decode cX7_randomSpeeds 97 = .ok (.getfield 16, 3) := by decide +kernel
theorem dX7_randomSpeeds_100 : decode cX7_randomSpeeds 100 = .ok (.invokevirtual 167, 3) := by decide +kernel
theorem dX7_randomSpeeds_103 : decode cX7_randomSpeeds 103 = .ok (.iadd, 1) := by decide +kernel
theorem dX7_randomSpeeds_104 : decode cX7_randomSpeeds 104 = .ok (.istore 6, 2) := by decide +kernel
theorem dX7_randomSpeeds_106 : decode cX7_randomSpeeds 106 = .ok (.iinc 7 1, 3) := by decide +kernel
theorem dX7_randomSpeeds_109 : decode cX7_randomSpeeds 109 = .ok (.goto (-74), 3) := by decide +kernel
theorem dX7_randomSpeeds_112 : decode cX7_randomSpeeds 112 = .ok (.iload 6, 2) := by decide +kernel
theorem dX7_randomSpeeds_114 : decode cX7_randomSpeeds 114 = .ok (.ireturn, 1) := by decide +kernel
theorem dX7_save_0 : decode cX7_save 0 = .ok (.iload_n 1, 1) := by decide +kernel
theorem dX7_save_1 : decode cX7_save 1 = .ok (.i2l, 1) := by decide +kernel
theorem dX7_save_2 : decode cX7_save 2 = .ok (.lconst 0, 1) := by decide +kernel
theorem dX7_save_3 : decode cX7_save 3 = .ok (.lconst 1, 1) := by decide +kernel
theorem dX7_save_4 : decode cX7_save 4 = .ok (.invokestatic 81, 3) := by decide +kernel
theorem dX7_save_7 : decode cX7_save 7 = .ok (.ifCond .ne 5, 3) := by decide +kernel
theorem dX7_save_10 : decode cX7_save 10 = .ok (.iconst (-1), 1) := by decide +kernel
theorem dX7_save_11 : decode cX7_save 11 = .ok (.ireturn, 1) := by decide +kernel
theorem dX7_save_12 : decode cX7_save 12 = .ok (.aload_n 0, 1) := by decide +kernel
theorem dX7_save_13 : decode cX7_save 13 = .ok (.getfield 28, 3) := by decide +kernel
theorem dX7_save_16 : decode cX7_save 16 = .ok (.iload_n 1, 1) := by decide +kernel
theorem dX7_save_17 : decode cX7_save 17 = .ok (.iconst 1, 1) := by decide +kernel
theorem dX7_save_18 : decode cX7_save 18 = .ok (.bastore, 1) := by decide +kernel
theorem dX7_save_19 : decode cX7_save 19 = .ok (.iconst 0, 1) := by decide +kernel
theorem dX7_save_20 : decode cX7_save 20 = .ok (.istore_n 2, 1) := by decide +kernel
theorem dX7_save_21 : decode cX7_save 21 = .ok (.iload_n 2, 1) := by decide +kernel
theorem dX7_save_22 : decode cX7_save 22 = .ok (.bipush 33, 2) := by decide +kernel
theorem dX7_save_24 : decode cX7_save 24 = .ok (.if_icmp .ge 26, 3) := by decide +kernel
theorem dX7_save_27 : decode cX7_save 27 = .ok (.aload_n 0, 1) := by decide +kernel
theorem dX7_save_28 : decode cX7_save 28 = .ok (.getfield 25, 3) := by decide +kernel
theorem dX7_save_31 : decode cX7_save 31 = .ok (.bipush 33, 2) := by decide +kernel
theorem dX7_save_33 : decode cX7_save 33 = .ok (.iload_n 1, 1) := by decide +kernel
theorem dX7_save_34 : decode cX7_save 34 = .ok (.imul, 1) := by decide +kernel
theorem dX7_save_35 : decode cX7_save 35 = .ok (.iload_n 2, 1) := by decide +kernel
theorem dX7_save_36 : decode cX7_save 36 = .ok (.iadd, 1) := by decide +kernel
theorem dX7_save_37 : decode cX7_save 37 = .ok (.aload_n 0, 1) := by decide +kernel
theorem dX7_save_38 : decode cX7_save 38 = .ok (.getfield 13, 3) := by decide +kernel
theorem dX7_save_41 : decode cX7_save 41 = .ok (.iload_n 2, 1) := by decide +kernel
theorem dX7_save_42 : decode cX7_save 42 = .ok (.iaload, 1) := by decide +kernel
theorem dX7_save_43 : decode cX7_save 43 = .ok (.iastore, 1) := by decide +kernel
theorem dX7_save_44 : decode cX7_save 44 = .ok (.iinc 2 1, 3) := by decide +kernel
theorem dX7_save_47 : decode cX7_save 47 = .ok (.goto (-26), 3) := by decide +kernel
theorem dX7_save_50 : decode cX7_save 50 = .ok (.aload_n 0, 1) := by decide +kernel
theorem dX7_save_51 : decode cX7_save 51 = .ok (.getfield 13, 3) := by decide +kernel
theorem dX7_save_54 : decode cX7_save 54 = .ok (.iconst 5, 1) := by decide +kernel
theorem dX7_save_55 : decode cX7_save 55 = .ok (.iaload, 1) := by decide +kernel
theorem dX7_save_56 : decode cX7_save 56 = .ok (.ireturn, 1) := by decide +kernel
theorem dX7_restore_0 : decode cX7_restore 0 = .ok (.iload_n 1, 1) := by decide +kernel
theorem dX7_restore_1 : decode cX7_restore 1 = .ok (.i2l, 1) := by decide +kernel
theorem dX7_restore_2 : decode cX7_restore 2 = .ok (.lconst 0, 1) := by decide +kernel
theorem dX7_restore_3 : decode cX7_restore 3 = .ok (.lconst 1, 1) := by decide +kernel
theorem dX7_restore_4 : decode cX7_restore 4 = .ok (.invokestatic 81, 3) := by decide +kernel
theorem dX7_restore_7 : decode cX7_restore 7 = .ok (.ifCond .ne 5, 3) := by decide +kernel
theorem dX7_restore_10 : decode cX7_restore 10 = .ok (.iconst (-1), 1) := by decide +kernel
theorem dX7_restore_11 : decode cX7_restore 11 = .ok (.ireturn, 1) := by decide +kernel
theorem dX7_restore_12 : decode cX7_restore 12 = .ok (.aload_n 0, 1) := by decide +kernel
theorem dX7_restore_13 : decode cX7_restore 13 = .ok (.getfield 28, 3) := by decide +kernel
theorem dX7_restore_16 : decode cX7_restore 16 = .ok (.iload_n 1, 1) := by decide +kernel
theorem dX7_restore_17 : decode cX7_restore 17 = .ok (.baload, 1) := by decide +kernel
theorem dX7_restore_18 : decode cX7_restore 18 = .ok (.ifCond .ne 6, 3) := by decide +kernel
theorem dX7_restore_21 : decode cX7_restore 21 = .ok (.bipush (-3), 2) := by decide +kernel
theorem dX7_restore_23 : decode cX7_restore 23 = .ok (.ireturn, 1) := by decide +kernel
theorem dX7_restore_24 : decode cX7_restore 24 = .ok (.iconst 0, 1) := by decide +kernel
theorem dX7_restore_25 : decode cX7_restore 25 = .ok (.istore_n 2, 1) := by decide +kernel
theorem dX7_restore_26 : decode cX7_restore 26 = .ok (.iload_n 2, 1) := by decide +kernel
theorem dX7_restore_27 : decode cX7_restore 27 = .ok (.bipush 33, 2) := by decide +kernel
theorem dX7_restore_29 : decode cX7_restore 29 = .ok (.if_icmp .ge 26, 3) := by decide +kernel
theorem dX7_restore_32 : decode cX7_restore 32 = .ok (.aload_n 0, 1) := by decide +kernel
theorem dX7_restore_33 : decode cX7_restore 33 = .ok (.getfield 13, 3) := by decide +kernel
theorem dX7_restore_36 : decode cX7_restore 36 = .ok (.iload_n 2, 1) := by decide +kernel
theorem dX7_restore_37 : decode cX7_restore 37 = .ok (.aload_n 0, 1) := by decide +kernel
theorem dX7_restore_38 : decode cX7_restore 38 = .ok (.getfield 25, 3) := by decide +kernel
theorem dX7_restore_41 : decode cX7_restore 41 = .ok (.bipush 33, 2) := by decide +kernel
theorem dX7_restore_43 : decode cX7_restore 43 = .ok (.iload_n 1, 1) := by decide +kernel
theorem dX7_restore_44 : decode cX7_restore 44 = .ok (.imul, 1) := by decide +kernel
theorem dX7_restore_45 : decode cX7_restore 45 = .ok (.iload_n 2, 1) := by decide +kernel
theorem dX7_restore_46 : decode cX7_restore 46 = .ok (.iadd, 1) := by decide +kernel
theorem dX7_restore_47 : decode cX7_restore 47 = .ok (.iaload, 1) := by decide +kernel
theorem dX7_restore_48 : decode cX7_restore 48 = .ok (.iastore, 1) := by decide +kernel
theorem dX7_restore_49 : decode cX7_restore 49 = .ok (.iinc 2 1, 3) := by decide +kernel
theorem dX7_restore_52 : decode cX7_restore 52 = .ok (.goto (-26), 3) := by decide +kernel
theorem dX7_restore_55 : decode cX7_restore 55 = .ok (.aload_n 0, 1) := by decide +kernel
theorem dX7_restore_56 : decode cX7_restore 56 = .ok (.iconst 0, 1) := by decide +kernel
theorem dX7_restore_57 : decode cX7_restore 57 = .ok (.putfield 120, 3) := by decide +kernel
theorem dX7_restore_60 : decode cX7_restore 60 = .ok (.aload_n 0, 1) := by decide +kernel
theorem dX7_restore_61 : decode cX7_restore 61 = .ok (.getfield 13, 3) := by decide +kernel
theorem dX7_restore_64 : decode cX7_restore 64 = .ok (.iconst 5, 1) := by decide +kernel
theorem dX7_restore_65 : decode cX7_restore 65 = .ok (.iaload, 1) := by decide +kernel
theorem dX7_restore_66 : decode cX7_restore 66 = .ok (.ireturn, 1) := by decide +kernel
