section WALKS
variable {p : Program} {l : Launch} {e : Env} {s : State} {m : MethodId} {args : Array Value} {below : List Frame} {meth : Method} {c : Code} {g : GG}
abbrev rm5_become : Room := { frames := 0, cells := 0, slots := 0, locals := 0 }
def f5_become_74 (N : Nat) (k0 : Nat) (k1 : Nat) : Nat → Mem → Int32 → Option (Mem)
  | 0, _, _ => none
  | cnt+1, I, v2 =>
    if (I k0 5) ≤ v2 then
    some I
    else
    if (8 : Int32) ≤ v2 then
    some I
    else
    if (v2 < (0 : Int32) ∨ 8 ≤ v2.toNatClampNeg) then none else
    if (v2 < (0 : Int32) ∨ 8 ≤ v2.toNatClampNeg) then none else
    letM (st I (k0 + 1) (v2.toNatClampNeg) (I (k1 + 1) (v2.toNatClampNeg))) (fun I_14 : Mem =>
    if (v2 < (0 : Int32) ∨ 8 ≤ v2.toNatClampNeg) then none else
    if (v2 < (0 : Int32) ∨ 8 ≤ v2.toNatClampNeg) then none else
    letM (st I_14 (k0 + 2) (v2.toNatClampNeg) (I_14 (k1 + 2) (v2.toNatClampNeg))) (fun I_17 : Mem =>
    if (v2 < (0 : Int32) ∨ 8 ≤ v2.toNatClampNeg) then none else
    if (v2 < (0 : Int32) ∨ 8 ≤ v2.toNatClampNeg) then none else
    letM (st I_17 (k0 + 3) (v2.toNatClampNeg) (I_17 (k1 + 3) (v2.toNatClampNeg))) (fun I_20 : Mem =>
    letM (v2 + (1 : Int32)) (fun x_21 : Int32 =>
    f5_become_74 N k0 k1 cnt I_20 x_21))))
def f5_become (N : Nat) (I : Mem) (k0 : Nat) (k1 : Nat) : Option (Mem) :=
    letM (st I k0 0 (I k1 0)) (fun I_1 : Mem =>
    letM (st I_1 k0 1 (I_1 k1 1)) (fun I_2 : Mem =>
    letM (st I_2 k0 2 (I_2 k1 2)) (fun I_3 : Mem =>
    letM (st I_3 k0 3 (I_3 k1 3)) (fun I_4 : Mem =>
    letM (st I_4 k0 4 (I_4 k1 4)) (fun I_5 : Mem =>
    letM (st I_5 k0 5 (I_5 k1 5)) (fun I_6 : Mem =>
    letM (st I_6 k0 9 (I_6 k1 9)) (fun I_7 : Mem =>
    letM (st I_7 k0 10 (I_7 k1 10)) (fun I_8 : Mem =>
    letM (st I_8 k0 11 (I_8 k1 11)) (fun I_9 : Mem =>
    f5_become_74 N k0 k1 N I_9 (0 : Int32))))))))))
set_option maxHeartbeats 4000000 in
set_option maxRecDepth 100000 in
theorem L5_become_74 (hG : Apart g NT) (N : Nat) (k0 : Nat) (k1 : Nat) (t0 : tag k0 = 4) (t1 : tag k1 = 4) (X : Cx g p s m args c cX5_become RX5 3) (hr : meth.sig.returnType = none) (hlk : meth.locks = false) (I0 : Mem) : ∀ (cnt : Nat) (I : Mem) (v2 : Int32), f5_become_74 N k0 k1 cnt I v2 = some I0 → ∀ (H : Heap) (locs : List Loc) (ls : Array Slot), Wp g I H → va_S (gA g) s.heap H locs → lv_has ls 3 [(0, .ref (ga g k0)), (1, .ref (ga g k1)), (2, .int v2)] → W p l e rm5_become s m args below meth c H locs 0 0 (MQ below (Qg g none I0) args s 0 0 (gA g)) (F0 m 74 ls []) := by
  have hx := X.hx
  have hb := X.hb
  intro cnt
  induction cnt with
  | zero =>
    intro I v2 h
    rw [f5_become_74] at h
    cases h
  | succ cnt ih =>
    intro I v2 h H locs ls hP hS hl
    rw [f5_become_74] at h
    refine lv_iload_n hx hb dX5_become_74 rfl (lv_at hl 2 rfl) ?_
    refine lv_aload_n hx hb dX5_become_75 rfl (lv_at hl 0 rfl) ?_
    refine g5_5 X hP t0 k_59 dX5_become_76 ?_
    refine lv_icmp_ge (tgt := 130) hx hb dX5_become_79 (by decide) (fun c_10 => ?_) (fun c_10 => ?_)
    · replace h := ifp c_10 h
      exact r_vret X hr hlk hP hS dX5_become_130 h
    · replace h := ifn c_10 h
      refine lv_iload_n hx hb dX5_become_82 rfl (lv_at hl 2 rfl) ?_
      refine lv_bipush (v := (8 : Int32)) hx hb dX5_become_83 (by decide +kernel) ?_
      refine lv_icmp_ge (tgt := 130) hx hb dX5_become_85 (by decide) (fun c_11 => ?_) (fun c_11 => ?_)
      · replace h := ifp c_11 h
        exact r_vret X hr hlk hP hS dX5_become_130 h
      · replace h := ifn c_11 h
        refine lv_aload_n hx hb dX5_become_88 rfl (lv_at hl 0 rfl) ?_
        refine g5_6 X hP t0 k_61 dX5_become_89 ?_
        refine lv_iload_n hx hb dX5_become_92 rfl (lv_at hl 2 rfl) ?_
        refine lv_aload_n hx hb dX5_become_93 rfl (lv_at hl 1 rfl) ?_
        refine g5_6 X hP t1 k_61 dX5_become_94 ?_
        refine lv_iload_n hx hb dX5_become_97 rfl (lv_at hl 2 rfl) ?_
        obtain ⟨g_12, h⟩ := gd_e h
        refine r_iald (n := 8) X hP (g5_6_t t1) g_12 (j := v2.toNatClampNeg) rfl dX5_become_98 ?_
        obtain ⟨g_13, h⟩ := gd_e h
        obtain ⟨I_14, eI_14, h⟩ := letM_e h
        refine r_iast (n := 8) X hP hS (g5_6_t t0) g_13 (j := v2.toNatClampNeg) rfl eI_14 dX5_become_99 (fun H locs hP hS => ?_)
        refine lv_aload_n hx hb dX5_become_100 rfl (lv_at hl 0 rfl) ?_
        refine g5_7 X hP t0 k_62 dX5_become_101 ?_
        refine lv_iload_n hx hb dX5_become_104 rfl (lv_at hl 2 rfl) ?_
        refine lv_aload_n hx hb dX5_become_105 rfl (lv_at hl 1 rfl) ?_
        refine g5_7 X hP t1 k_62 dX5_become_106 ?_
        refine lv_iload_n hx hb dX5_become_109 rfl (lv_at hl 2 rfl) ?_
        obtain ⟨g_15, h⟩ := gd_e h
        refine r_iald (n := 8) X hP (g5_7_t t1) g_15 (j := v2.toNatClampNeg) rfl dX5_become_110 ?_
        obtain ⟨g_16, h⟩ := gd_e h
        obtain ⟨I_17, eI_17, h⟩ := letM_e h
        refine r_iast (n := 8) X hP hS (g5_7_t t0) g_16 (j := v2.toNatClampNeg) rfl eI_17 dX5_become_111 (fun H locs hP hS => ?_)
        refine lv_aload_n hx hb dX5_become_112 rfl (lv_at hl 0 rfl) ?_
        refine g5_8 X hP t0 k_63 dX5_become_113 ?_
        refine lv_iload_n hx hb dX5_become_116 rfl (lv_at hl 2 rfl) ?_
        refine lv_aload_n hx hb dX5_become_117 rfl (lv_at hl 1 rfl) ?_
        refine g5_8 X hP t1 k_63 dX5_become_118 ?_
        refine lv_iload_n hx hb dX5_become_121 rfl (lv_at hl 2 rfl) ?_
        obtain ⟨g_18, h⟩ := gd_e h
        refine r_iald (n := 8) X hP (g5_8_t t1) g_18 (j := v2.toNatClampNeg) rfl dX5_become_122 ?_
        obtain ⟨g_19, h⟩ := gd_e h
        obtain ⟨I_20, eI_20, h⟩ := letM_e h
        refine r_iast (n := 8) X hP hS (g5_8_t t0) g_19 (j := v2.toNatClampNeg) rfl eI_20 dX5_become_123 (fun H locs hP hS => ?_)
        obtain ⟨x_21, ex_21, h⟩ := letM_e h
        refine lv_iinc (v := x_21) (lv' := [(2, .int x_21), (0, .ref (ga g k0)), (1, .ref (ga g k1))]) hx hb dX5_become_124 hl (k := 2) rfl (by rw [ex_21]; rfl) (by decide) rfl (fun ls hl => ?_)
        refine lv_goto (tgt := 74) hx hb dX5_become_127 (by decide) ?_
        exact ih I_20 x_21 h _ _ _ hP hS (lv_sub hl [1, 2, 0] rfl)
set_option maxHeartbeats 4000000 in
set_option maxRecDepth 100000 in
theorem c5_become (l : Launch) (g : GG) (hG : Apart g NT) (N : Nat) (I : Mem) (k0 : Nat) (k1 : Nat) (t0 : tag k0 = 4) (t1 : tag k1 = 4) (I0 : Mem) (h : f5_become N I k0 k1 = some I0) : Mc l g yX5_become cX5_become 3 none rm5_become I [.ref (ga g k0), .ref (ga g k1)] none I0 := by
  refine Mc.of hG (by decide +kernel) (Nat.le_of_ble_eq_true rfl) ?_
  intro p e s m args below meth c ls X hr hlk hP hS hl
  have X : Cx g p s m args c cX5_become RX5 3 := X
  have hx := X.hx
  have hb := X.hb
  have hl : lv_has ls 3 [(0, .ref (ga g k0)), (1, .ref (ga g k1))] := hl
  have locs : List Loc := []
  unfold f5_become at h
  refine lv_aload_n hx hb dX5_become_0 rfl (lv_at hl 0 rfl) ?_
  refine lv_aload_n hx hb dX5_become_1 rfl (lv_at hl 1 rfl) ?_
  refine g5_0 X hP t1 k_48 dX5_become_2 ?_
  obtain ⟨I_1, eI_1, h⟩ := letM_e h
  refine p5_0 X hP hS t0 k_48 eI_1 dX5_become_5 (fun H locs hP hS => ?_)
  refine lv_aload_n hx hb dX5_become_8 rfl (lv_at hl 0 rfl) ?_
  refine lv_aload_n hx hb dX5_become_9 rfl (lv_at hl 1 rfl) ?_
  refine g5_1 X hP t1 k_51 dX5_become_10 ?_
  obtain ⟨I_2, eI_2, h⟩ := letM_e h
  refine p5_1 X hP hS t0 k_51 eI_2 dX5_become_13 (fun H locs hP hS => ?_)
  refine lv_aload_n hx hb dX5_become_16 rfl (lv_at hl 0 rfl) ?_
  refine lv_aload_n hx hb dX5_become_17 rfl (lv_at hl 1 rfl) ?_
  refine g5_2 X hP t1 k_54 dX5_become_18 ?_
  obtain ⟨I_3, eI_3, h⟩ := letM_e h
  refine p5_2 X hP hS t0 k_54 eI_3 dX5_become_21 (fun H locs hP hS => ?_)
  refine lv_aload_n hx hb dX5_become_24 rfl (lv_at hl 0 rfl) ?_
  refine lv_aload_n hx hb dX5_become_25 rfl (lv_at hl 1 rfl) ?_
  refine g5_3 X hP t1 k_56 dX5_become_26 ?_
  obtain ⟨I_4, eI_4, h⟩ := letM_e h
  refine p5_3 X hP hS t0 k_56 eI_4 dX5_become_29 (fun H locs hP hS => ?_)
  refine lv_aload_n hx hb dX5_become_32 rfl (lv_at hl 0 rfl) ?_
  refine lv_aload_n hx hb dX5_become_33 rfl (lv_at hl 1 rfl) ?_
  refine g5_4 X hP t1 k_57 dX5_become_34 ?_
  obtain ⟨I_5, eI_5, h⟩ := letM_e h
  refine p5_4 X hP hS t0 k_57 eI_5 dX5_become_37 (fun H locs hP hS => ?_)
  refine lv_aload_n hx hb dX5_become_40 rfl (lv_at hl 0 rfl) ?_
  refine lv_aload_n hx hb dX5_become_41 rfl (lv_at hl 1 rfl) ?_
  refine g5_5 X hP t1 k_59 dX5_become_42 ?_
  obtain ⟨I_6, eI_6, h⟩ := letM_e h
  refine p5_5 X hP hS t0 k_59 eI_6 dX5_become_45 (fun H locs hP hS => ?_)
  refine lv_aload_n hx hb dX5_become_48 rfl (lv_at hl 0 rfl) ?_
  refine lv_aload_n hx hb dX5_become_49 rfl (lv_at hl 1 rfl) ?_
  refine g5_9 X hP t1 k_65 dX5_become_50 ?_
  obtain ⟨I_7, eI_7, h⟩ := letM_e h
  refine p5_9 X hP hS t0 k_65 eI_7 dX5_become_53 (fun H locs hP hS => ?_)
  refine lv_aload_n hx hb dX5_become_56 rfl (lv_at hl 0 rfl) ?_
  refine lv_aload_n hx hb dX5_become_57 rfl (lv_at hl 1 rfl) ?_
  refine g5_10 X hP t1 k_66 dX5_become_58 ?_
  obtain ⟨I_8, eI_8, h⟩ := letM_e h
  refine p5_10 X hP hS t0 k_66 eI_8 dX5_become_61 (fun H locs hP hS => ?_)
  refine lv_aload_n hx hb dX5_become_64 rfl (lv_at hl 0 rfl) ?_
  refine lv_aload_n hx hb dX5_become_65 rfl (lv_at hl 1 rfl) ?_
  refine g5_11 X hP t1 k_67 dX5_become_66 ?_
  obtain ⟨I_9, eI_9, h⟩ := letM_e h
  refine p5_11 X hP hS t0 k_67 eI_9 dX5_become_69 (fun H locs hP hS => ?_)
  refine lv_iconst (v := (0 : Int32)) hx hb dX5_become_72 (by decide +kernel) ?_
  refine lv_istore_n (lv' := [(2, .int (0 : Int32)), (0, .ref (ga g k0)), (1, .ref (ga g k1))]) hx hb dX5_become_73 rfl hl (by decide) rfl (fun ls hl => ?_)
  exact L5_become_74 hG N k0 k1 t0 t1 X hr hlk I0 N I_9 (0 : Int32) h _ _ _ hP hS (lv_sub hl [1, 2, 0] rfl)
abbrev rm4_add : Room := { frames := 0, cells := 0, slots := 0, locals := 0 }
def f4_add (N : Nat) (I : Mem) (k0 : Nat) (a1 : Int32) : Option (Int32 × Mem) :=
    if (I k0 1) < (0 : Int32) then
    some ((0 : Int32), I)
    else
    if (I k0 1) < (80 : Int32) then
    if ((I k0 1) < (0 : Int32) ∨ 80 ≤ (I k0 1).toNatClampNeg) then none else
    letM (st I (k0 + 1) ((I k0 1).toNatClampNeg) a1) (fun I_4 : Mem =>
    letM (st I_4 k0 1 ((I_4 k0 1) + (1 : Int32))) (fun I_5 : Mem =>
    some ((1 : Int32), I_5)))
    else
    some ((0 : Int32), I)
set_option maxHeartbeats 4000000 in
set_option maxRecDepth 100000 in
theorem c4_add (l : Launch) (g : GG) (hG : Apart g NT) (N : Nat) (I : Mem) (k0 : Nat) (a1 : Int32) (t0 : tag k0 = 3) (r0 : Int32) (I0 : Mem) (h : f4_add N I k0 a1 = some (r0, I0)) : Mc l g yX4_add cX4_add 2 (some .boolean) rm4_add I [.ref (ga g k0), .int a1] (some (.int r0)) I0 := by
  refine Mc.of hG (by decide +kernel) (Nat.le_of_ble_eq_true rfl) ?_
  intro p e s m args below meth c ls X hr hlk hP hS hl
  have X : Cx g p s m args c cX4_add RX4 2 := X
  have hx := X.hx
  have hb := X.hb
  have hl : lv_has ls 2 [(0, .ref (ga g k0)), (1, .int a1)] := hl
  have locs : List Loc := []
  unfold f4_add at h
  refine lv_aload_n hx hb dX4_add_0 rfl (lv_at hl 0 rfl) ?_
  refine g4_1 X hP t0 k_28 dX4_add_1 ?_
  refine lv_if_lt (tgt := 19) hx hb dX4_add_4 (by decide) (fun c_1 => ?_) (fun c_1 => ?_)
  · replace h := ifp c_1 h
    refine lv_iconst (v := (0 : Int32)) hx hb dX4_add_19 (by decide +kernel) ?_
    exact r_zret X hr hlk hP hS rfl dX4_add_20 h
  · replace h := ifn c_1 h
    refine lv_aload_n hx hb dX4_add_7 rfl (lv_at hl 0 rfl) ?_
    refine g4_1 X hP t0 k_28 dX4_add_8 ?_
    refine lv_aload_n hx hb dX4_add_11 rfl (lv_at hl 0 rfl) ?_
    refine g4_0 X hP t0 k_27 dX4_add_12 ?_
    refine r_alen (n := 80) (v := (80 : Int32)) X hP (g4_0_t t0) (by decide +kernel) dX4_add_15 ?_
    refine lv_icmp_lt (tgt := 21) hx hb dX4_add_16 (by decide) (fun c_2 => ?_) (fun c_2 => ?_)
    · replace h := ifp c_2 h
      refine lv_aload_n hx hb dX4_add_21 rfl (lv_at hl 0 rfl) ?_
      refine g4_0 X hP t0 k_27 dX4_add_22 ?_
      refine lv_aload_n hx hb dX4_add_25 rfl (lv_at hl 0 rfl) ?_
      refine g4_1 X hP t0 k_28 dX4_add_26 ?_
      refine lv_iload_n hx hb dX4_add_29 rfl (lv_at hl 1 rfl) ?_
      obtain ⟨g_3, h⟩ := gd_e h
      obtain ⟨I_4, eI_4, h⟩ := letM_e h
      refine r_iast (n := 80) X hP hS (g4_0_t t0) g_3 (j := (I k0 1).toNatClampNeg) rfl eI_4 dX4_add_30 (fun H locs hP hS => ?_)
      refine lv_aload_n hx hb dX4_add_31 rfl (lv_at hl 0 rfl) ?_
      refine lv_dup hx hb dX4_add_32 rfl ?_
      refine g4_1 X hP t0 k_28 dX4_add_33 ?_
      refine lv_iconst (v := (1 : Int32)) hx hb dX4_add_36 (by decide +kernel) ?_
      refine lv_iadd hx hb dX4_add_37 ?_
      obtain ⟨I_5, eI_5, h⟩ := letM_e h
      refine p4_1 X hP hS t0 k_28 eI_5 dX4_add_38 (fun H locs hP hS => ?_)
      refine lv_iconst (v := (1 : Int32)) hx hb dX4_add_41 (by decide +kernel) ?_
      exact r_zret X hr hlk hP hS rfl dX4_add_42 h
    · replace h := ifn c_2 h
      refine lv_iconst (v := (0 : Int32)) hx hb dX4_add_19 (by decide +kernel) ?_
      exact r_zret X hr hlk hP hS rfl dX4_add_20 h
abbrev rm5_clear : Room := { frames := 0, cells := 0, slots := 0, locals := 0 }
def f5_clear (N : Nat) (I : Mem) (k0 : Nat) : Option (Mem) :=
    letM (st I k0 2 (0 : Int32)) (fun I_1 : Mem =>
    letM (st I_1 k0 3 (0 : Int32)) (fun I_2 : Mem =>
    letM (st I_2 k0 4 (0 : Int32)) (fun I_3 : Mem =>
    letM (st I_3 k0 5 (0 : Int32)) (fun I_4 : Mem =>
    letM (st I_4 k0 9 (0 : Int32)) (fun I_5 : Mem =>
    some I_5)))))
set_option maxHeartbeats 4000000 in
set_option maxRecDepth 100000 in
theorem c5_clear (l : Launch) (g : GG) (hG : Apart g NT) (N : Nat) (I : Mem) (k0 : Nat) (t0 : tag k0 = 4) (I0 : Mem) (h : f5_clear N I k0 = some I0) : Mc l g yX5_clear cX5_clear 1 none rm5_clear I [.ref (ga g k0)] none I0 := by
  refine Mc.of hG (by decide +kernel) (Nat.le_of_ble_eq_true rfl) ?_
  intro p e s m args below meth c ls X hr hlk hP hS hl
  have X : Cx g p s m args c cX5_clear RX5 1 := X
  have hx := X.hx
  have hb := X.hb
  have hl : lv_has ls 1 [(0, .ref (ga g k0))] := hl
  have locs : List Loc := []
  unfold f5_clear at h
  refine lv_aload_n hx hb dX5_clear_0 rfl (lv_at hl 0 rfl) ?_
  refine lv_iconst (v := (0 : Int32)) hx hb dX5_clear_1 (by decide +kernel) ?_
  obtain ⟨I_1, eI_1, h⟩ := letM_e h
  refine p5_2 X hP hS t0 k_54 eI_1 dX5_clear_2 (fun H locs hP hS => ?_)
  refine lv_aload_n hx hb dX5_clear_5 rfl (lv_at hl 0 rfl) ?_
  refine lv_iconst (v := (0 : Int32)) hx hb dX5_clear_6 (by decide +kernel) ?_
  obtain ⟨I_2, eI_2, h⟩ := letM_e h
  refine p5_3 X hP hS t0 k_56 eI_2 dX5_clear_7 (fun H locs hP hS => ?_)
  refine lv_aload_n hx hb dX5_clear_10 rfl (lv_at hl 0 rfl) ?_
  refine lv_iconst (v := (0 : Int32)) hx hb dX5_clear_11 (by decide +kernel) ?_
  obtain ⟨I_3, eI_3, h⟩ := letM_e h
  refine p5_4 X hP hS t0 k_57 eI_3 dX5_clear_12 (fun H locs hP hS => ?_)
  refine lv_aload_n hx hb dX5_clear_15 rfl (lv_at hl 0 rfl) ?_
  refine lv_iconst (v := (0 : Int32)) hx hb dX5_clear_16 (by decide +kernel) ?_
  obtain ⟨I_4, eI_4, h⟩ := letM_e h
  refine p5_5 X hP hS t0 k_59 eI_4 dX5_clear_17 (fun H locs hP hS => ?_)
  refine lv_aload_n hx hb dX5_clear_20 rfl (lv_at hl 0 rfl) ?_
  refine lv_iconst (v := (0 : Int32)) hx hb dX5_clear_21 (by decide +kernel) ?_
  obtain ⟨I_5, eI_5, h⟩ := letM_e h
  refine p5_9 X hP hS t0 k_65 eI_5 dX5_clear_22 (fun H locs hP hS => ?_)
  exact r_vret X hr hlk hP hS dX5_clear_25 h
abbrev rm4_present : Room := { frames := 0, cells := 0, slots := 0, locals := 0 }
def f4_present (N : Nat) (I : Mem) (k0 : Nat) : Option (Int32 × Mem) :=
    if (I k0 2) < (0 : Int32) then
    some ((-9 : Int32), I)
    else
    if (I k0 1) ≤ (I k0 2) then
    some ((-9 : Int32), I)
    else
    if (80 : Int32) ≤ (I k0 2) then
    some ((-9 : Int32), I)
    else
    if ((I k0 2) < (0 : Int32) ∨ 80 ≤ (I k0 2).toNatClampNeg) then none else
    some ((I (k0 + 1) ((I k0 2).toNatClampNeg)), I)
set_option maxHeartbeats 4000000 in
set_option maxRecDepth 100000 in
theorem c4_present (l : Launch) (g : GG) (hG : Apart g NT) (N : Nat) (I : Mem) (k0 : Nat) (t0 : tag k0 = 3) (r0 : Int32) (I0 : Mem) (h : f4_present N I k0 = some (r0, I0)) : Mc l g yX4_present cX4_present 1 (some .int) rm4_present I [.ref (ga g k0)] (some (.int r0)) I0 := by
  refine Mc.of hG (by decide +kernel) (Nat.le_of_ble_eq_true rfl) ?_
  intro p e s m args below meth c ls X hr hlk hP hS hl
  have X : Cx g p s m args c cX4_present RX4 1 := X
  have hx := X.hx
  have hb := X.hb
  have hl : lv_has ls 1 [(0, .ref (ga g k0))] := hl
  have locs : List Loc := []
  unfold f4_present at h
  refine lv_aload_n hx hb dX4_present_0 rfl (lv_at hl 0 rfl) ?_
  refine g4_2 X hP t0 k_30 dX4_present_1 ?_
  refine lv_if_lt (tgt := 42) hx hb dX4_present_4 (by decide) (fun c_1 => ?_) (fun c_1 => ?_)
  · replace h := ifp c_1 h
    refine lv_bipush (v := (-9 : Int32)) hx hb dX4_present_42 (by decide +kernel) ?_
    exact r_iret X hr hlk hP hS dX4_present_44 h
  · replace h := ifn c_1 h
    refine lv_aload_n hx hb dX4_present_7 rfl (lv_at hl 0 rfl) ?_
    refine g4_2 X hP t0 k_30 dX4_present_8 ?_
    refine lv_aload_n hx hb dX4_present_11 rfl (lv_at hl 0 rfl) ?_
    refine g4_1 X hP t0 k_28 dX4_present_12 ?_
    refine lv_icmp_ge (tgt := 42) hx hb dX4_present_15 (by decide) (fun c_2 => ?_) (fun c_2 => ?_)
    · replace h := ifp c_2 h
      refine lv_bipush (v := (-9 : Int32)) hx hb dX4_present_42 (by decide +kernel) ?_
      exact r_iret X hr hlk hP hS dX4_present_44 h
    · replace h := ifn c_2 h
      refine lv_aload_n hx hb dX4_present_18 rfl (lv_at hl 0 rfl) ?_
      refine g4_2 X hP t0 k_30 dX4_present_19 ?_
      refine lv_aload_n hx hb dX4_present_22 rfl (lv_at hl 0 rfl) ?_
      refine g4_0 X hP t0 k_27 dX4_present_23 ?_
      refine r_alen (n := 80) (v := (80 : Int32)) X hP (g4_0_t t0) (by decide +kernel) dX4_present_26 ?_
      refine lv_icmp_ge (tgt := 42) hx hb dX4_present_27 (by decide) (fun c_3 => ?_) (fun c_3 => ?_)
      · replace h := ifp c_3 h
        refine lv_bipush (v := (-9 : Int32)) hx hb dX4_present_42 (by decide +kernel) ?_
        exact r_iret X hr hlk hP hS dX4_present_44 h
      · replace h := ifn c_3 h
        refine lv_aload_n hx hb dX4_present_30 rfl (lv_at hl 0 rfl) ?_
        refine g4_0 X hP t0 k_27 dX4_present_31 ?_
        refine lv_aload_n hx hb dX4_present_34 rfl (lv_at hl 0 rfl) ?_
        refine g4_2 X hP t0 k_30 dX4_present_35 ?_
        obtain ⟨g_4, h⟩ := gd_e h
        refine r_iald (n := 80) X hP (g4_0_t t0) g_4 (j := (I k0 2).toNatClampNeg) rfl dX4_present_38 ?_
        refine lv_goto (tgt := 44) hx hb dX4_present_39 (by decide) ?_
        exact r_iret X hr hlk hP hS dX4_present_44 h
abbrev rm4_failAt : Room := { frames := 0, cells := 0, slots := 0, locals := 0 }
def f4_failAt (N : Nat) (I : Mem) (k0 : Nat) (a1 : Int32) : Option (Mem) :=
    if (I k0 3) = (-9 : Int32) then
    letM (st I k0 3 a1) (fun I_2 : Mem =>
    some I_2)
    else
    some I
set_option maxHeartbeats 4000000 in
set_option maxRecDepth 100000 in
theorem c4_failAt (l : Launch) (g : GG) (hG : Apart g NT) (N : Nat) (I : Mem) (k0 : Nat) (a1 : Int32) (t0 : tag k0 = 3) (I0 : Mem) (h : f4_failAt N I k0 a1 = some I0) : Mc l g yX4_failAt cX4_failAt 2 none rm4_failAt I [.ref (ga g k0), .int a1] none I0 := by
  refine Mc.of hG (by decide +kernel) (Nat.le_of_ble_eq_true rfl) ?_
  intro p e s m args below meth c ls X hr hlk hP hS hl
  have X : Cx g p s m args c cX4_failAt RX4 2 := X
  have hx := X.hx
  have hb := X.hb
  have hl : lv_has ls 2 [(0, .ref (ga g k0)), (1, .int a1)] := hl
  have locs : List Loc := []
  unfold f4_failAt at h
  refine lv_aload_n hx hb dX4_failAt_0 rfl (lv_at hl 0 rfl) ?_
  refine g4_3 X hP t0 k_31 dX4_failAt_1 ?_
  refine lv_bipush (v := (-9 : Int32)) hx hb dX4_failAt_4 (by decide +kernel) ?_
  refine lv_icmp_ne (tgt := 14) hx hb dX4_failAt_6 (by decide) (fun c_1 => ?_) (fun c_1 => ?_)
  · replace h := ifn c_1 h
    exact r_vret X hr hlk hP hS dX4_failAt_14 h
  · replace h := ifp c_1 h
    refine lv_aload_n hx hb dX4_failAt_9 rfl (lv_at hl 0 rfl) ?_
    refine lv_iload_n hx hb dX4_failAt_10 rfl (lv_at hl 1 rfl) ?_
    obtain ⟨I_2, eI_2, h⟩ := letM_e h
    refine p4_3 X hP hS t0 k_31 eI_2 dX4_failAt_11 (fun H locs hP hS => ?_)
    exact r_vret X hr hlk hP hS dX4_failAt_14 h
abbrev rm4_takeLetter : Room := { frames := 1, cells := 0, slots := 0, locals := 21 }
def f4_takeLetter (N : Nat) (I : Mem) (k0 : Nat) (a1 : Int32) : Option (Mem) :=
    clP (f4_present N I k0) (fun (q_1 : Int32) (I_2 : Mem) =>
    if q_1 = a1 then
    letM (st I_2 k0 2 ((I_2 k0 2) + (1 : Int32))) (fun I_8 : Mem =>
    some I_8)
    else
    clM (f4_failAt N I_2 k0 (I_2 k0 2)) (fun I_6 : Mem =>
    some I_6))
set_option maxHeartbeats 4000000 in
set_option maxRecDepth 100000 in
theorem c4_takeLetter (l : Launch) (g : GG) (hG : Apart g NT) (N : Nat) (I : Mem) (k0 : Nat) (a1 : Int32) (t0 : tag k0 = 3) (I0 : Mem) (h : f4_takeLetter N I k0 a1 = some I0) : Mc l g yX4_takeLetter cX4_takeLetter 2 none rm4_takeLetter I [.ref (ga g k0), .int a1] none I0 := by
  refine Mc.of hG (by decide +kernel) (Nat.le_of_ble_eq_true rfl) ?_
  intro p e s m args below meth c ls X hr hlk hP hS hl
  have X : Cx g p s m args c cX4_takeLetter RX4 2 := X
  have hx := X.hx
  have hb := X.hb
  have hl : lv_has ls 2 [(0, .ref (ga g k0)), (1, .int a1)] := hl
  have locs : List Loc := []
  unfold f4_takeLetter at h
  refine lv_aload_n hx hb dX4_takeLetter_0 rfl (lv_at hl 0 rfl) ?_
  obtain ⟨q_1, I_2, hc_3, h⟩ := clP_e h
  refine r_callV (As := []) [] X (c4_present l g hG N _ _ t0 _ _ hc_3) cal_X4_present (im_X4_present) (se_X4_present) k_564 (tag_lt t0 (by decide)) (by rw [lay, t0]; rfl) rfl rfl ⟨rfl, rfl⟩ ⟨Nat.le_of_ble_eq_true rfl, Nat.le_of_ble_eq_true rfl⟩ hP hS hl.1 rfl (Nat.le_of_ble_eq_true rfl) dX4_takeLetter_1 ⟨Nat.zero_le _, Nat.zero_le _⟩ (fun H locs hP hS => ?_)
  show W p l e rm4_takeLetter s m args below meth c H locs 0 0 _ (F0 m 4 ls [.int q_1])
  refine lv_iload_n hx hb dX4_takeLetter_4 rfl (lv_at hl 1 rfl) ?_
  refine lv_icmp_ne (tgt := 21) hx hb dX4_takeLetter_5 (by decide) (fun c_4 => ?_) (fun c_4 => ?_)
  · replace h := ifn c_4 h
    refine lv_aload_n hx hb dX4_takeLetter_21 rfl (lv_at hl 0 rfl) ?_
    refine lv_aload_n hx hb dX4_takeLetter_22 rfl (lv_at hl 0 rfl) ?_
    refine g4_2 X hP t0 k_30 dX4_takeLetter_23 ?_
    obtain ⟨I_6, hc_7, h⟩ := clM_e h
    refine r_callV (As := [.int (I_2 k0 2)]) [] X (c4_failAt l g hG N _ _ _ t0 _ hc_7) cal_X4_failAt (im_X4_failAt) (se_X4_failAt) k_568 (tag_lt t0 (by decide)) (by rw [lay, t0]; rfl) rfl rfl ⟨rfl, rfl⟩ ⟨Nat.le_of_ble_eq_true rfl, Nat.le_of_ble_eq_true rfl⟩ hP hS hl.1 rfl (Nat.le_of_ble_eq_true rfl) dX4_takeLetter_26 ⟨Nat.zero_le _, Nat.zero_le _⟩ (fun H locs hP hS => ?_)
    show W p l e rm4_takeLetter s m args below meth c H locs 0 0 _ (F0 m 29 ls [])
    exact r_vret X hr hlk hP hS dX4_takeLetter_29 h
  · replace h := ifp c_4 h
    refine lv_aload_n hx hb dX4_takeLetter_8 rfl (lv_at hl 0 rfl) ?_
    refine lv_dup hx hb dX4_takeLetter_9 rfl ?_
    refine g4_2 X hP t0 k_30 dX4_takeLetter_10 ?_
    refine lv_iconst (v := (1 : Int32)) hx hb dX4_takeLetter_13 (by decide +kernel) ?_
    refine lv_iadd hx hb dX4_takeLetter_14 ?_
    obtain ⟨I_8, eI_8, h⟩ := letM_e h
    refine p4_2 X hP hS t0 k_30 eI_8 dX4_takeLetter_15 (fun H locs hP hS => ?_)
    refine lv_goto (tgt := 29) hx hb dX4_takeLetter_18 (by decide) ?_
    exact r_vret X hr hlk hP hS dX4_takeLetter_29 h
abbrev rm4_takeDigits : Room := { frames := 1, cells := 0, slots := 0, locals := 21 }
def f4_takeDigits_4 (N : Nat) (k0 : Nat) (a1 : Int32) : Nat → Mem → Int32 → Int32 → Option (Int32 × Mem)
  | 0, _, _, _ => none
  | cnt+1, I, v2, v3 =>
    if a1 ≤ v3 then
    some (v2, I)
    else
    clP (f4_present N I k0) (fun (q_2 : Int32) (I_3 : Mem) =>
    if q_2 < (48 : Int32) then
    clM (f4_failAt N I_3 k0 (I_3 k0 2)) (fun I_7 : Mem =>
    some ((0 : Int32), I_7))
    else
    if q_2 ≤ (57 : Int32) then
    letM ((v2 * (10 : Int32)) + (q_2 - (48 : Int32))) (fun x_10 : Int32 =>
    letM (st I_3 k0 2 ((I_3 k0 2) + (1 : Int32))) (fun I_11 : Mem =>
    letM (v3 + (1 : Int32)) (fun x_12 : Int32 =>
    f4_takeDigits_4 N k0 a1 cnt I_11 x_10 x_12)))
    else
    clM (f4_failAt N I_3 k0 (I_3 k0 2)) (fun I_14 : Mem =>
    some ((0 : Int32), I_14)))
def f4_takeDigits (N : Nat) (I : Mem) (k0 : Nat) (a1 : Int32) : Option (Int32 × Mem) :=
    f4_takeDigits_4 N k0 a1 N I (0 : Int32) (0 : Int32)
set_option maxHeartbeats 4000000 in
set_option maxRecDepth 100000 in
theorem L4_takeDigits_4 (hG : Apart g NT) (N : Nat) (k0 : Nat) (a1 : Int32) (t0 : tag k0 = 3) (X : Cx g p s m args c cX4_takeDigits RX4 5) (hr : meth.sig.returnType = (some .int)) (hlk : meth.locks = false) (r0 : Int32) (I0 : Mem) : ∀ (cnt : Nat) (I : Mem) (v2 : Int32) (v3 : Int32), f4_takeDigits_4 N k0 a1 cnt I v2 v3 = some (r0, I0) → ∀ (H : Heap) (locs : List Loc) (ls : Array Slot), Wp g I H → va_S (gA g) s.heap H locs → lv_has ls 5 [(0, .ref (ga g k0)), (1, .int a1), (2, .int v2), (3, .int v3)] → W p l e rm4_takeDigits s m args below meth c H locs 0 0 (MQ below (Qg g (some (.int r0)) I0) args s 0 0 (gA g)) (F0 m 4 ls []) := by
  have hx := X.hx
  have hb := X.hb
  intro cnt
  induction cnt with
  | zero =>
    intro I v2 v3 h
    rw [f4_takeDigits_4] at h
    cases h
  | succ cnt ih =>
    intro I v2 v3 h H locs ls hP hS hl
    rw [f4_takeDigits_4] at h
    refine lv_iload_n hx hb dX4_takeDigits_4 rfl (lv_at hl 3 rfl) ?_
    refine lv_iload_n hx hb dX4_takeDigits_5 rfl (lv_at hl 1 rfl) ?_
    refine lv_icmp_ge (tgt := 66) hx hb dX4_takeDigits_6 (by decide) (fun c_1 => ?_) (fun c_1 => ?_)
    · replace h := ifp c_1 h
      refine lv_iload_n hx hb dX4_takeDigits_66 rfl (lv_at hl 2 rfl) ?_
      exact r_iret X hr hlk hP hS dX4_takeDigits_67 h
    · replace h := ifn c_1 h
      refine lv_aload_n hx hb dX4_takeDigits_9 rfl (lv_at hl 0 rfl) ?_
      obtain ⟨q_2, I_3, hc_4, h⟩ := clP_e h
      refine r_callV (As := []) [] X (c4_present l g hG N _ _ t0 _ _ hc_4) cal_X4_present (im_X4_present) (se_X4_present) k_564 (tag_lt t0 (by decide)) (by rw [lay, t0]; rfl) rfl rfl ⟨rfl, rfl⟩ ⟨Nat.le_of_ble_eq_true rfl, Nat.le_of_ble_eq_true rfl⟩ hP hS hl.1 rfl (Nat.le_of_ble_eq_true rfl) dX4_takeDigits_10 ⟨Nat.zero_le _, Nat.zero_le _⟩ (fun H locs hP hS => ?_)
      show W p l e rm4_takeDigits s m args below meth c H locs 0 0 _ (F0 m 13 ls [.int q_2])
      refine lv_istore (lv' := [(4, .int q_2), (0, .ref (ga g k0)), (1, .int a1), (2, .int v2), (3, .int v3)]) hx hb dX4_takeDigits_13 hl (by decide) rfl (fun ls hl => ?_)
      refine lv_iload hx hb dX4_takeDigits_15 (lv_at hl 0 rfl) ?_
      refine lv_bipush (v := (48 : Int32)) hx hb dX4_takeDigits_17 (by decide +kernel) ?_
      refine lv_icmp_lt (tgt := 29) hx hb dX4_takeDigits_19 (by decide) (fun c_5 => ?_) (fun c_5 => ?_)
      · replace h := ifp c_5 h
        refine lv_aload_n hx hb dX4_takeDigits_29 rfl (lv_at hl 1 rfl) ?_
        refine lv_aload_n hx hb dX4_takeDigits_30 rfl (lv_at hl 1 rfl) ?_
        refine g4_2 X hP t0 k_30 dX4_takeDigits_31 ?_
        obtain ⟨I_7, hc_8, h⟩ := clM_e h
        refine r_callV (As := [.int (I_3 k0 2)]) [] X (c4_failAt l g hG N _ _ _ t0 _ hc_8) cal_X4_failAt (im_X4_failAt) (se_X4_failAt) k_568 (tag_lt t0 (by decide)) (by rw [lay, t0]; rfl) rfl rfl ⟨rfl, rfl⟩ ⟨Nat.le_of_ble_eq_true rfl, Nat.le_of_ble_eq_true rfl⟩ hP hS hl.1 rfl (Nat.le_of_ble_eq_true rfl) dX4_takeDigits_34 ⟨Nat.zero_le _, Nat.zero_le _⟩ (fun H locs hP hS => ?_)
        show W p l e rm4_takeDigits s m args below meth c H locs 0 0 _ (F0 m 37 ls [])
        refine lv_iconst (v := (0 : Int32)) hx hb dX4_takeDigits_37 (by decide +kernel) ?_
        exact r_iret X hr hlk hP hS dX4_takeDigits_38 h
      · replace h := ifn c_5 h
        refine lv_iload hx hb dX4_takeDigits_22 (lv_at hl 0 rfl) ?_
        refine lv_bipush (v := (57 : Int32)) hx hb dX4_takeDigits_24 (by decide +kernel) ?_
        refine lv_icmp_le (tgt := 39) hx hb dX4_takeDigits_26 (by decide) (fun c_9 => ?_) (fun c_9 => ?_)
        · replace h := ifp c_9 h
          refine lv_iload_n hx hb dX4_takeDigits_39 rfl (lv_at hl 3 rfl) ?_
          refine lv_bipush (v := (10 : Int32)) hx hb dX4_takeDigits_40 (by decide +kernel) ?_
          refine lv_imul hx hb dX4_takeDigits_42 ?_
          refine lv_iload hx hb dX4_takeDigits_43 (lv_at hl 0 rfl) ?_
          refine lv_bipush (v := (48 : Int32)) hx hb dX4_takeDigits_45 (by decide +kernel) ?_
          refine lv_isub hx hb dX4_takeDigits_47 ?_
          refine lv_iadd hx hb dX4_takeDigits_48 ?_
          obtain ⟨x_10, ex_10, h⟩ := letM_e h
          refine r_nmi ex_10 ?_
          refine lv_istore_n (lv' := [(2, .int x_10), (4, .int q_2), (0, .ref (ga g k0)), (1, .int a1), (3, .int v3)]) hx hb dX4_takeDigits_49 rfl hl (by decide) rfl (fun ls hl => ?_)
          refine lv_aload_n hx hb dX4_takeDigits_50 rfl (lv_at hl 2 rfl) ?_
          refine lv_dup hx hb dX4_takeDigits_51 rfl ?_
          refine g4_2 X hP t0 k_30 dX4_takeDigits_52 ?_
          refine lv_iconst (v := (1 : Int32)) hx hb dX4_takeDigits_55 (by decide +kernel) ?_
          refine lv_iadd hx hb dX4_takeDigits_56 ?_
          obtain ⟨I_11, eI_11, h⟩ := letM_e h
          refine p4_2 X hP hS t0 k_30 eI_11 dX4_takeDigits_57 (fun H locs hP hS => ?_)
          obtain ⟨x_12, ex_12, h⟩ := letM_e h
          refine lv_iinc (v := x_12) (lv' := [(3, .int x_12), (2, .int x_10), (4, .int q_2), (0, .ref (ga g k0)), (1, .int a1)]) hx hb dX4_takeDigits_60 hl (k := 4) rfl (by rw [ex_12]; rfl) (by decide) rfl (fun ls hl => ?_)
          refine lv_goto (tgt := 4) hx hb dX4_takeDigits_63 (by decide) ?_
          exact ih I_11 x_10 x_12 h _ _ _ hP hS (lv_sub hl [3, 4, 1, 0] rfl)
        · replace h := ifn c_9 h
          refine lv_aload_n hx hb dX4_takeDigits_29 rfl (lv_at hl 1 rfl) ?_
          refine lv_aload_n hx hb dX4_takeDigits_30 rfl (lv_at hl 1 rfl) ?_
          refine g4_2 X hP t0 k_30 dX4_takeDigits_31 ?_
          obtain ⟨I_14, hc_15, h⟩ := clM_e h
          refine r_callV (As := [.int (I_3 k0 2)]) [] X (c4_failAt l g hG N _ _ _ t0 _ hc_15) cal_X4_failAt (im_X4_failAt) (se_X4_failAt) k_568 (tag_lt t0 (by decide)) (by rw [lay, t0]; rfl) rfl rfl ⟨rfl, rfl⟩ ⟨Nat.le_of_ble_eq_true rfl, Nat.le_of_ble_eq_true rfl⟩ hP hS hl.1 rfl (Nat.le_of_ble_eq_true rfl) dX4_takeDigits_34 ⟨Nat.zero_le _, Nat.zero_le _⟩ (fun H locs hP hS => ?_)
          show W p l e rm4_takeDigits s m args below meth c H locs 0 0 _ (F0 m 37 ls [])
          refine lv_iconst (v := (0 : Int32)) hx hb dX4_takeDigits_37 (by decide +kernel) ?_
          exact r_iret X hr hlk hP hS dX4_takeDigits_38 h
set_option maxHeartbeats 4000000 in
set_option maxRecDepth 100000 in
theorem c4_takeDigits (l : Launch) (g : GG) (hG : Apart g NT) (N : Nat) (I : Mem) (k0 : Nat) (a1 : Int32) (t0 : tag k0 = 3) (r0 : Int32) (I0 : Mem) (h : f4_takeDigits N I k0 a1 = some (r0, I0)) : Mc l g yX4_takeDigits cX4_takeDigits 5 (some .int) rm4_takeDigits I [.ref (ga g k0), .int a1] (some (.int r0)) I0 := by
  refine Mc.of hG (by decide +kernel) (Nat.le_of_ble_eq_true rfl) ?_
  intro p e s m args below meth c ls X hr hlk hP hS hl
  have X : Cx g p s m args c cX4_takeDigits RX4 5 := X
  have hx := X.hx
  have hb := X.hb
  have hl : lv_has ls 5 [(0, .ref (ga g k0)), (1, .int a1)] := hl
  have locs : List Loc := []
  unfold f4_takeDigits at h
  refine lv_iconst (v := (0 : Int32)) hx hb dX4_takeDigits_0 (by decide +kernel) ?_
  refine lv_istore_n (lv' := [(2, .int (0 : Int32)), (0, .ref (ga g k0)), (1, .int a1)]) hx hb dX4_takeDigits_1 rfl hl (by decide) rfl (fun ls hl => ?_)
  refine lv_iconst (v := (0 : Int32)) hx hb dX4_takeDigits_2 (by decide +kernel) ?_
  refine lv_istore_n (lv' := [(3, .int (0 : Int32)), (2, .int (0 : Int32)), (0, .ref (ga g k0)), (1, .int a1)]) hx hb dX4_takeDigits_3 rfl hl (by decide) rfl (fun ls hl => ?_)
  exact L4_takeDigits_4 hG N k0 a1 t0 X hr hlk r0 I0 N I (0 : Int32) (0 : Int32) h _ _ _ hP hS (lv_sub hl [2, 3, 1, 0] rfl)
abbrev rm4_takePositive : Room := { frames := 2, cells := 0, slots := 0, locals := 45 }
def f4_takePositive (N : Nat) (I : Mem) (k0 : Nat) (a1 : Int32) : Option (Int32 × Mem) :=
    clP (f4_takeDigits N I k0 a1) (fun (q_1 : Int32) (I_2 : Mem) =>
    if q_1 = (0 : Int32) then
    clM (f4_failAt N I_2 k0 ((I_2 k0 2) - (1 : Int32))) (fun I_6 : Mem =>
    some (q_1, I_6))
    else
    some (q_1, I_2))
set_option maxHeartbeats 4000000 in
set_option maxRecDepth 100000 in
theorem c4_takePositive (l : Launch) (g : GG) (hG : Apart g NT) (N : Nat) (I : Mem) (k0 : Nat) (a1 : Int32) (t0 : tag k0 = 3) (r0 : Int32) (I0 : Mem) (h : f4_takePositive N I k0 a1 = some (r0, I0)) : Mc l g yX4_takePositive cX4_takePositive 3 (some .int) rm4_takePositive I [.ref (ga g k0), .int a1] (some (.int r0)) I0 := by
  refine Mc.of hG (by decide +kernel) (Nat.le_of_ble_eq_true rfl) ?_
  intro p e s m args below meth c ls X hr hlk hP hS hl
  have X : Cx g p s m args c cX4_takePositive RX4 3 := X
  have hx := X.hx
  have hb := X.hb
  have hl : lv_has ls 3 [(0, .ref (ga g k0)), (1, .int a1)] := hl
  have locs : List Loc := []
  unfold f4_takePositive at h
  refine lv_aload_n hx hb dX4_takePositive_0 rfl (lv_at hl 0 rfl) ?_
  refine lv_iload_n hx hb dX4_takePositive_1 rfl (lv_at hl 1 rfl) ?_
  obtain ⟨q_1, I_2, hc_3, h⟩ := clP_e h
  refine r_callV (As := [.int a1]) [] X (c4_takeDigits l g hG N _ _ _ t0 _ _ hc_3) cal_X4_takeDigits (im_X4_takeDigits) (se_X4_takeDigits) k_576 (tag_lt t0 (by decide)) (by rw [lay, t0]; rfl) rfl rfl ⟨rfl, rfl⟩ ⟨Nat.le_of_ble_eq_true rfl, Nat.le_of_ble_eq_true rfl⟩ hP hS hl.1 rfl (Nat.le_of_ble_eq_true rfl) dX4_takePositive_2 ⟨Nat.zero_le _, Nat.zero_le _⟩ (fun H locs hP hS => ?_)
  show W p l e rm4_takePositive s m args below meth c H locs 0 0 _ (F0 m 5 ls [.int q_1])
  refine lv_istore_n (lv' := [(2, .int q_1), (0, .ref (ga g k0)), (1, .int a1)]) hx hb dX4_takePositive_5 rfl hl (by decide) rfl (fun ls hl => ?_)
  refine lv_iload_n hx hb dX4_takePositive_6 rfl (lv_at hl 0 rfl) ?_
  refine lv_if_ne (tgt := 20) hx hb dX4_takePositive_7 (by decide) (fun c_4 => ?_) (fun c_4 => ?_)
  · replace h := ifn c_4 h
    refine lv_iload_n hx hb dX4_takePositive_20 rfl (lv_at hl 0 rfl) ?_
    exact r_iret X hr hlk hP hS dX4_takePositive_21 h
  · replace h := ifp c_4 h
    refine lv_aload_n hx hb dX4_takePositive_10 rfl (lv_at hl 1 rfl) ?_
    refine lv_aload_n hx hb dX4_takePositive_11 rfl (lv_at hl 1 rfl) ?_
    refine g4_2 X hP t0 k_30 dX4_takePositive_12 ?_
    refine lv_iconst (v := (1 : Int32)) hx hb dX4_takePositive_15 (by decide +kernel) ?_
    refine lv_isub hx hb dX4_takePositive_16 ?_
    obtain ⟨I_6, hc_7, h⟩ := clM_e h
    refine r_callV (As := [.int ((I_2 k0 2) - (1 : Int32))]) [] X (c4_failAt l g hG N _ _ _ t0 _ hc_7) cal_X4_failAt (im_X4_failAt) (se_X4_failAt) k_568 (tag_lt t0 (by decide)) (by rw [lay, t0]; rfl) rfl rfl ⟨rfl, rfl⟩ ⟨Nat.le_of_ble_eq_true rfl, Nat.le_of_ble_eq_true rfl⟩ hP hS hl.1 rfl (Nat.le_of_ble_eq_true rfl) dX4_takePositive_17 ⟨Nat.zero_le _, Nat.zero_le _⟩ (fun H locs hP hS => ?_)
    show W p l e rm4_takePositive s m args below meth c H locs 0 0 _ (F0 m 20 ls [])
    refine lv_iload_n hx hb dX4_takePositive_20 rfl (lv_at hl 0 rfl) ?_
    exact r_iret X hr hlk hP hS dX4_takePositive_21 h
abbrev rm5_isFull : Room := { frames := 0, cells := 0, slots := 0, locals := 0 }
def f5_isFull (N : Nat) (I : Mem) (k0 : Nat) : Option (Int32 × Mem) :=
    if (I k0 5) < (8 : Int32) then
    some ((0 : Int32), I)
    else
    some ((1 : Int32), I)
set_option maxHeartbeats 4000000 in
set_option maxRecDepth 100000 in
theorem c5_isFull (l : Launch) (g : GG) (hG : Apart g NT) (N : Nat) (I : Mem) (k0 : Nat) (t0 : tag k0 = 4) (r0 : Int32) (I0 : Mem) (h : f5_isFull N I k0 = some (r0, I0)) : Mc l g yX5_isFull cX5_isFull 1 (some .boolean) rm5_isFull I [.ref (ga g k0)] (some (.int r0)) I0 := by
  refine Mc.of hG (by decide +kernel) (Nat.le_of_ble_eq_true rfl) ?_
  intro p e s m args below meth c ls X hr hlk hP hS hl
  have X : Cx g p s m args c cX5_isFull RX5 1 := X
  have hx := X.hx
  have hb := X.hb
  have hl : lv_has ls 1 [(0, .ref (ga g k0))] := hl
  have locs : List Loc := []
  unfold f5_isFull at h
  refine lv_aload_n hx hb dX5_isFull_0 rfl (lv_at hl 0 rfl) ?_
  refine g5_5 X hP t0 k_59 dX5_isFull_1 ?_
  refine lv_bipush (v := (8 : Int32)) hx hb dX5_isFull_4 (by decide +kernel) ?_
  refine lv_icmp_lt (tgt := 13) hx hb dX5_isFull_6 (by decide) (fun c_1 => ?_) (fun c_1 => ?_)
  · replace h := ifp c_1 h
    refine lv_iconst (v := (0 : Int32)) hx hb dX5_isFull_13 (by decide +kernel) ?_
    exact r_zret X hr hlk hP hS rfl dX5_isFull_14 h
  · replace h := ifn c_1 h
    refine lv_iconst (v := (1 : Int32)) hx hb dX5_isFull_9 (by decide +kernel) ?_
    refine lv_goto (tgt := 14) hx hb dX5_isFull_10 (by decide) ?_
    exact r_zret X hr hlk hP hS rfl dX5_isFull_14 h
abbrev rm5_addItem : Room := { frames := 1, cells := 0, slots := 0, locals := 20 }
def f5_addItem (N : Nat) (I : Mem) (k0 : Nat) (a1 : Int32) (a2 : Int32) (a3 : Int32) : Option (Mem) :=
    clP (f5_isFull N I k0) (fun (q_1 : Int32) (I_2 : Mem) =>
    if q_1 = (0 : Int32) then
    if (0 : Int32) ≤ (I_2 k0 5) then
    if ((I_2 k0 5) < (0 : Int32) ∨ 8 ≤ (I_2 k0 5).toNatClampNeg) then none else
    letM (st I_2 (k0 + 1) ((I_2 k0 5).toNatClampNeg) a1) (fun I_7 : Mem =>
    if ((I_7 k0 5) < (0 : Int32) ∨ 8 ≤ (I_7 k0 5).toNatClampNeg) then none else
    letM (st I_7 (k0 + 2) ((I_7 k0 5).toNatClampNeg) a2) (fun I_9 : Mem =>
    if ((I_9 k0 5) < (0 : Int32) ∨ 8 ≤ (I_9 k0 5).toNatClampNeg) then none else
    letM (st I_9 (k0 + 3) ((I_9 k0 5).toNatClampNeg) a3) (fun I_11 : Mem =>
    letM (st I_11 k0 5 ((I_11 k0 5) + (1 : Int32))) (fun I_12 : Mem =>
    some I_12))))
    else
    some I_2
    else
    some I_2)
set_option maxHeartbeats 4000000 in
set_option maxRecDepth 100000 in
theorem c5_addItem (l : Launch) (g : GG) (hG : Apart g NT) (N : Nat) (I : Mem) (k0 : Nat) (a1 : Int32) (a2 : Int32) (a3 : Int32) (t0 : tag k0 = 4) (I0 : Mem) (h : f5_addItem N I k0 a1 a2 a3 = some I0) : Mc l g yX5_addItem cX5_addItem 4 none rm5_addItem I [.ref (ga g k0), .int a1, .int a2, .int a3] none I0 := by
  refine Mc.of hG (by decide +kernel) (Nat.le_of_ble_eq_true rfl) ?_
  intro p e s m args below meth c ls X hr hlk hP hS hl
  have X : Cx g p s m args c cX5_addItem RX5 4 := X
  have hx := X.hx
  have hb := X.hb
  have hl : lv_has ls 4 [(0, .ref (ga g k0)), (1, .int a1), (2, .int a2), (3, .int a3)] := hl
  have locs : List Loc := []
  unfold f5_addItem at h
  refine lv_aload_n hx hb dX5_addItem_0 rfl (lv_at hl 0 rfl) ?_
  obtain ⟨q_1, I_2, hc_3, h⟩ := clP_e h
  refine r_callV (As := []) [] X (c5_isFull l g hG N _ _ t0 _ _ hc_3) cal_X5_isFull (im_X5_isFull) (se_X5_isFull) k_343 (tag_lt t0 (by decide)) (by rw [lay, t0]; rfl) rfl rfl ⟨rfl, rfl⟩ ⟨Nat.le_of_ble_eq_true rfl, Nat.le_of_ble_eq_true rfl⟩ hP hS hl.1 rfl (Nat.le_of_ble_eq_true rfl) dX5_addItem_1 ⟨Nat.zero_le _, Nat.zero_le _⟩ (fun H locs hP hS => ?_)
  show W p l e rm5_addItem s m args below meth c H locs 0 0 _ (F0 m 4 ls [.int q_1])
  refine lv_if_ne (tgt := 14) hx hb dX5_addItem_4 (by decide) (fun c_4 => ?_) (fun c_4 => ?_)
  · replace h := ifn c_4 h
    exact r_vret X hr hlk hP hS dX5_addItem_14 h
  · replace h := ifp c_4 h
    refine lv_aload_n hx hb dX5_addItem_7 rfl (lv_at hl 0 rfl) ?_
    refine g5_5 X hP t0 k_59 dX5_addItem_8 ?_
    refine lv_if_ge (tgt := 15) hx hb dX5_addItem_11 (by decide) (fun c_5 => ?_) (fun c_5 => ?_)
    · replace h := ifp c_5 h
      refine lv_aload_n hx hb dX5_addItem_15 rfl (lv_at hl 0 rfl) ?_
      refine g5_6 X hP t0 k_61 dX5_addItem_16 ?_
      refine lv_aload_n hx hb dX5_addItem_19 rfl (lv_at hl 0 rfl) ?_
      refine g5_5 X hP t0 k_59 dX5_addItem_20 ?_
      refine lv_iload_n hx hb dX5_addItem_23 rfl (lv_at hl 1 rfl) ?_
      obtain ⟨g_6, h⟩ := gd_e h
      obtain ⟨I_7, eI_7, h⟩ := letM_e h
      refine r_iast (n := 8) X hP hS (g5_6_t t0) g_6 (j := (I_2 k0 5).toNatClampNeg) rfl eI_7 dX5_addItem_24 (fun H locs hP hS => ?_)
      refine lv_aload_n hx hb dX5_addItem_25 rfl (lv_at hl 0 rfl) ?_
      refine g5_7 X hP t0 k_62 dX5_addItem_26 ?_
      refine lv_aload_n hx hb dX5_addItem_29 rfl (lv_at hl 0 rfl) ?_
      refine g5_5 X hP t0 k_59 dX5_addItem_30 ?_
      refine lv_iload_n hx hb dX5_addItem_33 rfl (lv_at hl 2 rfl) ?_
      obtain ⟨g_8, h⟩ := gd_e h
      obtain ⟨I_9, eI_9, h⟩ := letM_e h
      refine r_iast (n := 8) X hP hS (g5_7_t t0) g_8 (j := (I_7 k0 5).toNatClampNeg) rfl eI_9 dX5_addItem_34 (fun H locs hP hS => ?_)
      refine lv_aload_n hx hb dX5_addItem_35 rfl (lv_at hl 0 rfl) ?_
      refine g5_8 X hP t0 k_63 dX5_addItem_36 ?_
      refine lv_aload_n hx hb dX5_addItem_39 rfl (lv_at hl 0 rfl) ?_
      refine g5_5 X hP t0 k_59 dX5_addItem_40 ?_
      refine lv_iload_n hx hb dX5_addItem_43 rfl (lv_at hl 3 rfl) ?_
      obtain ⟨g_10, h⟩ := gd_e h
      obtain ⟨I_11, eI_11, h⟩ := letM_e h
      refine r_iast (n := 8) X hP hS (g5_8_t t0) g_10 (j := (I_9 k0 5).toNatClampNeg) rfl eI_11 dX5_addItem_44 (fun H locs hP hS => ?_)
      refine lv_aload_n hx hb dX5_addItem_45 rfl (lv_at hl 0 rfl) ?_
      refine lv_dup hx hb dX5_addItem_46 rfl ?_
      refine g5_5 X hP t0 k_59 dX5_addItem_47 ?_
      refine lv_iconst (v := (1 : Int32)) hx hb dX5_addItem_50 (by decide +kernel) ?_
      refine lv_iadd hx hb dX5_addItem_51 ?_
      obtain ⟨I_12, eI_12, h⟩ := letM_e h
      refine p5_5 X hP hS t0 k_59 eI_12 dX5_addItem_52 (fun H locs hP hS => ?_)
      exact r_vret X hr hlk hP hS dX5_addItem_55 h
    · replace h := ifn c_5 h
      exact r_vret X hr hlk hP hS dX5_addItem_14 h
abbrev rm4_takeDistance : Room := { frames := 2, cells := 0, slots := 0, locals := 45 }
def f4_takeDistance_27 (N : Nat) (k0 : Nat) (I : Mem) (v1 : Int32) : Option (Int32 × Mem) :=
    letM (st I k0 2 ((I k0 2) + (1 : Int32))) (fun I_5 : Mem =>
    clP (f4_takeDigits N I_5 k0 (3 : Int32)) (fun (q_6 : Int32) (I_7 : Mem) =>
    if v1 = (45 : Int32) then
    some ((-q_6), I_7)
    else
    some (q_6, I_7)))
def f4_takeDistance (N : Nat) (I : Mem) (k0 : Nat) : Option (Int32 × Mem) :=
    clP (f4_present N I k0) (fun (q_1 : Int32) (I_2 : Mem) =>
    if q_1 = (43 : Int32) then
    f4_takeDistance_27 N k0 I_2 q_1
    else
    if q_1 = (45 : Int32) then
    f4_takeDistance_27 N k0 I_2 q_1
    else
    clM (f4_failAt N I_2 k0 (I_2 k0 2)) (fun I_12 : Mem =>
    some ((0 : Int32), I_12)))
set_option maxHeartbeats 4000000 in
set_option maxRecDepth 100000 in
theorem L4_takeDistance_27 (hG : Apart g NT) (N : Nat) (k0 : Nat) (t0 : tag k0 = 3) (X : Cx g p s m args c cX4_takeDistance RX4 3) (hr : meth.sig.returnType = (some .int)) (hlk : meth.locks = false) (r0 : Int32) (I0 : Mem) : ∀ (I : Mem) (v1 : Int32), f4_takeDistance_27 N k0 I v1 = some (r0, I0) → ∀ (H : Heap) (locs : List Loc) (ls : Array Slot), Wp g I H → va_S (gA g) s.heap H locs → lv_has ls 3 [(0, .ref (ga g k0)), (1, .int v1)] → W p l e rm4_takeDistance s m args below meth c H locs 0 0 (MQ below (Qg g (some (.int r0)) I0) args s 0 0 (gA g)) (F0 m 27 ls []) := by
  have hx := X.hx
  have hb := X.hb
  intro I v1 h H locs ls hP hS hl
  unfold f4_takeDistance_27 at h
  refine lv_aload_n hx hb dX4_takeDistance_27 rfl (lv_at hl 0 rfl) ?_
  refine lv_dup hx hb dX4_takeDistance_28 rfl ?_
  refine g4_2 X hP t0 k_30 dX4_takeDistance_29 ?_
  refine lv_iconst (v := (1 : Int32)) hx hb dX4_takeDistance_32 (by decide +kernel) ?_
  refine lv_iadd hx hb dX4_takeDistance_33 ?_
  obtain ⟨I_5, eI_5, h⟩ := letM_e h
  refine p4_2 X hP hS t0 k_30 eI_5 dX4_takeDistance_34 (fun H locs hP hS => ?_)
  refine lv_aload_n hx hb dX4_takeDistance_37 rfl (lv_at hl 0 rfl) ?_
  refine lv_iconst (v := (3 : Int32)) hx hb dX4_takeDistance_38 (by decide +kernel) ?_
  obtain ⟨q_6, I_7, hc_8, h⟩ := clP_e h
  refine r_callV (As := [.int (3 : Int32)]) [] X (c4_takeDigits l g hG N _ _ _ t0 _ _ hc_8) cal_X4_takeDigits (im_X4_takeDigits) (se_X4_takeDigits) k_576 (tag_lt t0 (by decide)) (by rw [lay, t0]; rfl) rfl rfl ⟨rfl, rfl⟩ ⟨Nat.le_of_ble_eq_true rfl, Nat.le_of_ble_eq_true rfl⟩ hP hS hl.1 rfl (Nat.le_of_ble_eq_true rfl) dX4_takeDistance_39 ⟨Nat.zero_le _, Nat.zero_le _⟩ (fun H locs hP hS => ?_)
  show W p l e rm4_takeDistance s m args below meth c H locs 0 0 _ (F0 m 42 ls [.int q_6])
  refine lv_istore_n (lv' := [(2, .int q_6), (0, .ref (ga g k0)), (1, .int v1)]) hx hb dX4_takeDistance_42 rfl hl (by decide) rfl (fun ls hl => ?_)
  refine lv_iload_n hx hb dX4_takeDistance_43 rfl (lv_at hl 2 rfl) ?_
  refine lv_bipush (v := (45 : Int32)) hx hb dX4_takeDistance_44 (by decide +kernel) ?_
  refine lv_icmp_ne (tgt := 54) hx hb dX4_takeDistance_46 (by decide) (fun c_9 => ?_) (fun c_9 => ?_)
  · replace h := ifn c_9 h
    refine lv_iload_n hx hb dX4_takeDistance_54 rfl (lv_at hl 0 rfl) ?_
    exact r_iret X hr hlk hP hS dX4_takeDistance_55 h
  · replace h := ifp c_9 h
    refine lv_iload_n hx hb dX4_takeDistance_49 rfl (lv_at hl 0 rfl) ?_
    refine lv_ineg hx hb dX4_takeDistance_50 ?_
    refine lv_goto (tgt := 55) hx hb dX4_takeDistance_51 (by decide) ?_
    exact r_iret X hr hlk hP hS dX4_takeDistance_55 h
set_option maxHeartbeats 4000000 in
set_option maxRecDepth 100000 in
theorem c4_takeDistance (l : Launch) (g : GG) (hG : Apart g NT) (N : Nat) (I : Mem) (k0 : Nat) (t0 : tag k0 = 3) (r0 : Int32) (I0 : Mem) (h : f4_takeDistance N I k0 = some (r0, I0)) : Mc l g yX4_takeDistance cX4_takeDistance 3 (some .int) rm4_takeDistance I [.ref (ga g k0)] (some (.int r0)) I0 := by
  refine Mc.of hG (by decide +kernel) (Nat.le_of_ble_eq_true rfl) ?_
  intro p e s m args below meth c ls X hr hlk hP hS hl
  have X : Cx g p s m args c cX4_takeDistance RX4 3 := X
  have hx := X.hx
  have hb := X.hb
  have hl : lv_has ls 3 [(0, .ref (ga g k0))] := hl
  have locs : List Loc := []
  unfold f4_takeDistance at h
  refine lv_aload_n hx hb dX4_takeDistance_0 rfl (lv_at hl 0 rfl) ?_
  obtain ⟨q_1, I_2, hc_3, h⟩ := clP_e h
  refine r_callV (As := []) [] X (c4_present l g hG N _ _ t0 _ _ hc_3) cal_X4_present (im_X4_present) (se_X4_present) k_564 (tag_lt t0 (by decide)) (by rw [lay, t0]; rfl) rfl rfl ⟨rfl, rfl⟩ ⟨Nat.le_of_ble_eq_true rfl, Nat.le_of_ble_eq_true rfl⟩ hP hS hl.1 rfl (Nat.le_of_ble_eq_true rfl) dX4_takeDistance_1 ⟨Nat.zero_le _, Nat.zero_le _⟩ (fun H locs hP hS => ?_)
  show W p l e rm4_takeDistance s m args below meth c H locs 0 0 _ (F0 m 4 ls [.int q_1])
  refine lv_istore_n (lv' := [(1, .int q_1), (0, .ref (ga g k0))]) hx hb dX4_takeDistance_4 rfl hl (by decide) rfl (fun ls hl => ?_)
  refine lv_iload_n hx hb dX4_takeDistance_5 rfl (lv_at hl 0 rfl) ?_
  refine lv_bipush (v := (43 : Int32)) hx hb dX4_takeDistance_6 (by decide +kernel) ?_
  refine lv_icmp_eq (tgt := 27) hx hb dX4_takeDistance_8 (by decide) (fun c_4 => ?_) (fun c_4 => ?_)
  · replace h := ifp c_4 h
    exact L4_takeDistance_27 hG N k0 t0 X hr hlk r0 I0 I_2 q_1 h _ _ _ hP hS (lv_sub hl [1, 0] rfl)
  · replace h := ifn c_4 h
    refine lv_iload_n hx hb dX4_takeDistance_11 rfl (lv_at hl 0 rfl) ?_
    refine lv_bipush (v := (45 : Int32)) hx hb dX4_takeDistance_12 (by decide +kernel) ?_
    refine lv_icmp_eq (tgt := 27) hx hb dX4_takeDistance_14 (by decide) (fun c_10 => ?_) (fun c_10 => ?_)
    · replace h := ifp c_10 h
      exact L4_takeDistance_27 hG N k0 t0 X hr hlk r0 I0 I_2 q_1 h _ _ _ hP hS (lv_sub hl [1, 0] rfl)
    · replace h := ifn c_10 h
      refine lv_aload_n hx hb dX4_takeDistance_17 rfl (lv_at hl 1 rfl) ?_
      refine lv_aload_n hx hb dX4_takeDistance_18 rfl (lv_at hl 1 rfl) ?_
      refine g4_2 X hP t0 k_30 dX4_takeDistance_19 ?_
      obtain ⟨I_12, hc_13, h⟩ := clM_e h
      refine r_callV (As := [.int (I_2 k0 2)]) [] X (c4_failAt l g hG N _ _ _ t0 _ hc_13) cal_X4_failAt (im_X4_failAt) (se_X4_failAt) k_568 (tag_lt t0 (by decide)) (by rw [lay, t0]; rfl) rfl rfl ⟨rfl, rfl⟩ ⟨Nat.le_of_ble_eq_true rfl, Nat.le_of_ble_eq_true rfl⟩ hP hS hl.1 rfl (Nat.le_of_ble_eq_true rfl) dX4_takeDistance_22 ⟨Nat.zero_le _, Nat.zero_le _⟩ (fun H locs hP hS => ?_)
      show W p l e rm4_takeDistance s m args below meth c H locs 0 0 _ (F0 m 25 ls [])
      refine lv_iconst (v := (0 : Int32)) hx hb dX4_takeDistance_25 (by decide +kernel) ?_
      exact r_iret X hr hlk hP hS dX4_takeDistance_26 h
abbrev rm4_takeItem : Room := { frames := 3, cells := 0, slots := 0, locals := 67 }
def f4_takeItem_33 (N : Nat) (k0 : Nat) (k1 : Nat) (I : Mem) (v2 : Int32) : Option (Mem) :=
    letM (st I k0 2 ((I k0 2) + (1 : Int32))) (fun I_12 : Mem =>
    if v2 = (119 : Int32) then
    clP (f4_takePositive N I_12 k0 (4 : Int32)) (fun (q_34 : Int32) (I_35 : Mem) =>
    clM (f5_addItem N I_35 k1 (0 : Int32) (0 : Int32) q_34) (fun I_38 : Mem =>
    some I_38))
    else
    clP (f4_takeDistance N I_12 k0) (fun (q_14 : Int32) (I_15 : Mem) =>
    clP (f4_takeDistance N I_15 k0) (fun (q_17 : Int32) (I_18 : Mem) =>
    if q_14 = (0 : Int32) then
    if q_17 = (0 : Int32) then
    clM (f4_failAt N I_18 k0 ((I_18 k0 2) - (1 : Int32))) (fun I_29 : Mem =>
    clM (f5_addItem N I_29 k1 q_14 q_17 (0 : Int32)) (fun I_32 : Mem =>
    some I_32))
    else
    clM (f5_addItem N I_18 k1 q_14 q_17 (0 : Int32)) (fun I_26 : Mem =>
    some I_26)
    else
    clM (f5_addItem N I_18 k1 q_14 q_17 (0 : Int32)) (fun I_22 : Mem =>
    some I_22))))
def f4_takeItem (N : Nat) (I : Mem) (k0 : Nat) (k1 : Nat) : Option (Mem) :=
    clP (f4_present N I k0) (fun (q_1 : Int32) (I_2 : Mem) =>
    clP (f5_isFull N I_2 k1) (fun (q_4 : Int32) (I_5 : Mem) =>
    if q_4 = (0 : Int32) then
    if q_1 = (109 : Int32) then
    f4_takeItem_33 N k0 k1 I_5 q_1
    else
    if q_1 = (119 : Int32) then
    f4_takeItem_33 N k0 k1 I_5 q_1
    else
    clM (f4_failAt N I_5 k0 (I_5 k0 2)) (fun I_42 : Mem =>
    some I_42)
    else
    clM (f4_failAt N I_5 k0 (I_5 k0 2)) (fun I_9 : Mem =>
    some I_9)))
set_option maxHeartbeats 4000000 in
set_option maxRecDepth 100000 in
theorem L4_takeItem_33 (hG : Apart g NT) (N : Nat) (k0 : Nat) (k1 : Nat) (t0 : tag k0 = 3) (t1 : tag k1 = 4) (X : Cx g p s m args c cX4_takeItem RX4 5) (hr : meth.sig.returnType = none) (hlk : meth.locks = false) (I0 : Mem) : ∀ (I : Mem) (v2 : Int32), f4_takeItem_33 N k0 k1 I v2 = some I0 → ∀ (H : Heap) (locs : List Loc) (ls : Array Slot), Wp g I H → va_S (gA g) s.heap H locs → lv_has ls 5 [(0, .ref (ga g k0)), (1, .ref (ga g k1)), (2, .int v2)] → W p l e rm4_takeItem s m args below meth c H locs 0 0 (MQ below (Qg g none I0) args s 0 0 (gA g)) (F0 m 33 ls []) := by
  have hx := X.hx
  have hb := X.hb
  intro I v2 h H locs ls hP hS hl
  unfold f4_takeItem_33 at h
  refine lv_aload_n hx hb dX4_takeItem_33 rfl (lv_at hl 0 rfl) ?_
  refine lv_dup hx hb dX4_takeItem_34 rfl ?_
  refine g4_2 X hP t0 k_30 dX4_takeItem_35 ?_
  refine lv_iconst (v := (1 : Int32)) hx hb dX4_takeItem_38 (by decide +kernel) ?_
  refine lv_iadd hx hb dX4_takeItem_39 ?_
  obtain ⟨I_12, eI_12, h⟩ := letM_e h
  refine p4_2 X hP hS t0 k_30 eI_12 dX4_takeItem_40 (fun H locs hP hS => ?_)
  refine lv_iload_n hx hb dX4_takeItem_43 rfl (lv_at hl 2 rfl) ?_
  refine lv_bipush (v := (119 : Int32)) hx hb dX4_takeItem_44 (by decide +kernel) ?_
  refine lv_icmp_ne (tgt := 61) hx hb dX4_takeItem_46 (by decide) (fun c_13 => ?_) (fun c_13 => ?_)
  · replace h := ifn c_13 h
    refine lv_aload_n hx hb dX4_takeItem_61 rfl (lv_at hl 0 rfl) ?_
    obtain ⟨q_14, I_15, hc_16, h⟩ := clP_e h
    refine r_callV (As := []) [] X (c4_takeDistance l g hG N _ _ t0 _ _ hc_16) cal_X4_takeDistance (im_X4_takeDistance) (se_X4_takeDistance) k_586 (tag_lt t0 (by decide)) (by rw [lay, t0]; rfl) rfl rfl ⟨rfl, rfl⟩ ⟨Nat.le_of_ble_eq_true rfl, Nat.le_of_ble_eq_true rfl⟩ hP hS hl.1 rfl (Nat.le_of_ble_eq_true rfl) dX4_takeItem_62 ⟨Nat.zero_le _, Nat.zero_le _⟩ (fun H locs hP hS => ?_)
    show W p l e rm4_takeItem s m args below meth c H locs 0 0 _ (F0 m 65 ls [.int q_14])
    refine lv_istore_n (lv' := [(3, .int q_14), (0, .ref (ga g k0)), (1, .ref (ga g k1)), (2, .int v2)]) hx hb dX4_takeItem_65 rfl hl (by decide) rfl (fun ls hl => ?_)
    refine lv_aload_n hx hb dX4_takeItem_66 rfl (lv_at hl 1 rfl) ?_
    obtain ⟨q_17, I_18, hc_19, h⟩ := clP_e h
    refine r_callV (As := []) [] X (c4_takeDistance l g hG N _ _ t0 _ _ hc_19) cal_X4_takeDistance (im_X4_takeDistance) (se_X4_takeDistance) k_586 (tag_lt t0 (by decide)) (by rw [lay, t0]; rfl) rfl rfl ⟨rfl, rfl⟩ ⟨Nat.le_of_ble_eq_true rfl, Nat.le_of_ble_eq_true rfl⟩ hP hS hl.1 rfl (Nat.le_of_ble_eq_true rfl) dX4_takeItem_67 ⟨Nat.zero_le _, Nat.zero_le _⟩ (fun H locs hP hS => ?_)
    show W p l e rm4_takeItem s m args below meth c H locs 0 0 _ (F0 m 70 ls [.int q_17])
    refine lv_istore (lv' := [(4, .int q_17), (3, .int q_14), (0, .ref (ga g k0)), (1, .ref (ga g k1)), (2, .int v2)]) hx hb dX4_takeItem_70 hl (by decide) rfl (fun ls hl => ?_)
    refine lv_iload_n hx hb dX4_takeItem_72 rfl (lv_at hl 1 rfl) ?_
    refine lv_if_ne (tgt := 91) hx hb dX4_takeItem_73 (by decide) (fun c_20 => ?_) (fun c_20 => ?_)
    · replace h := ifn c_20 h
      refine lv_aload_n hx hb dX4_takeItem_91 rfl (lv_at hl 3 rfl) ?_
      refine lv_iload_n hx hb dX4_takeItem_92 rfl (lv_at hl 1 rfl) ?_
      refine lv_iload hx hb dX4_takeItem_93 (lv_at hl 0 rfl) ?_
      refine lv_iconst (v := (0 : Int32)) hx hb dX4_takeItem_95 (by decide +kernel) ?_
      obtain ⟨I_22, hc_23, h⟩ := clM_e h
      refine r_callV (As := [.int q_14, .int q_17, .int (0 : Int32)]) [] X (c5_addItem l g hG N _ _ _ _ _ t1 _ hc_23) cal_X5_addItem (im_X5_addItem) (se_X5_addItem) k_585 (tag_lt t1 (by decide)) (by rw [lay, t1]; rfl) rfl rfl ⟨rfl, rfl⟩ ⟨Nat.le_of_ble_eq_true rfl, Nat.le_of_ble_eq_true rfl⟩ hP hS hl.1 rfl (Nat.le_of_ble_eq_true rfl) dX4_takeItem_96 ⟨Nat.zero_le _, Nat.zero_le _⟩ (fun H locs hP hS => ?_)
      show W p l e rm4_takeItem s m args below meth c H locs 0 0 _ (F0 m 99 ls [])
      exact r_vret X hr hlk hP hS dX4_takeItem_99 h
    · replace h := ifp c_20 h
      refine lv_iload hx hb dX4_takeItem_76 (lv_at hl 0 rfl) ?_
      refine lv_if_ne (tgt := 91) hx hb dX4_takeItem_78 (by decide) (fun c_24 => ?_) (fun c_24 => ?_)
      · replace h := ifn c_24 h
        refine lv_aload_n hx hb dX4_takeItem_91 rfl (lv_at hl 3 rfl) ?_
        refine lv_iload_n hx hb dX4_takeItem_92 rfl (lv_at hl 1 rfl) ?_
        refine lv_iload hx hb dX4_takeItem_93 (lv_at hl 0 rfl) ?_
        refine lv_iconst (v := (0 : Int32)) hx hb dX4_takeItem_95 (by decide +kernel) ?_
        obtain ⟨I_26, hc_27, h⟩ := clM_e h
        refine r_callV (As := [.int q_14, .int q_17, .int (0 : Int32)]) [] X (c5_addItem l g hG N _ _ _ _ _ t1 _ hc_27) cal_X5_addItem (im_X5_addItem) (se_X5_addItem) k_585 (tag_lt t1 (by decide)) (by rw [lay, t1]; rfl) rfl rfl ⟨rfl, rfl⟩ ⟨Nat.le_of_ble_eq_true rfl, Nat.le_of_ble_eq_true rfl⟩ hP hS hl.1 rfl (Nat.le_of_ble_eq_true rfl) dX4_takeItem_96 ⟨Nat.zero_le _, Nat.zero_le _⟩ (fun H locs hP hS => ?_)
        show W p l e rm4_takeItem s m args below meth c H locs 0 0 _ (F0 m 99 ls [])
        exact r_vret X hr hlk hP hS dX4_takeItem_99 h
      · replace h := ifp c_24 h
        refine lv_aload_n hx hb dX4_takeItem_81 rfl (lv_at hl 2 rfl) ?_
        refine lv_aload_n hx hb dX4_takeItem_82 rfl (lv_at hl 2 rfl) ?_
        refine g4_2 X hP t0 k_30 dX4_takeItem_83 ?_
        refine lv_iconst (v := (1 : Int32)) hx hb dX4_takeItem_86 (by decide +kernel) ?_
        refine lv_isub hx hb dX4_takeItem_87 ?_
        obtain ⟨I_29, hc_30, h⟩ := clM_e h
        refine r_callV (As := [.int ((I_18 k0 2) - (1 : Int32))]) [] X (c4_failAt l g hG N _ _ _ t0 _ hc_30) cal_X4_failAt (im_X4_failAt) (se_X4_failAt) k_568 (tag_lt t0 (by decide)) (by rw [lay, t0]; rfl) rfl rfl ⟨rfl, rfl⟩ ⟨Nat.le_of_ble_eq_true rfl, Nat.le_of_ble_eq_true rfl⟩ hP hS hl.1 rfl (Nat.le_of_ble_eq_true rfl) dX4_takeItem_88 ⟨Nat.zero_le _, Nat.zero_le _⟩ (fun H locs hP hS => ?_)
        show W p l e rm4_takeItem s m args below meth c H locs 0 0 _ (F0 m 91 ls [])
        refine lv_aload_n hx hb dX4_takeItem_91 rfl (lv_at hl 3 rfl) ?_
        refine lv_iload_n hx hb dX4_takeItem_92 rfl (lv_at hl 1 rfl) ?_
        refine lv_iload hx hb dX4_takeItem_93 (lv_at hl 0 rfl) ?_
        refine lv_iconst (v := (0 : Int32)) hx hb dX4_takeItem_95 (by decide +kernel) ?_
        obtain ⟨I_32, hc_33, h⟩ := clM_e h
        refine r_callV (As := [.int q_14, .int q_17, .int (0 : Int32)]) [] X (c5_addItem l g hG N _ _ _ _ _ t1 _ hc_33) cal_X5_addItem (im_X5_addItem) (se_X5_addItem) k_585 (tag_lt t1 (by decide)) (by rw [lay, t1]; rfl) rfl rfl ⟨rfl, rfl⟩ ⟨Nat.le_of_ble_eq_true rfl, Nat.le_of_ble_eq_true rfl⟩ hP hS hl.1 rfl (Nat.le_of_ble_eq_true rfl) dX4_takeItem_96 ⟨Nat.zero_le _, Nat.zero_le _⟩ (fun H locs hP hS => ?_)
        show W p l e rm4_takeItem s m args below meth c H locs 0 0 _ (F0 m 99 ls [])
        exact r_vret X hr hlk hP hS dX4_takeItem_99 h
  · replace h := ifp c_13 h
    refine lv_aload_n hx hb dX4_takeItem_49 rfl (lv_at hl 1 rfl) ?_
    refine lv_iconst (v := (0 : Int32)) hx hb dX4_takeItem_50 (by decide +kernel) ?_
    refine lv_iconst (v := (0 : Int32)) hx hb dX4_takeItem_51 (by decide +kernel) ?_
    refine lv_aload_n hx hb dX4_takeItem_52 rfl (lv_at hl 0 rfl) ?_
    refine lv_iconst (v := (4 : Int32)) hx hb dX4_takeItem_53 (by decide +kernel) ?_
    obtain ⟨q_34, I_35, hc_36, h⟩ := clP_e h
    refine r_callV (As := [.int (4 : Int32)]) [.int (0 : Int32), .int (0 : Int32), .ref (ga g k1)] X (c4_takePositive l g hG N _ _ _ t0 _ _ hc_36) cal_X4_takePositive (im_X4_takePositive) (se_X4_takePositive) k_572 (tag_lt t0 (by decide)) (by rw [lay, t0]; rfl) rfl rfl ⟨rfl, rfl⟩ ⟨Nat.le_of_ble_eq_true rfl, Nat.le_of_ble_eq_true rfl⟩ hP hS hl.1 rfl (Nat.le_of_ble_eq_true rfl) dX4_takeItem_54 ⟨Nat.zero_le _, Nat.zero_le _⟩ (fun H locs hP hS => ?_)
    show W p l e rm4_takeItem s m args below meth c H locs 0 0 _ (F0 m 57 ls [.int q_34, .int (0 : Int32), .int (0 : Int32), .ref (ga g k1)])
    obtain ⟨I_38, hc_39, h⟩ := clM_e h
    refine r_callV (As := [.int (0 : Int32), .int (0 : Int32), .int q_34]) [] X (c5_addItem l g hG N _ _ _ _ _ t1 _ hc_39) cal_X5_addItem (im_X5_addItem) (se_X5_addItem) k_585 (tag_lt t1 (by decide)) (by rw [lay, t1]; rfl) rfl rfl ⟨rfl, rfl⟩ ⟨Nat.le_of_ble_eq_true rfl, Nat.le_of_ble_eq_true rfl⟩ hP hS hl.1 rfl (Nat.le_of_ble_eq_true rfl) dX4_takeItem_57 ⟨Nat.zero_le _, Nat.zero_le _⟩ (fun H locs hP hS => ?_)
    show W p l e rm4_takeItem s m args below meth c H locs 0 0 _ (F0 m 60 ls [])
    exact r_vret X hr hlk hP hS dX4_takeItem_60 h
set_option maxHeartbeats 4000000 in
set_option maxRecDepth 100000 in
theorem c4_takeItem (l : Launch) (g : GG) (hG : Apart g NT) (N : Nat) (I : Mem) (k0 : Nat) (k1 : Nat) (t0 : tag k0 = 3) (t1 : tag k1 = 4) (I0 : Mem) (h : f4_takeItem N I k0 k1 = some I0) : Mc l g yX4_takeItem cX4_takeItem 5 none rm4_takeItem I [.ref (ga g k0), .ref (ga g k1)] none I0 := by
  refine Mc.of hG (by decide +kernel) (Nat.le_of_ble_eq_true rfl) ?_
  intro p e s m args below meth c ls X hr hlk hP hS hl
  have X : Cx g p s m args c cX4_takeItem RX4 5 := X
  have hx := X.hx
  have hb := X.hb
  have hl : lv_has ls 5 [(0, .ref (ga g k0)), (1, .ref (ga g k1))] := hl
  have locs : List Loc := []
  unfold f4_takeItem at h
  refine lv_aload_n hx hb dX4_takeItem_0 rfl (lv_at hl 0 rfl) ?_
  obtain ⟨q_1, I_2, hc_3, h⟩ := clP_e h
  refine r_callV (As := []) [] X (c4_present l g hG N _ _ t0 _ _ hc_3) cal_X4_present (im_X4_present) (se_X4_present) k_564 (tag_lt t0 (by decide)) (by rw [lay, t0]; rfl) rfl rfl ⟨rfl, rfl⟩ ⟨Nat.le_of_ble_eq_true rfl, Nat.le_of_ble_eq_true rfl⟩ hP hS hl.1 rfl (Nat.le_of_ble_eq_true rfl) dX4_takeItem_1 ⟨Nat.zero_le _, Nat.zero_le _⟩ (fun H locs hP hS => ?_)
  show W p l e rm4_takeItem s m args below meth c H locs 0 0 _ (F0 m 4 ls [.int q_1])
  refine lv_istore_n (lv' := [(2, .int q_1), (0, .ref (ga g k0)), (1, .ref (ga g k1))]) hx hb dX4_takeItem_4 rfl hl (by decide) rfl (fun ls hl => ?_)
  refine lv_aload_n hx hb dX4_takeItem_5 rfl (lv_at hl 2 rfl) ?_
  obtain ⟨q_4, I_5, hc_6, h⟩ := clP_e h
  refine r_callV (As := []) [] X (c5_isFull l g hG N _ _ t1 _ _ hc_6) cal_X5_isFull (im_X5_isFull) (se_X5_isFull) k_584 (tag_lt t1 (by decide)) (by rw [lay, t1]; rfl) rfl rfl ⟨rfl, rfl⟩ ⟨Nat.le_of_ble_eq_true rfl, Nat.le_of_ble_eq_true rfl⟩ hP hS hl.1 rfl (Nat.le_of_ble_eq_true rfl) dX4_takeItem_6 ⟨Nat.zero_le _, Nat.zero_le _⟩ (fun H locs hP hS => ?_)
  show W p l e rm4_takeItem s m args below meth c H locs 0 0 _ (F0 m 9 ls [.int q_4])
  refine lv_if_ne (tgt := 24) hx hb dX4_takeItem_9 (by decide) (fun c_7 => ?_) (fun c_7 => ?_)
  · replace h := ifn c_7 h
    refine lv_aload_n hx hb dX4_takeItem_24 rfl (lv_at hl 1 rfl) ?_
    refine lv_aload_n hx hb dX4_takeItem_25 rfl (lv_at hl 1 rfl) ?_
    refine g4_2 X hP t0 k_30 dX4_takeItem_26 ?_
    obtain ⟨I_9, hc_10, h⟩ := clM_e h
    refine r_callV (As := [.int (I_5 k0 2)]) [] X (c4_failAt l g hG N _ _ _ t0 _ hc_10) cal_X4_failAt (im_X4_failAt) (se_X4_failAt) k_568 (tag_lt t0 (by decide)) (by rw [lay, t0]; rfl) rfl rfl ⟨rfl, rfl⟩ ⟨Nat.le_of_ble_eq_true rfl, Nat.le_of_ble_eq_true rfl⟩ hP hS hl.1 rfl (Nat.le_of_ble_eq_true rfl) dX4_takeItem_29 ⟨Nat.zero_le _, Nat.zero_le _⟩ (fun H locs hP hS => ?_)
    show W p l e rm4_takeItem s m args below meth c H locs 0 0 _ (F0 m 32 ls [])
    exact r_vret X hr hlk hP hS dX4_takeItem_32 h
  · replace h := ifp c_7 h
    refine lv_iload_n hx hb dX4_takeItem_12 rfl (lv_at hl 0 rfl) ?_
    refine lv_bipush (v := (109 : Int32)) hx hb dX4_takeItem_13 (by decide +kernel) ?_
    refine lv_icmp_eq (tgt := 33) hx hb dX4_takeItem_15 (by decide) (fun c_11 => ?_) (fun c_11 => ?_)
    · replace h := ifp c_11 h
      exact L4_takeItem_33 hG N k0 k1 t0 t1 X hr hlk I0 I_5 q_1 h _ _ _ hP hS (lv_sub hl [1, 2, 0] rfl)
    · replace h := ifn c_11 h
      refine lv_iload_n hx hb dX4_takeItem_18 rfl (lv_at hl 0 rfl) ?_
      refine lv_bipush (v := (119 : Int32)) hx hb dX4_takeItem_19 (by decide +kernel) ?_
      refine lv_icmp_eq (tgt := 33) hx hb dX4_takeItem_21 (by decide) (fun c_40 => ?_) (fun c_40 => ?_)
      · replace h := ifp c_40 h
        exact L4_takeItem_33 hG N k0 k1 t0 t1 X hr hlk I0 I_5 q_1 h _ _ _ hP hS (lv_sub hl [1, 2, 0] rfl)
      · replace h := ifn c_40 h
        refine lv_aload_n hx hb dX4_takeItem_24 rfl (lv_at hl 1 rfl) ?_
        refine lv_aload_n hx hb dX4_takeItem_25 rfl (lv_at hl 1 rfl) ?_
        refine g4_2 X hP t0 k_30 dX4_takeItem_26 ?_
        obtain ⟨I_42, hc_43, h⟩ := clM_e h
        refine r_callV (As := [.int (I_5 k0 2)]) [] X (c4_failAt l g hG N _ _ _ t0 _ hc_43) cal_X4_failAt (im_X4_failAt) (se_X4_failAt) k_568 (tag_lt t0 (by decide)) (by rw [lay, t0]; rfl) rfl rfl ⟨rfl, rfl⟩ ⟨Nat.le_of_ble_eq_true rfl, Nat.le_of_ble_eq_true rfl⟩ hP hS hl.1 rfl (Nat.le_of_ble_eq_true rfl) dX4_takeItem_29 ⟨Nat.zero_le _, Nat.zero_le _⟩ (fun H locs hP hS => ?_)
        show W p l e rm4_takeItem s m args below meth c H locs 0 0 _ (F0 m 32 ls [])
        exact r_vret X hr hlk hP hS dX4_takeItem_32 h
abbrev rm4_readInto : Room := { frames := 4, cells := 0, slots := 0, locals := 91 }
def f4_readInto_47 (N : Nat) (k0 : Nat) (k1 : Nat) : Nat → Mem → Int32 → Option (Int32 × Mem)
  | 0, _, _ => none
  | cnt+1, I, v2 =>
    if (8 : Int32) < v2 then
    some ((I k0 3), I)
    else
    if (I k0 3) = (-9 : Int32) then
    if (I k0 1) ≤ (I k0 2) then
    some ((I k0 3), I)
    else
    clM (f4_takeItem N I k0 k1) (fun I_24 : Mem =>
    letM (v2 + (1 : Int32)) (fun x_26 : Int32 =>
    f4_readInto_47 N k0 k1 cnt I_24 x_26))
    else
    some ((I k0 3), I)
def f4_readInto (N : Nat) (I : Mem) (k0 : Nat) (k1 : Nat) : Option (Int32 × Mem) :=
    letM (st I k0 2 (0 : Int32)) (fun I_1 : Mem =>
    letM (st I_1 k0 3 (-9 : Int32)) (fun I_2 : Mem =>
    clM (f5_clear N I_2 k1) (fun I_4 : Mem =>
    clM (f4_takeLetter N I_4 k0 (97 : Int32)) (fun I_7 : Mem =>
    clP (f4_takePositive N I_7 k0 (3 : Int32)) (fun (q_9 : Int32) (I_10 : Mem) =>
    letM (st I_10 k1 0 q_9) (fun I_12 : Mem =>
    clM (f4_takeLetter N I_12 k0 (118 : Int32)) (fun I_14 : Mem =>
    clP (f4_takePositive N I_14 k0 (3 : Int32)) (fun (q_16 : Int32) (I_17 : Mem) =>
    letM (st I_17 k1 1 q_16) (fun I_19 : Mem =>
    f4_readInto_47 N k0 k1 N I_19 (0 : Int32))))))))))
set_option maxHeartbeats 4000000 in
set_option maxRecDepth 100000 in
theorem L4_readInto_47 (hG : Apart g NT) (N : Nat) (k0 : Nat) (k1 : Nat) (t0 : tag k0 = 3) (t1 : tag k1 = 4) (X : Cx g p s m args c cX4_readInto RX4 3) (hr : meth.sig.returnType = (some .int)) (hlk : meth.locks = false) (r0 : Int32) (I0 : Mem) : ∀ (cnt : Nat) (I : Mem) (v2 : Int32), f4_readInto_47 N k0 k1 cnt I v2 = some (r0, I0) → ∀ (H : Heap) (locs : List Loc) (ls : Array Slot), Wp g I H → va_S (gA g) s.heap H locs → lv_has ls 3 [(0, .ref (ga g k0)), (1, .ref (ga g k1)), (2, .int v2)] → W p l e rm4_readInto s m args below meth c H locs 0 0 (MQ below (Qg g (some (.int r0)) I0) args s 0 0 (gA g)) (F0 m 47 ls []) := by
  have hx := X.hx
  have hb := X.hb
  intro cnt
  induction cnt with
  | zero =>
    intro I v2 h
    rw [f4_readInto_47] at h
    cases h
  | succ cnt ih =>
    intro I v2 h H locs ls hP hS hl
    rw [f4_readInto_47] at h
    refine lv_iload_n hx hb dX4_readInto_47 rfl (lv_at hl 2 rfl) ?_
    refine lv_bipush (v := (8 : Int32)) hx hb dX4_readInto_48 (by decide +kernel) ?_
    refine lv_icmp_gt (tgt := 84) hx hb dX4_readInto_50 (by decide) (fun c_20 => ?_) (fun c_20 => ?_)
    · replace h := ifp c_20 h
      refine lv_aload_n hx hb dX4_readInto_84 rfl (lv_at hl 0 rfl) ?_
      refine g4_3 X hP t0 k_31 dX4_readInto_85 ?_
      exact r_iret X hr hlk hP hS dX4_readInto_88 h
    · replace h := ifn c_20 h
      refine lv_aload_n hx hb dX4_readInto_53 rfl (lv_at hl 0 rfl) ?_
      refine g4_3 X hP t0 k_31 dX4_readInto_54 ?_
      refine lv_bipush (v := (-9 : Int32)) hx hb dX4_readInto_57 (by decide +kernel) ?_
      refine lv_icmp_ne (tgt := 84) hx hb dX4_readInto_59 (by decide) (fun c_21 => ?_) (fun c_21 => ?_)
      · replace h := ifn c_21 h
        refine lv_aload_n hx hb dX4_readInto_84 rfl (lv_at hl 0 rfl) ?_
        refine g4_3 X hP t0 k_31 dX4_readInto_85 ?_
        exact r_iret X hr hlk hP hS dX4_readInto_88 h
      · replace h := ifp c_21 h
        refine lv_aload_n hx hb dX4_readInto_62 rfl (lv_at hl 0 rfl) ?_
        refine g4_2 X hP t0 k_30 dX4_readInto_63 ?_
        refine lv_aload_n hx hb dX4_readInto_66 rfl (lv_at hl 0 rfl) ?_
        refine g4_1 X hP t0 k_28 dX4_readInto_67 ?_
        refine lv_icmp_ge (tgt := 84) hx hb dX4_readInto_70 (by decide) (fun c_22 => ?_) (fun c_22 => ?_)
        · replace h := ifp c_22 h
          refine lv_aload_n hx hb dX4_readInto_84 rfl (lv_at hl 0 rfl) ?_
          refine g4_3 X hP t0 k_31 dX4_readInto_85 ?_
          exact r_iret X hr hlk hP hS dX4_readInto_88 h
        · replace h := ifn c_22 h
          refine lv_aload_n hx hb dX4_readInto_73 rfl (lv_at hl 0 rfl) ?_
          refine lv_aload_n hx hb dX4_readInto_74 rfl (lv_at hl 1 rfl) ?_
          obtain ⟨I_24, hc_25, h⟩ := clM_e h
          refine r_callV (As := [.ref (ga g k1)]) [] X (c4_takeItem l g hG N _ _ _ t0 t1 _ hc_25) cal_X4_takeItem (im_X4_takeItem) (se_X4_takeItem) k_580 (tag_lt t0 (by decide)) (by rw [lay, t0]; rfl) rfl rfl ⟨rfl, rfl⟩ ⟨Nat.le_of_ble_eq_true rfl, Nat.le_of_ble_eq_true rfl⟩ hP hS hl.1 rfl (Nat.le_of_ble_eq_true rfl) dX4_readInto_75 ⟨Nat.zero_le _, Nat.zero_le _⟩ (fun H locs hP hS => ?_)
          show W p l e rm4_readInto s m args below meth c H locs 0 0 _ (F0 m 78 ls [])
          obtain ⟨x_26, ex_26, h⟩ := letM_e h
          refine lv_iinc (v := x_26) (lv' := [(2, .int x_26), (0, .ref (ga g k0)), (1, .ref (ga g k1))]) hx hb dX4_readInto_78 hl (k := 2) rfl (by rw [ex_26]; rfl) (by decide) rfl (fun ls hl => ?_)
          refine lv_goto (tgt := 47) hx hb dX4_readInto_81 (by decide) ?_
          exact ih I_24 x_26 h _ _ _ hP hS (lv_sub hl [1, 2, 0] rfl)
set_option maxHeartbeats 4000000 in
set_option maxRecDepth 100000 in
theorem c4_readInto (l : Launch) (g : GG) (hG : Apart g NT) (N : Nat) (I : Mem) (k0 : Nat) (k1 : Nat) (t0 : tag k0 = 3) (t1 : tag k1 = 4) (r0 : Int32) (I0 : Mem) (h : f4_readInto N I k0 k1 = some (r0, I0)) : Mc l g yX4_readInto cX4_readInto 3 (some .int) rm4_readInto I [.ref (ga g k0), .ref (ga g k1)] (some (.int r0)) I0 := by
  refine Mc.of hG (by decide +kernel) (Nat.le_of_ble_eq_true rfl) ?_
  intro p e s m args below meth c ls X hr hlk hP hS hl
  have X : Cx g p s m args c cX4_readInto RX4 3 := X
  have hx := X.hx
  have hb := X.hb
  have hl : lv_has ls 3 [(0, .ref (ga g k0)), (1, .ref (ga g k1))] := hl
  have locs : List Loc := []
  unfold f4_readInto at h
  refine lv_aload_n hx hb dX4_readInto_0 rfl (lv_at hl 0 rfl) ?_
  refine lv_iconst (v := (0 : Int32)) hx hb dX4_readInto_1 (by decide +kernel) ?_
  obtain ⟨I_1, eI_1, h⟩ := letM_e h
  refine p4_2 X hP hS t0 k_30 eI_1 dX4_readInto_2 (fun H locs hP hS => ?_)
  refine lv_aload_n hx hb dX4_readInto_5 rfl (lv_at hl 0 rfl) ?_
  refine lv_bipush (v := (-9 : Int32)) hx hb dX4_readInto_6 (by decide +kernel) ?_
  obtain ⟨I_2, eI_2, h⟩ := letM_e h
  refine p4_3 X hP hS t0 k_31 eI_2 dX4_readInto_8 (fun H locs hP hS => ?_)
  refine lv_aload_n hx hb dX4_readInto_11 rfl (lv_at hl 1 rfl) ?_
  obtain ⟨I_4, hc_5, h⟩ := clM_e h
  refine r_callV (As := []) [] X (c5_clear l g hG N _ _ t1 _ hc_5) cal_X5_clear (im_X5_clear) (se_X5_clear) k_556 (tag_lt t1 (by decide)) (by rw [lay, t1]; rfl) rfl rfl ⟨rfl, rfl⟩ ⟨Nat.le_of_ble_eq_true rfl, Nat.le_of_ble_eq_true rfl⟩ hP hS hl.1 rfl (Nat.le_of_ble_eq_true rfl) dX4_readInto_12 ⟨Nat.zero_le _, Nat.zero_le _⟩ (fun H locs hP hS => ?_)
  show W p l e rm4_readInto s m args below meth c H locs 0 0 _ (F0 m 15 ls [])
  refine lv_aload_n hx hb dX4_readInto_15 rfl (lv_at hl 0 rfl) ?_
  refine lv_bipush (v := (97 : Int32)) hx hb dX4_readInto_16 (by decide +kernel) ?_
  obtain ⟨I_7, hc_8, h⟩ := clM_e h
  refine r_callV (As := [.int (97 : Int32)]) [] X (c4_takeLetter l g hG N _ _ _ t0 _ hc_8) cal_X4_takeLetter (im_X4_takeLetter) (se_X4_takeLetter) k_560 (tag_lt t0 (by decide)) (by rw [lay, t0]; rfl) rfl rfl ⟨rfl, rfl⟩ ⟨Nat.le_of_ble_eq_true rfl, Nat.le_of_ble_eq_true rfl⟩ hP hS hl.1 rfl (Nat.le_of_ble_eq_true rfl) dX4_readInto_18 ⟨Nat.zero_le _, Nat.zero_le _⟩ (fun H locs hP hS => ?_)
  show W p l e rm4_readInto s m args below meth c H locs 0 0 _ (F0 m 21 ls [])
  refine lv_aload_n hx hb dX4_readInto_21 rfl (lv_at hl 1 rfl) ?_
  refine lv_aload_n hx hb dX4_readInto_22 rfl (lv_at hl 0 rfl) ?_
  refine lv_iconst (v := (3 : Int32)) hx hb dX4_readInto_23 (by decide +kernel) ?_
  obtain ⟨q_9, I_10, hc_11, h⟩ := clP_e h
  refine r_callV (As := [.int (3 : Int32)]) [.ref (ga g k1)] X (c4_takePositive l g hG N _ _ _ t0 _ _ hc_11) cal_X4_takePositive (im_X4_takePositive) (se_X4_takePositive) k_572 (tag_lt t0 (by decide)) (by rw [lay, t0]; rfl) rfl rfl ⟨rfl, rfl⟩ ⟨Nat.le_of_ble_eq_true rfl, Nat.le_of_ble_eq_true rfl⟩ hP hS hl.1 rfl (Nat.le_of_ble_eq_true rfl) dX4_readInto_24 ⟨Nat.zero_le _, Nat.zero_le _⟩ (fun H locs hP hS => ?_)
  show W p l e rm4_readInto s m args below meth c H locs 0 0 _ (F0 m 27 ls [.int q_9, .ref (ga g k1)])
  obtain ⟨I_12, eI_12, h⟩ := letM_e h
  refine p5_0 X hP hS t1 k_49 eI_12 dX4_readInto_27 (fun H locs hP hS => ?_)
  refine lv_aload_n hx hb dX4_readInto_30 rfl (lv_at hl 0 rfl) ?_
  refine lv_bipush (v := (118 : Int32)) hx hb dX4_readInto_31 (by decide +kernel) ?_
  obtain ⟨I_14, hc_15, h⟩ := clM_e h
  refine r_callV (As := [.int (118 : Int32)]) [] X (c4_takeLetter l g hG N _ _ _ t0 _ hc_15) cal_X4_takeLetter (im_X4_takeLetter) (se_X4_takeLetter) k_560 (tag_lt t0 (by decide)) (by rw [lay, t0]; rfl) rfl rfl ⟨rfl, rfl⟩ ⟨Nat.le_of_ble_eq_true rfl, Nat.le_of_ble_eq_true rfl⟩ hP hS hl.1 rfl (Nat.le_of_ble_eq_true rfl) dX4_readInto_33 ⟨Nat.zero_le _, Nat.zero_le _⟩ (fun H locs hP hS => ?_)
  show W p l e rm4_readInto s m args below meth c H locs 0 0 _ (F0 m 36 ls [])
  refine lv_aload_n hx hb dX4_readInto_36 rfl (lv_at hl 1 rfl) ?_
  refine lv_aload_n hx hb dX4_readInto_37 rfl (lv_at hl 0 rfl) ?_
  refine lv_iconst (v := (3 : Int32)) hx hb dX4_readInto_38 (by decide +kernel) ?_
  obtain ⟨q_16, I_17, hc_18, h⟩ := clP_e h
  refine r_callV (As := [.int (3 : Int32)]) [.ref (ga g k1)] X (c4_takePositive l g hG N _ _ _ t0 _ _ hc_18) cal_X4_takePositive (im_X4_takePositive) (se_X4_takePositive) k_572 (tag_lt t0 (by decide)) (by rw [lay, t0]; rfl) rfl rfl ⟨rfl, rfl⟩ ⟨Nat.le_of_ble_eq_true rfl, Nat.le_of_ble_eq_true rfl⟩ hP hS hl.1 rfl (Nat.le_of_ble_eq_true rfl) dX4_readInto_39 ⟨Nat.zero_le _, Nat.zero_le _⟩ (fun H locs hP hS => ?_)
  show W p l e rm4_readInto s m args below meth c H locs 0 0 _ (F0 m 42 ls [.int q_16, .ref (ga g k1)])
  obtain ⟨I_19, eI_19, h⟩ := letM_e h
  refine p5_1 X hP hS t1 k_52 eI_19 dX4_readInto_42 (fun H locs hP hS => ?_)
  refine lv_iconst (v := (0 : Int32)) hx hb dX4_readInto_45 (by decide +kernel) ?_
  refine lv_istore_n (lv' := [(2, .int (0 : Int32)), (0, .ref (ga g k0)), (1, .ref (ga g k1))]) hx hb dX4_readInto_46 rfl hl (by decide) rfl (fun ls hl => ?_)
  exact L4_readInto_47 hG N k0 k1 t0 t1 X hr hlk r0 I0 N I_19 (0 : Int32) h _ _ _ hP hS (lv_sub hl [1, 2, 0] rfl)
abbrev rm5_shownPosition : Room := { frames := 0, cells := 0, slots := 0, locals := 0 }
def f5_shownPosition (N : Nat) (I : Mem) (k0 : Nat) (a1 : Int32) : Option (Int32 × Mem) :=
    if a1 = (0 : Int32) then
    some (((I k0 2) + (100000 : Int32)), I)
    else
    some (((I k0 3) + (100000 : Int32)), I)
set_option maxHeartbeats 4000000 in
set_option maxRecDepth 100000 in
theorem c5_shownPosition (l : Launch) (g : GG) (hG : Apart g NT) (N : Nat) (I : Mem) (k0 : Nat) (a1 : Int32) (t0 : tag k0 = 4) (r0 : Int32) (I0 : Mem) (h : f5_shownPosition N I k0 a1 = some (r0, I0)) : Mc l g yX5_shownPosition cX5_shownPosition 2 (some .int) rm5_shownPosition I [.ref (ga g k0), .int a1] (some (.int r0)) I0 := by
  refine Mc.of hG (by decide +kernel) (Nat.le_of_ble_eq_true rfl) ?_
  intro p e s m args below meth c ls X hr hlk hP hS hl
  have X : Cx g p s m args c cX5_shownPosition RX5 2 := X
  have hx := X.hx
  have hb := X.hb
  have hl : lv_has ls 2 [(0, .ref (ga g k0)), (1, .int a1)] := hl
  have locs : List Loc := []
  unfold f5_shownPosition at h
  refine lv_iload_n hx hb dX5_shownPosition_0 rfl (lv_at hl 1 rfl) ?_
  refine lv_if_ne (tgt := 11) hx hb dX5_shownPosition_1 (by decide) (fun c_1 => ?_) (fun c_1 => ?_)
  · replace h := ifn c_1 h
    refine lv_aload_n hx hb dX5_shownPosition_11 rfl (lv_at hl 0 rfl) ?_
    refine g5_3 X hP t0 k_56 dX5_shownPosition_12 ?_
    refine lv_ldc (v := (100000 : Int32)) hx hb X.ow (X.hts _ k_207) dX5_shownPosition_15 ?_
    refine lv_iadd hx hb dX5_shownPosition_17 ?_
    exact r_iret X hr hlk hP hS dX5_shownPosition_18 h
  · replace h := ifp c_1 h
    refine lv_aload_n hx hb dX5_shownPosition_4 rfl (lv_at hl 0 rfl) ?_
    refine g5_2 X hP t0 k_54 dX5_shownPosition_5 ?_
    refine lv_goto (tgt := 15) hx hb dX5_shownPosition_8 (by decide) ?_
    refine lv_ldc (v := (100000 : Int32)) hx hb X.ow (X.hts _ k_207) dX5_shownPosition_15 ?_
    refine lv_iadd hx hb dX5_shownPosition_17 ?_
    exact r_iret X hr hlk hP hS dX5_shownPosition_18 h
abbrev rm5_isMoving : Room := { frames := 0, cells := 0, slots := 0, locals := 0 }
def f5_isMoving (N : Nat) (I : Mem) (k0 : Nat) : Option (Int32 × Mem) :=
    if (I k0 9) ≤ (0 : Int32) then
    some ((0 : Int32), I)
    else
    some ((1 : Int32), I)
set_option maxHeartbeats 4000000 in
set_option maxRecDepth 100000 in
theorem c5_isMoving (l : Launch) (g : GG) (hG : Apart g NT) (N : Nat) (I : Mem) (k0 : Nat) (t0 : tag k0 = 4) (r0 : Int32) (I0 : Mem) (h : f5_isMoving N I k0 = some (r0, I0)) : Mc l g yX5_isMoving cX5_isMoving 1 (some .boolean) rm5_isMoving I [.ref (ga g k0)] (some (.int r0)) I0 := by
  refine Mc.of hG (by decide +kernel) (Nat.le_of_ble_eq_true rfl) ?_
  intro p e s m args below meth c ls X hr hlk hP hS hl
  have X : Cx g p s m args c cX5_isMoving RX5 1 := X
  have hx := X.hx
  have hb := X.hb
  have hl : lv_has ls 1 [(0, .ref (ga g k0))] := hl
  have locs : List Loc := []
  unfold f5_isMoving at h
  refine lv_aload_n hx hb dX5_isMoving_0 rfl (lv_at hl 0 rfl) ?_
  refine g5_9 X hP t0 k_65 dX5_isMoving_1 ?_
  refine lv_if_le (tgt := 11) hx hb dX5_isMoving_4 (by decide) (fun c_1 => ?_) (fun c_1 => ?_)
  · replace h := ifp c_1 h
    refine lv_iconst (v := (0 : Int32)) hx hb dX5_isMoving_11 (by decide +kernel) ?_
    exact r_zret X hr hlk hP hS rfl dX5_isMoving_12 h
  · replace h := ifn c_1 h
    refine lv_iconst (v := (1 : Int32)) hx hb dX5_isMoving_7 (by decide +kernel) ?_
    refine lv_goto (tgt := 12) hx hb dX5_isMoving_8 (by decide) ?_
    exact r_zret X hr hlk hP hS rfl dX5_isMoving_12 h
abbrev rm5_hasItem : Room := { frames := 0, cells := 0, slots := 0, locals := 0 }
def f5_hasItem (N : Nat) (I : Mem) (k0 : Nat) (a1 : Int32) : Option (Int32 × Mem) :=
    if a1 < (0 : Int32) then
    some ((0 : Int32), I)
    else
    if (I k0 5) ≤ a1 then
    some ((0 : Int32), I)
    else
    if (8 : Int32) ≤ a1 then
    some ((0 : Int32), I)
    else
    some ((1 : Int32), I)
set_option maxHeartbeats 4000000 in
set_option maxRecDepth 100000 in
theorem c5_hasItem (l : Launch) (g : GG) (hG : Apart g NT) (N : Nat) (I : Mem) (k0 : Nat) (a1 : Int32) (t0 : tag k0 = 4) (r0 : Int32) (I0 : Mem) (h : f5_hasItem N I k0 a1 = some (r0, I0)) : Mc l g yX5_hasItem cX5_hasItem 2 (some .boolean) rm5_hasItem I [.ref (ga g k0), .int a1] (some (.int r0)) I0 := by
  refine Mc.of hG (by decide +kernel) (Nat.le_of_ble_eq_true rfl) ?_
  intro p e s m args below meth c ls X hr hlk hP hS hl
  have X : Cx g p s m args c cX5_hasItem RX5 2 := X
  have hx := X.hx
  have hb := X.hb
  have hl : lv_has ls 2 [(0, .ref (ga g k0)), (1, .int a1)] := hl
  have locs : List Loc := []
  unfold f5_hasItem at h
  refine lv_iload_n hx hb dX5_hasItem_0 rfl (lv_at hl 1 rfl) ?_
  refine lv_if_lt (tgt := 22) hx hb dX5_hasItem_1 (by decide) (fun c_1 => ?_) (fun c_1 => ?_)
  · replace h := ifp c_1 h
    refine lv_iconst (v := (0 : Int32)) hx hb dX5_hasItem_22 (by decide +kernel) ?_
    exact r_zret X hr hlk hP hS rfl dX5_hasItem_23 h
  · replace h := ifn c_1 h
    refine lv_iload_n hx hb dX5_hasItem_4 rfl (lv_at hl 1 rfl) ?_
    refine lv_aload_n hx hb dX5_hasItem_5 rfl (lv_at hl 0 rfl) ?_
    refine g5_5 X hP t0 k_59 dX5_hasItem_6 ?_
    refine lv_icmp_ge (tgt := 22) hx hb dX5_hasItem_9 (by decide) (fun c_2 => ?_) (fun c_2 => ?_)
    · replace h := ifp c_2 h
      refine lv_iconst (v := (0 : Int32)) hx hb dX5_hasItem_22 (by decide +kernel) ?_
      exact r_zret X hr hlk hP hS rfl dX5_hasItem_23 h
    · replace h := ifn c_2 h
      refine lv_iload_n hx hb dX5_hasItem_12 rfl (lv_at hl 1 rfl) ?_
      refine lv_bipush (v := (8 : Int32)) hx hb dX5_hasItem_13 (by decide +kernel) ?_
      refine lv_icmp_ge (tgt := 22) hx hb dX5_hasItem_15 (by decide) (fun c_3 => ?_) (fun c_3 => ?_)
      · replace h := ifp c_3 h
        refine lv_iconst (v := (0 : Int32)) hx hb dX5_hasItem_22 (by decide +kernel) ?_
        exact r_zret X hr hlk hP hS rfl dX5_hasItem_23 h
      · replace h := ifn c_3 h
        refine lv_iconst (v := (1 : Int32)) hx hb dX5_hasItem_18 (by decide +kernel) ?_
        refine lv_goto (tgt := 23) hx hb dX5_hasItem_19 (by decide) ?_
        exact r_zret X hr hlk hP hS rfl dX5_hasItem_23 h
abbrev rm5_isWait : Room := { frames := 1, cells := 0, slots := 0, locals := 21 }
def f5_isWait (N : Nat) (I : Mem) (k0 : Nat) (a1 : Int32) : Option (Int32 × Mem) :=
    clP (f5_hasItem N I k0 a1) (fun (q_1 : Int32) (I_2 : Mem) =>
    if q_1 = (0 : Int32) then
    some ((0 : Int32), I_2)
    else
    if (a1 < (0 : Int32) ∨ 8 ≤ a1.toNatClampNeg) then none else
    if (I_2 (k0 + 3) (a1.toNatClampNeg)) ≤ (0 : Int32) then
    some ((0 : Int32), I_2)
    else
    some ((1 : Int32), I_2))
set_option maxHeartbeats 4000000 in
set_option maxRecDepth 100000 in
theorem c5_isWait (l : Launch) (g : GG) (hG : Apart g NT) (N : Nat) (I : Mem) (k0 : Nat) (a1 : Int32) (t0 : tag k0 = 4) (r0 : Int32) (I0 : Mem) (h : f5_isWait N I k0 a1 = some (r0, I0)) : Mc l g yX5_isWait cX5_isWait 2 (some .boolean) rm5_isWait I [.ref (ga g k0), .int a1] (some (.int r0)) I0 := by
  refine Mc.of hG (by decide +kernel) (Nat.le_of_ble_eq_true rfl) ?_
  intro p e s m args below meth c ls X hr hlk hP hS hl
  have X : Cx g p s m args c cX5_isWait RX5 2 := X
  have hx := X.hx
  have hb := X.hb
  have hl : lv_has ls 2 [(0, .ref (ga g k0)), (1, .int a1)] := hl
  have locs : List Loc := []
  unfold f5_isWait at h
  refine lv_aload_n hx hb dX5_isWait_0 rfl (lv_at hl 0 rfl) ?_
  refine lv_iload_n hx hb dX5_isWait_1 rfl (lv_at hl 1 rfl) ?_
  obtain ⟨q_1, I_2, hc_3, h⟩ := clP_e h
  refine r_callV (As := [.int a1]) [] X (c5_hasItem l g hG N _ _ _ t0 _ _ hc_3) cal_X5_hasItem (im_X5_hasItem) (se_X5_hasItem) k_220 (tag_lt t0 (by decide)) (by rw [lay, t0]; rfl) rfl rfl ⟨rfl, rfl⟩ ⟨Nat.le_of_ble_eq_true rfl, Nat.le_of_ble_eq_true rfl⟩ hP hS hl.1 rfl (Nat.le_of_ble_eq_true rfl) dX5_isWait_2 ⟨Nat.zero_le _, Nat.zero_le _⟩ (fun H locs hP hS => ?_)
  show W p l e rm5_isWait s m args below meth c H locs 0 0 _ (F0 m 5 ls [.int q_1])
  refine lv_if_eq (tgt := 21) hx hb dX5_isWait_5 (by decide) (fun c_4 => ?_) (fun c_4 => ?_)
  · replace h := ifp c_4 h
    refine lv_iconst (v := (0 : Int32)) hx hb dX5_isWait_21 (by decide +kernel) ?_
    exact r_zret X hr hlk hP hS rfl dX5_isWait_22 h
  · replace h := ifn c_4 h
    refine lv_aload_n hx hb dX5_isWait_8 rfl (lv_at hl 0 rfl) ?_
    refine g5_8 X hP t0 k_63 dX5_isWait_9 ?_
    refine lv_iload_n hx hb dX5_isWait_12 rfl (lv_at hl 1 rfl) ?_
    obtain ⟨g_5, h⟩ := gd_e h
    refine r_iald (n := 8) X hP (g5_8_t t0) g_5 (j := a1.toNatClampNeg) rfl dX5_isWait_13 ?_
    refine lv_if_le (tgt := 21) hx hb dX5_isWait_14 (by decide) (fun c_6 => ?_) (fun c_6 => ?_)
    · replace h := ifp c_6 h
      refine lv_iconst (v := (0 : Int32)) hx hb dX5_isWait_21 (by decide +kernel) ?_
      exact r_zret X hr hlk hP hS rfl dX5_isWait_22 h
    · replace h := ifn c_6 h
      refine lv_iconst (v := (1 : Int32)) hx hb dX5_isWait_17 (by decide +kernel) ?_
      refine lv_goto (tgt := 22) hx hb dX5_isWait_18 (by decide) ?_
      exact r_zret X hr hlk hP hS rfl dX5_isWait_22 h
abbrev rm5_lengthOf : Room := { frames := 1, cells := 0, slots := 0, locals := 21 }
def f5_lengthOf (N : Nat) (I : Mem) (k0 : Nat) (a1 : Int32) : Option (Int32 × Mem) :=
    clP (f5_hasItem N I k0 a1) (fun (q_1 : Int32) (I_2 : Mem) =>
    if q_1 = (0 : Int32) then
    some ((0 : Int32), I_2)
    else
    if (a1 < (0 : Int32) ∨ 8 ≤ a1.toNatClampNeg) then none else
    clP (fJ9_abs_0f7a4 N I_2 (I_2 (k0 + 1) (a1.toNatClampNeg))) (fun (q_6 : Int32) (I_7 : Mem) =>
    if (a1 < (0 : Int32) ∨ 8 ≤ a1.toNatClampNeg) then none else
    clP (fJ9_abs_0f7a4 N I_7 (I_7 (k0 + 2) (a1.toNatClampNeg))) (fun (q_10 : Int32) (I_11 : Mem) =>
    clP (fJ9_max_7cf53 N I_11 q_6 q_10) (fun (q_13 : Int32) (I_14 : Mem) =>
    some (q_13, I_14)))))
set_option maxHeartbeats 4000000 in
set_option maxRecDepth 100000 in
theorem c5_lengthOf (l : Launch) (g : GG) (hG : Apart g NT) (N : Nat) (I : Mem) (k0 : Nat) (a1 : Int32) (t0 : tag k0 = 4) (r0 : Int32) (I0 : Mem) (h : f5_lengthOf N I k0 a1 = some (r0, I0)) : Mc l g yX5_lengthOf cX5_lengthOf 2 (some .int) rm5_lengthOf I [.ref (ga g k0), .int a1] (some (.int r0)) I0 := by
  refine Mc.of hG (by decide +kernel) (Nat.le_of_ble_eq_true rfl) ?_
  intro p e s m args below meth c ls X hr hlk hP hS hl
  have X : Cx g p s m args c cX5_lengthOf RX5 2 := X
  have hx := X.hx
  have hb := X.hb
  have hl : lv_has ls 2 [(0, .ref (ga g k0)), (1, .int a1)] := hl
  have locs : List Loc := []
  unfold f5_lengthOf at h
  refine lv_aload_n hx hb dX5_lengthOf_0 rfl (lv_at hl 0 rfl) ?_
  refine lv_iload_n hx hb dX5_lengthOf_1 rfl (lv_at hl 1 rfl) ?_
  obtain ⟨q_1, I_2, hc_3, h⟩ := clP_e h
  refine r_callV (As := [.int a1]) [] X (c5_hasItem l g hG N _ _ _ t0 _ _ hc_3) cal_X5_hasItem (im_X5_hasItem) (se_X5_hasItem) k_220 (tag_lt t0 (by decide)) (by rw [lay, t0]; rfl) rfl rfl ⟨rfl, rfl⟩ ⟨Nat.le_of_ble_eq_true rfl, Nat.le_of_ble_eq_true rfl⟩ hP hS hl.1 rfl (Nat.le_of_ble_eq_true rfl) dX5_lengthOf_2 ⟨Nat.zero_le _, Nat.zero_le _⟩ (fun H locs hP hS => ?_)
  show W p l e rm5_lengthOf s m args below meth c H locs 0 0 _ (F0 m 5 ls [.int q_1])
  refine lv_if_eq (tgt := 32) hx hb dX5_lengthOf_5 (by decide) (fun c_4 => ?_) (fun c_4 => ?_)
  · replace h := ifp c_4 h
    refine lv_iconst (v := (0 : Int32)) hx hb dX5_lengthOf_32 (by decide +kernel) ?_
    exact r_iret X hr hlk hP hS dX5_lengthOf_33 h
  · replace h := ifn c_4 h
    refine lv_aload_n hx hb dX5_lengthOf_8 rfl (lv_at hl 0 rfl) ?_
    refine g5_6 X hP t0 k_61 dX5_lengthOf_9 ?_
    refine lv_iload_n hx hb dX5_lengthOf_12 rfl (lv_at hl 1 rfl) ?_
    obtain ⟨g_5, h⟩ := gd_e h
    refine r_iald (n := 8) X hP (g5_6_t t0) g_5 (j := a1.toNatClampNeg) rfl dX5_lengthOf_13 ?_
    obtain ⟨q_6, I_7, hc_8, h⟩ := clP_e h
    refine r_callS (As := [.int (I_2 (k0 + 1) (a1.toNatClampNeg))]) [] X (ccJ9_abs_0f7a4 l g hG N _ _ _ _ hc_8) cal_J9_abs_0f7a4 (sc_J9_abs_0f7a4) k_233 rfl ⟨rfl, rfl⟩ ⟨Nat.le_of_ble_eq_true rfl, Nat.le_of_ble_eq_true rfl⟩ hP hS hl.1 rfl (Nat.le_of_ble_eq_true rfl) dX5_lengthOf_14 ⟨Nat.zero_le _, Nat.zero_le _⟩ (fun H locs hP hS => ?_)
    show W p l e rm5_lengthOf s m args below meth c H locs 0 0 _ (F0 m 17 ls [.int q_6])
    refine lv_aload_n hx hb dX5_lengthOf_17 rfl (lv_at hl 0 rfl) ?_
    refine g5_7 X hP t0 k_62 dX5_lengthOf_18 ?_
    refine lv_iload_n hx hb dX5_lengthOf_21 rfl (lv_at hl 1 rfl) ?_
    obtain ⟨g_9, h⟩ := gd_e h
    refine r_iald (n := 8) X hP (g5_7_t t0) g_9 (j := a1.toNatClampNeg) rfl dX5_lengthOf_22 ?_
    obtain ⟨q_10, I_11, hc_12, h⟩ := clP_e h
    refine r_callS (As := [.int (I_7 (k0 + 2) (a1.toNatClampNeg))]) [.int q_6] X (ccJ9_abs_0f7a4 l g hG N _ _ _ _ hc_12) cal_J9_abs_0f7a4 (sc_J9_abs_0f7a4) k_233 rfl ⟨rfl, rfl⟩ ⟨Nat.le_of_ble_eq_true rfl, Nat.le_of_ble_eq_true rfl⟩ hP hS hl.1 rfl (Nat.le_of_ble_eq_true rfl) dX5_lengthOf_23 ⟨Nat.zero_le _, Nat.zero_le _⟩ (fun H locs hP hS => ?_)
    show W p l e rm5_lengthOf s m args below meth c H locs 0 0 _ (F0 m 26 ls [.int q_10, .int q_6])
    obtain ⟨q_13, I_14, hc_15, h⟩ := clP_e h
    refine r_callS (As := [.int q_6, .int q_10]) [] X (ccJ9_max_7cf53 l g hG N _ _ _ _ _ hc_15) cal_J9_max_7cf53 (sc_J9_max_7cf53) k_236 rfl ⟨rfl, rfl⟩ ⟨Nat.le_of_ble_eq_true rfl, Nat.le_of_ble_eq_true rfl⟩ hP hS hl.1 rfl (Nat.le_of_ble_eq_true rfl) dX5_lengthOf_26 ⟨Nat.zero_le _, Nat.zero_le _⟩ (fun H locs hP hS => ?_)
    show W p l e rm5_lengthOf s m args below meth c H locs 0 0 _ (F0 m 29 ls [.int q_13])
    refine lv_goto (tgt := 33) hx hb dX5_lengthOf_29 (by decide) ?_
    exact r_iret X hr hlk hP hS dX5_lengthOf_33 h
abbrev rm5_stepsLeftOf : Room := { frames := 2, cells := 0, slots := 0, locals := 42 }
def f5_stepsLeftOf (N : Nat) (I : Mem) (k0 : Nat) (a1 : Int32) : Option (Int32 × Mem) :=
    if a1 = (0 : Int32) then
    clP (f5_isMoving N I k0) (fun (q_5 : Int32) (I_6 : Mem) =>
    if q_5 = (0 : Int32) then
    clP (f5_lengthOf N I_6 k0 a1) (fun (q_9 : Int32) (I_10 : Mem) =>
    some (q_9, I_10))
    else
    some ((I_6 k0 10), I_6))
    else
    clP (f5_lengthOf N I k0 a1) (fun (q_2 : Int32) (I_3 : Mem) =>
    some (q_2, I_3))
set_option maxHeartbeats 4000000 in
set_option maxRecDepth 100000 in
theorem c5_stepsLeftOf (l : Launch) (g : GG) (hG : Apart g NT) (N : Nat) (I : Mem) (k0 : Nat) (a1 : Int32) (t0 : tag k0 = 4) (r0 : Int32) (I0 : Mem) (h : f5_stepsLeftOf N I k0 a1 = some (r0, I0)) : Mc l g yX5_stepsLeftOf cX5_stepsLeftOf 2 (some .int) rm5_stepsLeftOf I [.ref (ga g k0), .int a1] (some (.int r0)) I0 := by
  refine Mc.of hG (by decide +kernel) (Nat.le_of_ble_eq_true rfl) ?_
  intro p e s m args below meth c ls X hr hlk hP hS hl
  have X : Cx g p s m args c cX5_stepsLeftOf RX5 2 := X
  have hx := X.hx
  have hb := X.hb
  have hl : lv_has ls 2 [(0, .ref (ga g k0)), (1, .int a1)] := hl
  have locs : List Loc := []
  unfold f5_stepsLeftOf at h
  refine lv_iload_n hx hb dX5_stepsLeftOf_0 rfl (lv_at hl 1 rfl) ?_
  refine lv_if_ne (tgt := 18) hx hb dX5_stepsLeftOf_1 (by decide) (fun c_1 => ?_) (fun c_1 => ?_)
  · replace h := ifn c_1 h
    refine lv_aload_n hx hb dX5_stepsLeftOf_18 rfl (lv_at hl 0 rfl) ?_
    refine lv_iload_n hx hb dX5_stepsLeftOf_19 rfl (lv_at hl 1 rfl) ?_
    obtain ⟨q_2, I_3, hc_4, h⟩ := clP_e h
    refine r_callV (As := [.int a1]) [] X (c5_lengthOf l g hG N _ _ _ t0 _ _ hc_4) cal_X5_lengthOf (im_X5_lengthOf) (se_X5_lengthOf) k_229 (tag_lt t0 (by decide)) (by rw [lay, t0]; rfl) rfl rfl ⟨rfl, rfl⟩ ⟨Nat.le_of_ble_eq_true rfl, Nat.le_of_ble_eq_true rfl⟩ hP hS hl.1 rfl (Nat.le_of_ble_eq_true rfl) dX5_stepsLeftOf_20 ⟨Nat.zero_le _, Nat.zero_le _⟩ (fun H locs hP hS => ?_)
    show W p l e rm5_stepsLeftOf s m args below meth c H locs 0 0 _ (F0 m 23 ls [.int q_2])
    exact r_iret X hr hlk hP hS dX5_stepsLeftOf_23 h
  · replace h := ifp c_1 h
    refine lv_aload_n hx hb dX5_stepsLeftOf_4 rfl (lv_at hl 0 rfl) ?_
    obtain ⟨q_5, I_6, hc_7, h⟩ := clP_e h
    refine r_callV (As := []) [] X (c5_isMoving l g hG N _ _ t0 _ _ hc_7) cal_X5_isMoving (im_X5_isMoving) (se_X5_isMoving) k_225 (tag_lt t0 (by decide)) (by rw [lay, t0]; rfl) rfl rfl ⟨rfl, rfl⟩ ⟨Nat.le_of_ble_eq_true rfl, Nat.le_of_ble_eq_true rfl⟩ hP hS hl.1 rfl (Nat.le_of_ble_eq_true rfl) dX5_stepsLeftOf_5 ⟨Nat.zero_le _, Nat.zero_le _⟩ (fun H locs hP hS => ?_)
    show W p l e rm5_stepsLeftOf s m args below meth c H locs 0 0 _ (F0 m 8 ls [.int q_5])
    refine lv_if_eq (tgt := 18) hx hb dX5_stepsLeftOf_8 (by decide) (fun c_8 => ?_) (fun c_8 => ?_)
    · replace h := ifp c_8 h
      refine lv_aload_n hx hb dX5_stepsLeftOf_18 rfl (lv_at hl 0 rfl) ?_
      refine lv_iload_n hx hb dX5_stepsLeftOf_19 rfl (lv_at hl 1 rfl) ?_
      obtain ⟨q_9, I_10, hc_11, h⟩ := clP_e h
      refine r_callV (As := [.int a1]) [] X (c5_lengthOf l g hG N _ _ _ t0 _ _ hc_11) cal_X5_lengthOf (im_X5_lengthOf) (se_X5_lengthOf) k_229 (tag_lt t0 (by decide)) (by rw [lay, t0]; rfl) rfl rfl ⟨rfl, rfl⟩ ⟨Nat.le_of_ble_eq_true rfl, Nat.le_of_ble_eq_true rfl⟩ hP hS hl.1 rfl (Nat.le_of_ble_eq_true rfl) dX5_stepsLeftOf_20 ⟨Nat.zero_le _, Nat.zero_le _⟩ (fun H locs hP hS => ?_)
      show W p l e rm5_stepsLeftOf s m args below meth c H locs 0 0 _ (F0 m 23 ls [.int q_9])
      exact r_iret X hr hlk hP hS dX5_stepsLeftOf_23 h
    · replace h := ifn c_8 h
      refine lv_aload_n hx hb dX5_stepsLeftOf_11 rfl (lv_at hl 0 rfl) ?_
      refine g5_10 X hP t0 k_66 dX5_stepsLeftOf_12 ?_
      refine lv_goto (tgt := 23) hx hb dX5_stepsLeftOf_15 (by decide) ?_
      exact r_iret X hr hlk hP hS dX5_stepsLeftOf_23 h
abbrev rm5_dropItem : Room := { frames := 1, cells := 0, slots := 0, locals := 21 }
def f5_dropItem_30 (N : Nat) (k0 : Nat) (a1 : Int32) : Nat → Mem → Int32 → Option (Mem)
  | 0, _, _ => none
  | cnt+1, I, v2 =>
    if (I k0 5) ≤ v2 then
    some I
    else
    if (8 : Int32) ≤ (v2 + (1 : Int32)) then
    some I
    else
    if ((v2 + (1 : Int32)) < (0 : Int32) ∨ 8 ≤ (v2 + (1 : Int32)).toNatClampNeg) then none else
    if (v2 < (0 : Int32) ∨ 8 ≤ v2.toNatClampNeg) then none else
    letM (st I (k0 + 1) (v2.toNatClampNeg) (I (k0 + 1) ((v2 + (1 : Int32)).toNatClampNeg))) (fun I_11 : Mem =>
    if ((v2 + (1 : Int32)) < (0 : Int32) ∨ 8 ≤ (v2 + (1 : Int32)).toNatClampNeg) then none else
    if (v2 < (0 : Int32) ∨ 8 ≤ v2.toNatClampNeg) then none else
    letM (st I_11 (k0 + 2) (v2.toNatClampNeg) (I_11 (k0 + 2) ((v2 + (1 : Int32)).toNatClampNeg))) (fun I_14 : Mem =>
    if ((v2 + (1 : Int32)) < (0 : Int32) ∨ 8 ≤ (v2 + (1 : Int32)).toNatClampNeg) then none else
    if (v2 < (0 : Int32) ∨ 8 ≤ v2.toNatClampNeg) then none else
    letM (st I_14 (k0 + 3) (v2.toNatClampNeg) (I_14 (k0 + 3) ((v2 + (1 : Int32)).toNatClampNeg))) (fun I_17 : Mem =>
    letM (v2 + (1 : Int32)) (fun x_18 : Int32 =>
    f5_dropItem_30 N k0 a1 cnt I_17 x_18))))
def f5_dropItem_18 (N : Nat) (k0 : Nat) (a1 : Int32) (I : Mem) : Option (Mem) :=
    letM (st I k0 5 ((I k0 5) - (1 : Int32))) (fun I_6 : Mem =>
    f5_dropItem_30 N k0 a1 N I_6 a1)
def f5_dropItem (N : Nat) (I : Mem) (k0 : Nat) (a1 : Int32) : Option (Mem) :=
    clP (f5_hasItem N I k0 a1) (fun (q_1 : Int32) (I_2 : Mem) =>
    if q_1 = (0 : Int32) then
    some I_2
    else
    if a1 = (0 : Int32) then
    letM (st I_2 k0 9 (0 : Int32)) (fun I_19 : Mem =>
    f5_dropItem_18 N k0 a1 I_19)
    else
    f5_dropItem_18 N k0 a1 I_2)
set_option maxHeartbeats 4000000 in
set_option maxRecDepth 100000 in
theorem L5_dropItem_30 (hG : Apart g NT) (N : Nat) (k0 : Nat) (a1 : Int32) (t0 : tag k0 = 4) (X : Cx g p s m args c cX5_dropItem RX5 3) (hr : meth.sig.returnType = none) (hlk : meth.locks = false) (I0 : Mem) : ∀ (cnt : Nat) (I : Mem) (v2 : Int32), f5_dropItem_30 N k0 a1 cnt I v2 = some I0 → ∀ (H : Heap) (locs : List Loc) (ls : Array Slot), Wp g I H → va_S (gA g) s.heap H locs → lv_has ls 3 [(0, .ref (ga g k0)), (2, .int v2)] → W p l e rm5_dropItem s m args below meth c H locs 0 0 (MQ below (Qg g none I0) args s 0 0 (gA g)) (F0 m 30 ls []) := by
  have hx := X.hx
  have hb := X.hb
  intro cnt
  induction cnt with
  | zero =>
    intro I v2 h
    rw [f5_dropItem_30] at h
    cases h
  | succ cnt ih =>
    intro I v2 h H locs ls hP hS hl
    rw [f5_dropItem_30] at h
    refine lv_iload_n hx hb dX5_dropItem_30 rfl (lv_at hl 1 rfl) ?_
    refine lv_aload_n hx hb dX5_dropItem_31 rfl (lv_at hl 0 rfl) ?_
    refine g5_5 X hP t0 k_59 dX5_dropItem_32 ?_
    refine lv_icmp_ge (tgt := 94) hx hb dX5_dropItem_35 (by decide) (fun c_7 => ?_) (fun c_7 => ?_)
    · replace h := ifp c_7 h
      exact r_vret X hr hlk hP hS dX5_dropItem_94 h
    · replace h := ifn c_7 h
      refine lv_iload_n hx hb dX5_dropItem_38 rfl (lv_at hl 1 rfl) ?_
      refine lv_iconst (v := (1 : Int32)) hx hb dX5_dropItem_39 (by decide +kernel) ?_
      refine lv_iadd hx hb dX5_dropItem_40 ?_
      refine lv_bipush (v := (8 : Int32)) hx hb dX5_dropItem_41 (by decide +kernel) ?_
      refine lv_icmp_ge (tgt := 94) hx hb dX5_dropItem_43 (by decide) (fun c_8 => ?_) (fun c_8 => ?_)
      · replace h := ifp c_8 h
        exact r_vret X hr hlk hP hS dX5_dropItem_94 h
      · replace h := ifn c_8 h
        refine lv_aload_n hx hb dX5_dropItem_46 rfl (lv_at hl 0 rfl) ?_
        refine g5_6 X hP t0 k_61 dX5_dropItem_47 ?_
        refine lv_iload_n hx hb dX5_dropItem_50 rfl (lv_at hl 1 rfl) ?_
        refine lv_aload_n hx hb dX5_dropItem_51 rfl (lv_at hl 0 rfl) ?_
        refine g5_6 X hP t0 k_61 dX5_dropItem_52 ?_
        refine lv_iload_n hx hb dX5_dropItem_55 rfl (lv_at hl 1 rfl) ?_
        refine lv_iconst (v := (1 : Int32)) hx hb dX5_dropItem_56 (by decide +kernel) ?_
        refine lv_iadd hx hb dX5_dropItem_57 ?_
        obtain ⟨g_9, h⟩ := gd_e h
        refine r_iald (n := 8) X hP (g5_6_t t0) g_9 (j := (v2 + (1 : Int32)).toNatClampNeg) rfl dX5_dropItem_58 ?_
        obtain ⟨g_10, h⟩ := gd_e h
        obtain ⟨I_11, eI_11, h⟩ := letM_e h
        refine r_iast (n := 8) X hP hS (g5_6_t t0) g_10 (j := v2.toNatClampNeg) rfl eI_11 dX5_dropItem_59 (fun H locs hP hS => ?_)
        refine lv_aload_n hx hb dX5_dropItem_60 rfl (lv_at hl 0 rfl) ?_
        refine g5_7 X hP t0 k_62 dX5_dropItem_61 ?_
        refine lv_iload_n hx hb dX5_dropItem_64 rfl (lv_at hl 1 rfl) ?_
        refine lv_aload_n hx hb dX5_dropItem_65 rfl (lv_at hl 0 rfl) ?_
        refine g5_7 X hP t0 k_62 dX5_dropItem_66 ?_
        refine lv_iload_n hx hb dX5_dropItem_69 rfl (lv_at hl 1 rfl) ?_
        refine lv_iconst (v := (1 : Int32)) hx hb dX5_dropItem_70 (by decide +kernel) ?_
        refine lv_iadd hx hb dX5_dropItem_71 ?_
        obtain ⟨g_12, h⟩ := gd_e h
        refine r_iald (n := 8) X hP (g5_7_t t0) g_12 (j := (v2 + (1 : Int32)).toNatClampNeg) rfl dX5_dropItem_72 ?_
        obtain ⟨g_13, h⟩ := gd_e h
        obtain ⟨I_14, eI_14, h⟩ := letM_e h
        refine r_iast (n := 8) X hP hS (g5_7_t t0) g_13 (j := v2.toNatClampNeg) rfl eI_14 dX5_dropItem_73 (fun H locs hP hS => ?_)
        refine lv_aload_n hx hb dX5_dropItem_74 rfl (lv_at hl 0 rfl) ?_
        refine g5_8 X hP t0 k_63 dX5_dropItem_75 ?_
        refine lv_iload_n hx hb dX5_dropItem_78 rfl (lv_at hl 1 rfl) ?_
        refine lv_aload_n hx hb dX5_dropItem_79 rfl (lv_at hl 0 rfl) ?_
        refine g5_8 X hP t0 k_63 dX5_dropItem_80 ?_
        refine lv_iload_n hx hb dX5_dropItem_83 rfl (lv_at hl 1 rfl) ?_
        refine lv_iconst (v := (1 : Int32)) hx hb dX5_dropItem_84 (by decide +kernel) ?_
        refine lv_iadd hx hb dX5_dropItem_85 ?_
        obtain ⟨g_15, h⟩ := gd_e h
        refine r_iald (n := 8) X hP (g5_8_t t0) g_15 (j := (v2 + (1 : Int32)).toNatClampNeg) rfl dX5_dropItem_86 ?_
        obtain ⟨g_16, h⟩ := gd_e h
        obtain ⟨I_17, eI_17, h⟩ := letM_e h
        refine r_iast (n := 8) X hP hS (g5_8_t t0) g_16 (j := v2.toNatClampNeg) rfl eI_17 dX5_dropItem_87 (fun H locs hP hS => ?_)
        obtain ⟨x_18, ex_18, h⟩ := letM_e h
        refine lv_iinc (v := x_18) (lv' := [(2, .int x_18), (0, .ref (ga g k0))]) hx hb dX5_dropItem_88 hl (k := 1) rfl (by rw [ex_18]; rfl) (by decide) rfl (fun ls hl => ?_)
        refine lv_goto (tgt := 30) hx hb dX5_dropItem_91 (by decide) ?_
        exact ih I_17 x_18 h _ _ _ hP hS (lv_sub hl [1, 0] rfl)
set_option maxHeartbeats 4000000 in
set_option maxRecDepth 100000 in
theorem L5_dropItem_18 (hG : Apart g NT) (N : Nat) (k0 : Nat) (a1 : Int32) (t0 : tag k0 = 4) (X : Cx g p s m args c cX5_dropItem RX5 3) (hr : meth.sig.returnType = none) (hlk : meth.locks = false) (I0 : Mem) : ∀ (I : Mem), f5_dropItem_18 N k0 a1 I = some I0 → ∀ (H : Heap) (locs : List Loc) (ls : Array Slot), Wp g I H → va_S (gA g) s.heap H locs → lv_has ls 3 [(0, .ref (ga g k0)), (1, .int a1)] → W p l e rm5_dropItem s m args below meth c H locs 0 0 (MQ below (Qg g none I0) args s 0 0 (gA g)) (F0 m 18 ls []) := by
  have hx := X.hx
  have hb := X.hb
  intro I h H locs ls hP hS hl
  unfold f5_dropItem_18 at h
  refine lv_aload_n hx hb dX5_dropItem_18 rfl (lv_at hl 0 rfl) ?_
  refine lv_dup hx hb dX5_dropItem_19 rfl ?_
  refine g5_5 X hP t0 k_59 dX5_dropItem_20 ?_
  refine lv_iconst (v := (1 : Int32)) hx hb dX5_dropItem_23 (by decide +kernel) ?_
  refine lv_isub hx hb dX5_dropItem_24 ?_
  obtain ⟨I_6, eI_6, h⟩ := letM_e h
  refine p5_5 X hP hS t0 k_59 eI_6 dX5_dropItem_25 (fun H locs hP hS => ?_)
  refine lv_iload_n hx hb dX5_dropItem_28 rfl (lv_at hl 1 rfl) ?_
  refine lv_istore_n (lv' := [(2, .int a1), (0, .ref (ga g k0)), (1, .int a1)]) hx hb dX5_dropItem_29 rfl hl (by decide) rfl (fun ls hl => ?_)
  exact L5_dropItem_30 hG N k0 a1 t0 X hr hlk I0 N I_6 a1 h _ _ _ hP hS (lv_sub hl [1, 0] rfl)
set_option maxHeartbeats 4000000 in
set_option maxRecDepth 100000 in
theorem c5_dropItem (l : Launch) (g : GG) (hG : Apart g NT) (N : Nat) (I : Mem) (k0 : Nat) (a1 : Int32) (t0 : tag k0 = 4) (I0 : Mem) (h : f5_dropItem N I k0 a1 = some I0) : Mc l g yX5_dropItem cX5_dropItem 3 none rm5_dropItem I [.ref (ga g k0), .int a1] none I0 := by
  refine Mc.of hG (by decide +kernel) (Nat.le_of_ble_eq_true rfl) ?_
  intro p e s m args below meth c ls X hr hlk hP hS hl
  have X : Cx g p s m args c cX5_dropItem RX5 3 := X
  have hx := X.hx
  have hb := X.hb
  have hl : lv_has ls 3 [(0, .ref (ga g k0)), (1, .int a1)] := hl
  have locs : List Loc := []
  unfold f5_dropItem at h
  refine lv_aload_n hx hb dX5_dropItem_0 rfl (lv_at hl 0 rfl) ?_
  refine lv_iload_n hx hb dX5_dropItem_1 rfl (lv_at hl 1 rfl) ?_
  obtain ⟨q_1, I_2, hc_3, h⟩ := clP_e h
  refine r_callV (As := [.int a1]) [] X (c5_hasItem l g hG N _ _ _ t0 _ _ hc_3) cal_X5_hasItem (im_X5_hasItem) (se_X5_hasItem) k_220 (tag_lt t0 (by decide)) (by rw [lay, t0]; rfl) rfl rfl ⟨rfl, rfl⟩ ⟨Nat.le_of_ble_eq_true rfl, Nat.le_of_ble_eq_true rfl⟩ hP hS hl.1 rfl (Nat.le_of_ble_eq_true rfl) dX5_dropItem_2 ⟨Nat.zero_le _, Nat.zero_le _⟩ (fun H locs hP hS => ?_)
  show W p l e rm5_dropItem s m args below meth c H locs 0 0 _ (F0 m 5 ls [.int q_1])
  refine lv_if_ne (tgt := 9) hx hb dX5_dropItem_5 (by decide) (fun c_4 => ?_) (fun c_4 => ?_)
  · replace h := ifn c_4 h
    refine lv_iload_n hx hb dX5_dropItem_9 rfl (lv_at hl 1 rfl) ?_
    refine lv_if_ne (tgt := 18) hx hb dX5_dropItem_10 (by decide) (fun c_5 => ?_) (fun c_5 => ?_)
    · replace h := ifn c_5 h
      exact L5_dropItem_18 hG N k0 a1 t0 X hr hlk I0 I_2 h _ _ _ hP hS (lv_sub hl [0, 1] rfl)
    · replace h := ifp c_5 h
      refine lv_aload_n hx hb dX5_dropItem_13 rfl (lv_at hl 0 rfl) ?_
      refine lv_iconst (v := (0 : Int32)) hx hb dX5_dropItem_14 (by decide +kernel) ?_
      obtain ⟨I_19, eI_19, h⟩ := letM_e h
      refine p5_9 X hP hS t0 k_65 eI_19 dX5_dropItem_15 (fun H locs hP hS => ?_)
      exact L5_dropItem_18 hG N k0 a1 t0 X hr hlk I0 I_19 h _ _ _ hP hS (lv_sub hl [0, 1] rfl)
  · replace h := ifp c_4 h
    exact r_vret X hr hlk hP hS dX5_dropItem_8 h
abbrev rm5_halt : Room := { frames := 2, cells := 0, slots := 0, locals := 43 }
def f5_halt (N : Nat) (I : Mem) (k0 : Nat) : Option (Int32 × Mem) :=
    letM (st I k0 5 (1 : Int32)) (fun I_1 : Mem =>
    letM (st I_1 k0 10 (I_1 k0 11)) (fun I_2 : Mem =>
    if (I_2 k0 10) = (0 : Int32) then
    clM (f5_dropItem N I_2 k0 (0 : Int32)) (fun I_5 : Mem =>
    some ((I_5 k0 11), I_5))
    else
    some ((I_2 k0 11), I_2)))
set_option maxHeartbeats 4000000 in
set_option maxRecDepth 100000 in
theorem c5_halt (l : Launch) (g : GG) (hG : Apart g NT) (N : Nat) (I : Mem) (k0 : Nat) (t0 : tag k0 = 4) (r0 : Int32) (I0 : Mem) (h : f5_halt N I k0 = some (r0, I0)) : Mc l g yX5_halt cX5_halt 1 (some .int) rm5_halt I [.ref (ga g k0)] (some (.int r0)) I0 := by
  refine Mc.of hG (by decide +kernel) (Nat.le_of_ble_eq_true rfl) ?_
  intro p e s m args below meth c ls X hr hlk hP hS hl
  have X : Cx g p s m args c cX5_halt RX5 1 := X
  have hx := X.hx
  have hb := X.hb
  have hl : lv_has ls 1 [(0, .ref (ga g k0))] := hl
  have locs : List Loc := []
  unfold f5_halt at h
  refine lv_aload_n hx hb dX5_halt_0 rfl (lv_at hl 0 rfl) ?_
  refine lv_iconst (v := (1 : Int32)) hx hb dX5_halt_1 (by decide +kernel) ?_
  obtain ⟨I_1, eI_1, h⟩ := letM_e h
  refine p5_5 X hP hS t0 k_59 eI_1 dX5_halt_2 (fun H locs hP hS => ?_)
  refine lv_aload_n hx hb dX5_halt_5 rfl (lv_at hl 0 rfl) ?_
  refine lv_aload_n hx hb dX5_halt_6 rfl (lv_at hl 0 rfl) ?_
  refine g5_11 X hP t0 k_67 dX5_halt_7 ?_
  obtain ⟨I_2, eI_2, h⟩ := letM_e h
  refine p5_10 X hP hS t0 k_66 eI_2 dX5_halt_10 (fun H locs hP hS => ?_)
  refine lv_aload_n hx hb dX5_halt_13 rfl (lv_at hl 0 rfl) ?_
  refine g5_10 X hP t0 k_66 dX5_halt_14 ?_
  refine lv_if_ne (tgt := 25) hx hb dX5_halt_17 (by decide) (fun c_3 => ?_) (fun c_3 => ?_)
  · replace h := ifn c_3 h
    refine lv_aload_n hx hb dX5_halt_25 rfl (lv_at hl 0 rfl) ?_
    refine g5_11 X hP t0 k_67 dX5_halt_26 ?_
    exact r_iret X hr hlk hP hS dX5_halt_29 h
  · replace h := ifp c_3 h
    refine lv_aload_n hx hb dX5_halt_20 rfl (lv_at hl 0 rfl) ?_
    refine lv_iconst (v := (0 : Int32)) hx hb dX5_halt_21 (by decide +kernel) ?_
    obtain ⟨I_5, hc_6, h⟩ := clM_e h
    refine r_callV (As := [.int (0 : Int32)]) [] X (c5_dropItem l g hG N _ _ _ t0 _ hc_6) cal_X5_dropItem (im_X5_dropItem) (se_X5_dropItem) k_364 (tag_lt t0 (by decide)) (by rw [lay, t0]; rfl) rfl rfl ⟨rfl, rfl⟩ ⟨Nat.le_of_ble_eq_true rfl, Nat.le_of_ble_eq_true rfl⟩ hP hS hl.1 rfl (Nat.le_of_ble_eq_true rfl) dX5_halt_22 ⟨Nat.zero_le _, Nat.zero_le _⟩ (fun H locs hP hS => ?_)
    show W p l e rm5_halt s m args below meth c H locs 0 0 _ (F0 m 25 ls [])
    refine lv_aload_n hx hb dX5_halt_25 rfl (lv_at hl 0 rfl) ?_
    refine g5_11 X hP t0 k_67 dX5_halt_26 ?_
    exact r_iret X hr hlk hP hS dX5_halt_29 h
abbrev rm5_passWait : Room := { frames := 2, cells := 0, slots := 0, locals := 43 }
def f5_passWait (N : Nat) (I : Mem) (k0 : Nat) (a1 : Int32) (a2 : Int32) : Option (Int32 × Mem) :=
    if a1 < (1 : Int32) then
    some ((0 : Int32), I)
    else
    if (I (k0 + 3) 0) ≤ a2 then
    letM (st I k0 4 ((I k0 4) + (I (k0 + 3) 0))) (fun I_3 : Mem =>
    clM (f5_dropItem N I_3 k0 (0 : Int32)) (fun I_5 : Mem =>
    some ((1 : Int32), I_5)))
    else
    some ((0 : Int32), I)
set_option maxHeartbeats 4000000 in
set_option maxRecDepth 100000 in
theorem c5_passWait (l : Launch) (g : GG) (hG : Apart g NT) (N : Nat) (I : Mem) (k0 : Nat) (a1 : Int32) (a2 : Int32) (t0 : tag k0 = 4) (r0 : Int32) (I0 : Mem) (h : f5_passWait N I k0 a1 a2 = some (r0, I0)) : Mc l g yX5_passWait cX5_passWait 3 (some .int) rm5_passWait I [.ref (ga g k0), .int a1, .int a2] (some (.int r0)) I0 := by
  refine Mc.of hG (by decide +kernel) (Nat.le_of_ble_eq_true rfl) ?_
  intro p e s m args below meth c ls X hr hlk hP hS hl
  have X : Cx g p s m args c cX5_passWait RX5 3 := X
  have hx := X.hx
  have hb := X.hb
  have hl : lv_has ls 3 [(0, .ref (ga g k0)), (1, .int a1), (2, .int a2)] := hl
  have locs : List Loc := []
  unfold f5_passWait at h
  refine lv_iload_n hx hb dX5_passWait_0 rfl (lv_at hl 1 rfl) ?_
  refine lv_iconst (v := (1 : Int32)) hx hb dX5_passWait_1 (by decide +kernel) ?_
  refine lv_icmp_lt (tgt := 15) hx hb dX5_passWait_2 (by decide) (fun c_1 => ?_) (fun c_1 => ?_)
  · replace h := ifp c_1 h
    refine lv_iconst (v := (0 : Int32)) hx hb dX5_passWait_15 (by decide +kernel) ?_
    exact r_iret X hr hlk hP hS dX5_passWait_16 h
  · replace h := ifn c_1 h
    refine lv_aload_n hx hb dX5_passWait_5 rfl (lv_at hl 0 rfl) ?_
    refine g5_8 X hP t0 k_63 dX5_passWait_6 ?_
    refine lv_iconst (v := (0 : Int32)) hx hb dX5_passWait_9 (by decide +kernel) ?_
    refine r_iald (n := 8) X hP (g5_8_t t0) (by decide +kernel) (j := 0) (by decide +kernel) dX5_passWait_10 ?_
    refine lv_iload_n hx hb dX5_passWait_11 rfl (lv_at hl 2 rfl) ?_
    refine lv_icmp_le (tgt := 17) hx hb dX5_passWait_12 (by decide) (fun c_2 => ?_) (fun c_2 => ?_)
    · replace h := ifp c_2 h
      refine lv_aload_n hx hb dX5_passWait_17 rfl (lv_at hl 0 rfl) ?_
      refine lv_dup hx hb dX5_passWait_18 rfl ?_
      refine g5_4 X hP t0 k_57 dX5_passWait_19 ?_
      refine lv_aload_n hx hb dX5_passWait_22 rfl (lv_at hl 0 rfl) ?_
      refine g5_8 X hP t0 k_63 dX5_passWait_23 ?_
      refine lv_iconst (v := (0 : Int32)) hx hb dX5_passWait_26 (by decide +kernel) ?_
      refine r_iald (n := 8) X hP (g5_8_t t0) (by decide +kernel) (j := 0) (by decide +kernel) dX5_passWait_27 ?_
      refine lv_iadd hx hb dX5_passWait_28 ?_
      obtain ⟨I_3, eI_3, h⟩ := letM_e h
      refine p5_4 X hP hS t0 k_57 eI_3 dX5_passWait_29 (fun H locs hP hS => ?_)
      refine lv_aload_n hx hb dX5_passWait_32 rfl (lv_at hl 0 rfl) ?_
      refine lv_iconst (v := (0 : Int32)) hx hb dX5_passWait_33 (by decide +kernel) ?_
      obtain ⟨I_5, hc_6, h⟩ := clM_e h
      refine r_callV (As := [.int (0 : Int32)]) [] X (c5_dropItem l g hG N _ _ _ t0 _ hc_6) cal_X5_dropItem (im_X5_dropItem) (se_X5_dropItem) k_364 (tag_lt t0 (by decide)) (by rw [lay, t0]; rfl) rfl rfl ⟨rfl, rfl⟩ ⟨Nat.le_of_ble_eq_true rfl, Nat.le_of_ble_eq_true rfl⟩ hP hS hl.1 rfl (Nat.le_of_ble_eq_true rfl) dX5_passWait_34 ⟨Nat.zero_le _, Nat.zero_le _⟩ (fun H locs hP hS => ?_)
      show W p l e rm5_passWait s m args below meth c H locs 0 0 _ (F0 m 37 ls [])
      refine lv_iconst (v := (1 : Int32)) hx hb dX5_passWait_37 (by decide +kernel) ?_
      exact r_iret X hr hlk hP hS dX5_passWait_38 h
    · replace h := ifn c_2 h
      refine lv_iconst (v := (0 : Int32)) hx hb dX5_passWait_15 (by decide +kernel) ?_
      exact r_iret X hr hlk hP hS dX5_passWait_16 h
abbrev rm5_passWholeMove : Room := { frames := 0, cells := 0, slots := 0, locals := 0 }
def f5_passWholeMove (N : Nat) (I : Mem) (k0 : Nat) (a1 : Int32) : Option (Mem) :=
    letM (st I k0 4 ((I k0 4) + a1)) (fun I_1 : Mem =>
    letM (st I_1 k0 9 (I_1 k0 10)) (fun I_2 : Mem =>
    letM (st I_2 k0 10 (0 : Int32)) (fun I_3 : Mem =>
    some I_3)))
set_option maxHeartbeats 4000000 in
set_option maxRecDepth 100000 in
theorem c5_passWholeMove (l : Launch) (g : GG) (hG : Apart g NT) (N : Nat) (I : Mem) (k0 : Nat) (a1 : Int32) (t0 : tag k0 = 4) (I0 : Mem) (h : f5_passWholeMove N I k0 a1 = some I0) : Mc l g yX5_passWholeMove cX5_passWholeMove 2 none rm5_passWholeMove I [.ref (ga g k0), .int a1] none I0 := by
  refine Mc.of hG (by decide +kernel) (Nat.le_of_ble_eq_true rfl) ?_
  intro p e s m args below meth c ls X hr hlk hP hS hl
  have X : Cx g p s m args c cX5_passWholeMove RX5 2 := X
  have hx := X.hx
  have hb := X.hb
  have hl : lv_has ls 2 [(0, .ref (ga g k0)), (1, .int a1)] := hl
  have locs : List Loc := []
  unfold f5_passWholeMove at h
  refine lv_aload_n hx hb dX5_passWholeMove_0 rfl (lv_at hl 0 rfl) ?_
  refine lv_dup hx hb dX5_passWholeMove_1 rfl ?_
  refine g5_4 X hP t0 k_57 dX5_passWholeMove_2 ?_
  refine lv_iload_n hx hb dX5_passWholeMove_5 rfl (lv_at hl 1 rfl) ?_
  refine lv_iadd hx hb dX5_passWholeMove_6 ?_
  obtain ⟨I_1, eI_1, h⟩ := letM_e h
  refine p5_4 X hP hS t0 k_57 eI_1 dX5_passWholeMove_7 (fun H locs hP hS => ?_)
  refine lv_aload_n hx hb dX5_passWholeMove_10 rfl (lv_at hl 0 rfl) ?_
  refine lv_aload_n hx hb dX5_passWholeMove_11 rfl (lv_at hl 0 rfl) ?_
  refine g5_10 X hP t0 k_66 dX5_passWholeMove_12 ?_
  obtain ⟨I_2, eI_2, h⟩ := letM_e h
  refine p5_9 X hP hS t0 k_65 eI_2 dX5_passWholeMove_15 (fun H locs hP hS => ?_)
  refine lv_aload_n hx hb dX5_passWholeMove_18 rfl (lv_at hl 0 rfl) ?_
  refine lv_iconst (v := (0 : Int32)) hx hb dX5_passWholeMove_19 (by decide +kernel) ?_
  obtain ⟨I_3, eI_3, h⟩ := letM_e h
  refine p5_10 X hP hS t0 k_66 eI_3 dX5_passWholeMove_20 (fun H locs hP hS => ?_)
  exact r_vret X hr hlk hP hS dX5_passWholeMove_23 h
abbrev rm5_nextIndex : Room := { frames := 1, cells := 0, slots := 0, locals := 21 }
def f5_nextIndex (N : Nat) (I : Mem) (k0 : Nat) (a1 : Int32) : Option (Int32 × Mem) :=
    if (I k0 9) = (0 : Int32) then
    some ((0 : Int32), I)
    else
    clP (fJ9_min_7cf53 N I ((I k0 10) - (1 : Int32)) a1) (fun (q_2 : Int32) (I_3 : Mem) =>
    if q_2 < ((I_3 k0 11) + (1 : Int32)) then
    if q_2 < (I_3 k0 11) then
    some (((I_3 k0 11) - (1 : Int32)), I_3)
    else
    some ((I_3 k0 11), I_3)
    else
    some (((I_3 k0 11) + (1 : Int32)), I_3))
set_option maxHeartbeats 4000000 in
set_option maxRecDepth 100000 in
theorem c5_nextIndex (l : Launch) (g : GG) (hG : Apart g NT) (N : Nat) (I : Mem) (k0 : Nat) (a1 : Int32) (t0 : tag k0 = 4) (r0 : Int32) (I0 : Mem) (h : f5_nextIndex N I k0 a1 = some (r0, I0)) : Mc l g yX5_nextIndex cX5_nextIndex 3 (some .int) rm5_nextIndex I [.ref (ga g k0), .int a1] (some (.int r0)) I0 := by
  refine Mc.of hG (by decide +kernel) (Nat.le_of_ble_eq_true rfl) ?_
  intro p e s m args below meth c ls X hr hlk hP hS hl
  have X : Cx g p s m args c cX5_nextIndex RX5 3 := X
  have hx := X.hx
  have hb := X.hb
  have hl : lv_has ls 3 [(0, .ref (ga g k0)), (1, .int a1)] := hl
  have locs : List Loc := []
  unfold f5_nextIndex at h
  refine lv_aload_n hx hb dX5_nextIndex_0 rfl (lv_at hl 0 rfl) ?_
  refine g5_9 X hP t0 k_65 dX5_nextIndex_1 ?_
  refine lv_if_ne (tgt := 9) hx hb dX5_nextIndex_4 (by decide) (fun c_1 => ?_) (fun c_1 => ?_)
  · replace h := ifn c_1 h
    refine lv_aload_n hx hb dX5_nextIndex_9 rfl (lv_at hl 0 rfl) ?_
    refine g5_10 X hP t0 k_66 dX5_nextIndex_10 ?_
    refine lv_iconst (v := (1 : Int32)) hx hb dX5_nextIndex_13 (by decide +kernel) ?_
    refine lv_isub hx hb dX5_nextIndex_14 ?_
    refine lv_iload_n hx hb dX5_nextIndex_15 rfl (lv_at hl 1 rfl) ?_
    obtain ⟨q_2, I_3, hc_4, h⟩ := clP_e h
    refine r_callS (As := [.int ((I k0 10) - (1 : Int32)), .int a1]) [] X (ccJ9_min_7cf53 l g hG N _ _ _ _ _ hc_4) cal_J9_min_7cf53 (sc_J9_min_7cf53) k_382 rfl ⟨rfl, rfl⟩ ⟨Nat.le_of_ble_eq_true rfl, Nat.le_of_ble_eq_true rfl⟩ hP hS hl.1 rfl (Nat.le_of_ble_eq_true rfl) dX5_nextIndex_16 ⟨Nat.zero_le _, Nat.zero_le _⟩ (fun H locs hP hS => ?_)
    show W p l e rm5_nextIndex s m args below meth c H locs 0 0 _ (F0 m 19 ls [.int q_2])
    refine lv_istore_n (lv' := [(2, .int q_2), (0, .ref (ga g k0)), (1, .int a1)]) hx hb dX5_nextIndex_19 rfl hl (by decide) rfl (fun ls hl => ?_)
    refine lv_aload_n hx hb dX5_nextIndex_20 rfl (lv_at hl 1 rfl) ?_
    refine g5_11 X hP t0 k_67 dX5_nextIndex_21 ?_
    refine lv_iconst (v := (1 : Int32)) hx hb dX5_nextIndex_24 (by decide +kernel) ?_
    refine lv_iadd hx hb dX5_nextIndex_25 ?_
    refine lv_iload_n hx hb dX5_nextIndex_26 rfl (lv_at hl 0 rfl) ?_
    refine lv_icmp_gt (tgt := 37) hx hb dX5_nextIndex_27 (by decide) (fun c_5 => ?_) (fun c_5 => ?_)
    · replace h := ifp c_5 h
      refine lv_aload_n hx hb dX5_nextIndex_37 rfl (lv_at hl 1 rfl) ?_
      refine g5_11 X hP t0 k_67 dX5_nextIndex_38 ?_
      refine lv_iload_n hx hb dX5_nextIndex_41 rfl (lv_at hl 0 rfl) ?_
      refine lv_icmp_gt (tgt := 52) hx hb dX5_nextIndex_42 (by decide) (fun c_6 => ?_) (fun c_6 => ?_)
      · replace h := ifp c_6 h
        refine lv_aload_n hx hb dX5_nextIndex_52 rfl (lv_at hl 1 rfl) ?_
        refine g5_11 X hP t0 k_67 dX5_nextIndex_53 ?_
        refine lv_iconst (v := (1 : Int32)) hx hb dX5_nextIndex_56 (by decide +kernel) ?_
        refine lv_isub hx hb dX5_nextIndex_57 ?_
        exact r_iret X hr hlk hP hS dX5_nextIndex_58 h
      · replace h := ifn c_6 h
        refine lv_aload_n hx hb dX5_nextIndex_45 rfl (lv_at hl 1 rfl) ?_
        refine g5_11 X hP t0 k_67 dX5_nextIndex_46 ?_
        refine lv_goto (tgt := 58) hx hb dX5_nextIndex_49 (by decide) ?_
        exact r_iret X hr hlk hP hS dX5_nextIndex_58 h
    · replace h := ifn c_5 h
      refine lv_aload_n hx hb dX5_nextIndex_30 rfl (lv_at hl 1 rfl) ?_
      refine g5_11 X hP t0 k_67 dX5_nextIndex_31 ?_
      refine lv_iconst (v := (1 : Int32)) hx hb dX5_nextIndex_34 (by decide +kernel) ?_
      refine lv_iadd hx hb dX5_nextIndex_35 ?_
      exact r_iret X hr hlk hP hS dX5_nextIndex_36 h
  · replace h := ifp c_1 h
    refine lv_iconst (v := (0 : Int32)) hx hb dX5_nextIndex_7 (by decide +kernel) ?_
    exact r_iret X hr hlk hP hS dX5_nextIndex_8 h
abbrev rm5_makeSteps : Room := { frames := 2, cells := 0, slots := 0, locals := 43 }
def f5_makeSteps_79 (N : Nat) (k0 : Nat) (k1 : Nat) (a2 : Int32) (a3 : Int32) (I : Mem) (v4 : Int32) : Option (Mem) :=
    letM (st I k0 4 ((I k0 4) + (a3 - v4))) (fun I_2 : Mem =>
    some I_2)
def f5_makeSteps_6 (N : Nat) (k0 : Nat) (k1 : Nat) (a2 : Int32) (a3 : Int32) : Nat → Mem → Int32 → Int32 → Option (Mem)
  | 0, _, _, _ => none
  | cnt+1, I, v4, v5 =>
    if a2 ≤ v5 then
    f5_makeSteps_79 N k0 k1 a2 a3 I v4
    else
    clP (f5_nextIndex N I k0 (I k1 3)) (fun (q_3 : Int32) (I_4 : Mem) =>
    clP (f2_intervalOf N I_4 k1 q_3) (fun (q_6 : Int32) (I_7 : Mem) =>
    if q_6 ≤ v4 then
    letM (v4 - q_6) (fun x_10 : Int32 =>
    letM (st I_7 k0 11 q_3) (fun I_11 : Mem =>
    letM (st I_11 k0 9 ((I_11 k0 9) + (1 : Int32))) (fun I_12 : Mem =>
    letM (st I_12 k0 10 ((I_12 k0 10) - (1 : Int32))) (fun I_13 : Mem =>
    letM (v5 + (1 : Int32)) (fun x_14 : Int32 =>
    f5_makeSteps_6 N k0 k1 a2 a3 cnt I_13 x_10 x_14)))))
    else
    f5_makeSteps_79 N k0 k1 a2 a3 I_7 v4))
def f5_makeSteps (N : Nat) (I : Mem) (k0 : Nat) (k1 : Nat) (a2 : Int32) (a3 : Int32) : Option (Mem) :=
    f5_makeSteps_6 N k0 k1 a2 a3 N I a3 (0 : Int32)
set_option maxHeartbeats 4000000 in
set_option maxRecDepth 100000 in
theorem L5_makeSteps_79 (hG : Apart g NT) (N : Nat) (k0 : Nat) (k1 : Nat) (a2 : Int32) (a3 : Int32) (t0 : tag k0 = 4) (t1 : tag k1 = 1) (X : Cx g p s m args c cX5_makeSteps RX5 8) (hr : meth.sig.returnType = none) (hlk : meth.locks = false) (I0 : Mem) : ∀ (I : Mem) (v4 : Int32), f5_makeSteps_79 N k0 k1 a2 a3 I v4 = some I0 → ∀ (H : Heap) (locs : List Loc) (ls : Array Slot), Wp g I H → va_S (gA g) s.heap H locs → lv_has ls 8 [(0, .ref (ga g k0)), (3, .int a3), (4, .int v4)] → W p l e rm5_makeSteps s m args below meth c H locs 0 0 (MQ below (Qg g none I0) args s 0 0 (gA g)) (F0 m 79 ls []) := by
  have hx := X.hx
  have hb := X.hb
  intro I v4 h H locs ls hP hS hl
  unfold f5_makeSteps_79 at h
  refine lv_aload_n hx hb dX5_makeSteps_79 rfl (lv_at hl 0 rfl) ?_
  refine lv_dup hx hb dX5_makeSteps_80 rfl ?_
  refine g5_4 X hP t0 k_57 dX5_makeSteps_81 ?_
  refine lv_iload_n hx hb dX5_makeSteps_84 rfl (lv_at hl 1 rfl) ?_
  refine lv_iload hx hb dX5_makeSteps_85 (lv_at hl 2 rfl) ?_
  refine lv_isub hx hb dX5_makeSteps_87 ?_
  refine lv_iadd hx hb dX5_makeSteps_88 ?_
  obtain ⟨I_2, eI_2, h⟩ := letM_e h
  refine p5_4 X hP hS t0 k_57 eI_2 dX5_makeSteps_89 (fun H locs hP hS => ?_)
  exact r_vret X hr hlk hP hS dX5_makeSteps_92 h
set_option maxHeartbeats 4000000 in
set_option maxRecDepth 100000 in
theorem L5_makeSteps_6 (hG : Apart g NT) (N : Nat) (k0 : Nat) (k1 : Nat) (a2 : Int32) (a3 : Int32) (t0 : tag k0 = 4) (t1 : tag k1 = 1) (X : Cx g p s m args c cX5_makeSteps RX5 8) (hr : meth.sig.returnType = none) (hlk : meth.locks = false) (I0 : Mem) : ∀ (cnt : Nat) (I : Mem) (v4 : Int32) (v5 : Int32), f5_makeSteps_6 N k0 k1 a2 a3 cnt I v4 v5 = some I0 → ∀ (H : Heap) (locs : List Loc) (ls : Array Slot), Wp g I H → va_S (gA g) s.heap H locs → lv_has ls 8 [(0, .ref (ga g k0)), (1, .ref (ga g k1)), (2, .int a2), (3, .int a3), (4, .int v4), (5, .int v5)] → W p l e rm5_makeSteps s m args below meth c H locs 0 0 (MQ below (Qg g none I0) args s 0 0 (gA g)) (F0 m 6 ls []) := by
  have hx := X.hx
  have hb := X.hb
  intro cnt
  induction cnt with
  | zero =>
    intro I v4 v5 h
    rw [f5_makeSteps_6] at h
    cases h
  | succ cnt ih =>
    intro I v4 v5 h H locs ls hP hS hl
    rw [f5_makeSteps_6] at h
    refine lv_iload hx hb dX5_makeSteps_6 (lv_at hl 5 rfl) ?_
    refine lv_iload_n hx hb dX5_makeSteps_8 rfl (lv_at hl 2 rfl) ?_
    refine lv_icmp_ge (tgt := 79) hx hb dX5_makeSteps_9 (by decide) (fun c_1 => ?_) (fun c_1 => ?_)
    · replace h := ifp c_1 h
      exact L5_makeSteps_79 hG N k0 k1 a2 a3 t0 t1 X hr hlk I0 I v4 h _ _ _ hP hS (lv_sub hl [0, 3, 4] rfl)
    · replace h := ifn c_1 h
      refine lv_aload_n hx hb dX5_makeSteps_12 rfl (lv_at hl 0 rfl) ?_
      refine lv_aload_n hx hb dX5_makeSteps_13 rfl (lv_at hl 1 rfl) ?_
      refine g2_3 X hP t1 k_141 dX5_makeSteps_14 ?_
      obtain ⟨q_3, I_4, hc_5, h⟩ := clP_e h
      refine r_callV (As := [.int (I k1 3)]) [] X (c5_nextIndex l g hG N _ _ _ t0 _ _ hc_5) cal_X5_nextIndex (im_X5_nextIndex) (se_X5_nextIndex) k_387 (tag_lt t0 (by decide)) (by rw [lay, t0]; rfl) rfl rfl ⟨rfl, rfl⟩ ⟨Nat.le_of_ble_eq_true rfl, Nat.le_of_ble_eq_true rfl⟩ hP hS hl.1 rfl (Nat.le_of_ble_eq_true rfl) dX5_makeSteps_17 ⟨Nat.zero_le _, Nat.zero_le _⟩ (fun H locs hP hS => ?_)
      show W p l e rm5_makeSteps s m args below meth c H locs 0 0 _ (F0 m 20 ls [.int q_3])
      refine lv_istore (lv' := [(6, .int q_3), (0, .ref (ga g k0)), (1, .ref (ga g k1)), (2, .int a2), (3, .int a3), (4, .int v4), (5, .int v5)]) hx hb dX5_makeSteps_20 hl (by decide) rfl (fun ls hl => ?_)
      refine lv_aload_n hx hb dX5_makeSteps_22 rfl (lv_at hl 2 rfl) ?_
      refine lv_iload hx hb dX5_makeSteps_23 (lv_at hl 0 rfl) ?_
      obtain ⟨q_6, I_7, hc_8, h⟩ := clP_e h
      refine r_callV (As := [.int q_3]) [] X (c2_intervalOf l g hG N _ _ _ t1 _ _ hc_8) cal_X2_intervalOf (im_X2_intervalOf) (se_X2_intervalOf) k_391 (tag_lt t1 (by decide)) (by rw [lay, t1]; rfl) rfl rfl ⟨rfl, rfl⟩ ⟨Nat.le_of_ble_eq_true rfl, Nat.le_of_ble_eq_true rfl⟩ hP hS hl.1 rfl (Nat.le_of_ble_eq_true rfl) dX5_makeSteps_25 ⟨Nat.zero_le _, Nat.zero_le _⟩ (fun H locs hP hS => ?_)
      show W p l e rm5_makeSteps s m args below meth c H locs 0 0 _ (F0 m 28 ls [.int q_6])
      refine lv_istore (lv' := [(7, .int q_6), (6, .int q_3), (0, .ref (ga g k0)), (1, .ref (ga g k1)), (2, .int a2), (3, .int a3), (4, .int v4), (5, .int v5)]) hx hb dX5_makeSteps_28 hl (by decide) rfl (fun ls hl => ?_)
      refine lv_iload hx hb dX5_makeSteps_30 (lv_at hl 0 rfl) ?_
      refine lv_iload hx hb dX5_makeSteps_32 (lv_at hl 6 rfl) ?_
      refine lv_icmp_le (tgt := 40) hx hb dX5_makeSteps_34 (by decide) (fun c_9 => ?_) (fun c_9 => ?_)
      · replace h := ifp c_9 h
        refine lv_iload hx hb dX5_makeSteps_40 (lv_at hl 6 rfl) ?_
        refine lv_iload hx hb dX5_makeSteps_42 (lv_at hl 0 rfl) ?_
        refine lv_isub hx hb dX5_makeSteps_44 ?_
        obtain ⟨x_10, ex_10, h⟩ := letM_e h
        refine r_nmi ex_10 ?_
        refine lv_istore (lv' := [(4, .int x_10), (7, .int q_6), (6, .int q_3), (0, .ref (ga g k0)), (1, .ref (ga g k1)), (2, .int a2), (3, .int a3), (5, .int v5)]) hx hb dX5_makeSteps_45 hl (by decide) rfl (fun ls hl => ?_)
        refine lv_aload_n hx hb dX5_makeSteps_47 rfl (lv_at hl 3 rfl) ?_
        refine lv_iload hx hb dX5_makeSteps_48 (lv_at hl 2 rfl) ?_
        obtain ⟨I_11, eI_11, h⟩ := letM_e h
        refine p5_11 X hP hS t0 k_67 eI_11 dX5_makeSteps_50 (fun H locs hP hS => ?_)
        refine lv_aload_n hx hb dX5_makeSteps_53 rfl (lv_at hl 3 rfl) ?_
        refine lv_dup hx hb dX5_makeSteps_54 rfl ?_
        refine g5_9 X hP t0 k_65 dX5_makeSteps_55 ?_
        refine lv_iconst (v := (1 : Int32)) hx hb dX5_makeSteps_58 (by decide +kernel) ?_
        refine lv_iadd hx hb dX5_makeSteps_59 ?_
        obtain ⟨I_12, eI_12, h⟩ := letM_e h
        refine p5_9 X hP hS t0 k_65 eI_12 dX5_makeSteps_60 (fun H locs hP hS => ?_)
        refine lv_aload_n hx hb dX5_makeSteps_63 rfl (lv_at hl 3 rfl) ?_
        refine lv_dup hx hb dX5_makeSteps_64 rfl ?_
        refine g5_10 X hP t0 k_66 dX5_makeSteps_65 ?_
        refine lv_iconst (v := (1 : Int32)) hx hb dX5_makeSteps_68 (by decide +kernel) ?_
        refine lv_isub hx hb dX5_makeSteps_69 ?_
        obtain ⟨I_13, eI_13, h⟩ := letM_e h
        refine p5_10 X hP hS t0 k_66 eI_13 dX5_makeSteps_70 (fun H locs hP hS => ?_)
        obtain ⟨x_14, ex_14, h⟩ := letM_e h
        refine lv_iinc (v := x_14) (lv' := [(5, .int x_14), (4, .int x_10), (7, .int q_6), (6, .int q_3), (0, .ref (ga g k0)), (1, .ref (ga g k1)), (2, .int a2), (3, .int a3)]) hx hb dX5_makeSteps_73 hl (k := 7) rfl (by rw [ex_14]; rfl) (by decide) rfl (fun ls hl => ?_)
        refine lv_goto (tgt := 6) hx hb dX5_makeSteps_76 (by decide) ?_
        exact ih I_13 x_10 x_14 h _ _ _ hP hS (lv_sub hl [4, 5, 6, 7, 1, 0] rfl)
      · replace h := ifn c_9 h
        refine lv_goto (tgt := 79) hx hb dX5_makeSteps_37 (by decide) ?_
        exact L5_makeSteps_79 hG N k0 k1 a2 a3 t0 t1 X hr hlk I0 I_7 v4 h _ _ _ hP hS (lv_sub hl [2, 5, 6] rfl)
set_option maxHeartbeats 4000000 in
set_option maxRecDepth 100000 in
theorem c5_makeSteps (l : Launch) (g : GG) (hG : Apart g NT) (N : Nat) (I : Mem) (k0 : Nat) (k1 : Nat) (a2 : Int32) (a3 : Int32) (t0 : tag k0 = 4) (t1 : tag k1 = 1) (I0 : Mem) (h : f5_makeSteps N I k0 k1 a2 a3 = some I0) : Mc l g yX5_makeSteps cX5_makeSteps 8 none rm5_makeSteps I [.ref (ga g k0), .ref (ga g k1), .int a2, .int a3] none I0 := by
  refine Mc.of hG (by decide +kernel) (Nat.le_of_ble_eq_true rfl) ?_
  intro p e s m args below meth c ls X hr hlk hP hS hl
  have X : Cx g p s m args c cX5_makeSteps RX5 8 := X
  have hx := X.hx
  have hb := X.hb
  have hl : lv_has ls 8 [(0, .ref (ga g k0)), (1, .ref (ga g k1)), (2, .int a2), (3, .int a3)] := hl
  have locs : List Loc := []
  unfold f5_makeSteps at h
  refine lv_iload_n hx hb dX5_makeSteps_0 rfl (lv_at hl 3 rfl) ?_
  refine lv_istore (lv' := [(4, .int a3), (0, .ref (ga g k0)), (1, .ref (ga g k1)), (2, .int a2), (3, .int a3)]) hx hb dX5_makeSteps_1 hl (by decide) rfl (fun ls hl => ?_)
  refine lv_iconst (v := (0 : Int32)) hx hb dX5_makeSteps_3 (by decide +kernel) ?_
  refine lv_istore (lv' := [(5, .int (0 : Int32)), (4, .int a3), (0, .ref (ga g k0)), (1, .ref (ga g k1)), (2, .int a2), (3, .int a3)]) hx hb dX5_makeSteps_4 hl (by decide) rfl (fun ls hl => ?_)
  exact L5_makeSteps_6 hG N k0 k1 a2 a3 t0 t1 X hr hlk I0 N I a3 (0 : Int32) h _ _ _ hP hS (lv_sub hl [2, 3, 4, 5, 1, 0] rfl)
abbrev rm5_way : Room := { frames := 1, cells := 0, slots := 0, locals := 20 }
def f5_way (N : Nat) (I : Mem) (a0 : Int32) (a1 : Int32) (a2 : Int32) : Option (Int32 × Mem) :=
    if (1 : Int32) ≤ a1 then
    clP (fJ9_abs_0f7a4 N I a0) (fun (q_2 : Int32) (I_3 : Mem) =>
    if ((2 : Int32) * a1) = (0 : Int32) then none else
    letM (((((2 : Int32) * a2) * q_2) + a1) / ((2 : Int32) * a1)) (fun x_6 : Int32 =>
    if (0 : Int32) ≤ a0 then
    some (x_6, I_3)
    else
    some ((-x_6), I_3)))
    else
    some ((0 : Int32), I)
set_option maxHeartbeats 4000000 in
set_option maxRecDepth 100000 in
theorem c5_way (l : Launch) (g : GG) (hG : Apart g NT) (N : Nat) (I : Mem) (a0 : Int32) (a1 : Int32) (a2 : Int32) (r0 : Int32) (I0 : Mem) (h : f5_way N I a0 a1 a2 = some (r0, I0)) : Mc l g yX5_way cX5_way 4 (some .int) rm5_way I [.int a0, .int a1, .int a2] (some (.int r0)) I0 := by
  refine Mc.of hG (by decide +kernel) (Nat.le_of_ble_eq_true rfl) ?_
  intro p e s m args below meth c ls X hr hlk hP hS hl
  have X : Cx g p s m args c cX5_way RX5 4 := X
  have hx := X.hx
  have hb := X.hb
  have hl : lv_has ls 4 [(0, .int a0), (1, .int a1), (2, .int a2)] := hl
  have locs : List Loc := []
  unfold f5_way at h
  refine lv_iload_n hx hb dX5_way_0 rfl (lv_at hl 1 rfl) ?_
  refine lv_iconst (v := (1 : Int32)) hx hb dX5_way_1 (by decide +kernel) ?_
  refine lv_icmp_ge (tgt := 7) hx hb dX5_way_2 (by decide) (fun c_1 => ?_) (fun c_1 => ?_)
  · replace h := ifp c_1 h
    refine lv_iconst (v := (2 : Int32)) hx hb dX5_way_7 (by decide +kernel) ?_
    refine lv_iload_n hx hb dX5_way_8 rfl (lv_at hl 2 rfl) ?_
    refine lv_imul hx hb dX5_way_9 ?_
    refine lv_iload_n hx hb dX5_way_10 rfl (lv_at hl 0 rfl) ?_
    obtain ⟨q_2, I_3, hc_4, h⟩ := clP_e h
    refine r_callS (As := [.int a0]) [.int ((2 : Int32) * a2)] X (ccJ9_abs_0f7a4 l g hG N _ _ _ _ hc_4) cal_J9_abs_0f7a4 (sc_J9_abs_0f7a4) k_233 rfl ⟨rfl, rfl⟩ ⟨Nat.le_of_ble_eq_true rfl, Nat.le_of_ble_eq_true rfl⟩ hP hS hl.1 rfl (Nat.le_of_ble_eq_true rfl) dX5_way_11 ⟨Nat.zero_le _, Nat.zero_le _⟩ (fun H locs hP hS => ?_)
    show W p l e rm5_way s m args below meth c H locs 0 0 _ (F0 m 14 ls [.int q_2, .int ((2 : Int32) * a2)])
    refine lv_imul hx hb dX5_way_14 ?_
    refine lv_iload_n hx hb dX5_way_15 rfl (lv_at hl 1 rfl) ?_
    refine lv_iadd hx hb dX5_way_16 ?_
    refine lv_iconst (v := (2 : Int32)) hx hb dX5_way_17 (by decide +kernel) ?_
    refine lv_iload_n hx hb dX5_way_18 rfl (lv_at hl 1 rfl) ?_
    refine lv_imul hx hb dX5_way_19 ?_
    obtain ⟨g_5, h⟩ := gd_e h
    refine lv_idiv hx hb dX5_way_20 g_5 ?_
    obtain ⟨x_6, ex_6, h⟩ := letM_e h
    refine r_nmi ex_6 ?_
    refine lv_istore_n (lv' := [(3, .int x_6), (0, .int a0), (1, .int a1), (2, .int a2)]) hx hb dX5_way_21 rfl hl (by decide) rfl (fun ls hl => ?_)
    refine lv_iload_n hx hb dX5_way_22 rfl (lv_at hl 1 rfl) ?_
    refine lv_if_ge (tgt := 31) hx hb dX5_way_23 (by decide) (fun c_7 => ?_) (fun c_7 => ?_)
    · replace h := ifp c_7 h
      refine lv_iload_n hx hb dX5_way_31 rfl (lv_at hl 0 rfl) ?_
      exact r_iret X hr hlk hP hS dX5_way_32 h
    · replace h := ifn c_7 h
      refine lv_iload_n hx hb dX5_way_26 rfl (lv_at hl 0 rfl) ?_
      refine lv_ineg hx hb dX5_way_27 ?_
      refine lv_goto (tgt := 32) hx hb dX5_way_28 (by decide) ?_
      exact r_iret X hr hlk hP hS dX5_way_32 h
  · replace h := ifn c_1 h
    refine lv_iconst (v := (0 : Int32)) hx hb dX5_way_5 (by decide +kernel) ?_
    exact r_iret X hr hlk hP hS dX5_way_6 h
abbrev rm5_moveAxes : Room := { frames := 2, cells := 0, slots := 0, locals := 43 }
def f5_moveAxes (N : Nat) (I : Mem) (k0 : Nat) (a1 : Int32) : Option (Mem) :=
    clP (f5_lengthOf N I k0 (0 : Int32)) (fun (q_1 : Int32) (I_2 : Mem) =>
    clP (f5_way N I_2 (I_2 (k0 + 1) 0) q_1 (I_2 k0 9)) (fun (q_4 : Int32) (I_5 : Mem) =>
    clP (f5_way N I_5 (I_5 (k0 + 1) 0) q_1 a1) (fun (q_7 : Int32) (I_8 : Mem) =>
    letM (st I_8 k0 2 ((I_2 k0 2) + (q_4 - q_7))) (fun I_10 : Mem =>
    clP (f5_way N I_10 (I_10 (k0 + 2) 0) q_1 (I_10 k0 9)) (fun (q_11 : Int32) (I_12 : Mem) =>
    clP (f5_way N I_12 (I_12 (k0 + 2) 0) q_1 a1) (fun (q_14 : Int32) (I_15 : Mem) =>
    letM (st I_15 k0 3 ((I_10 k0 3) + (q_11 - q_14))) (fun I_17 : Mem =>
    some I_17)))))))
set_option maxHeartbeats 4000000 in
set_option maxRecDepth 100000 in
theorem c5_moveAxes (l : Launch) (g : GG) (hG : Apart g NT) (N : Nat) (I : Mem) (k0 : Nat) (a1 : Int32) (t0 : tag k0 = 4) (I0 : Mem) (h : f5_moveAxes N I k0 a1 = some I0) : Mc l g yX5_moveAxes cX5_moveAxes 3 none rm5_moveAxes I [.ref (ga g k0), .int a1] none I0 := by
  refine Mc.of hG (by decide +kernel) (Nat.le_of_ble_eq_true rfl) ?_
  intro p e s m args below meth c ls X hr hlk hP hS hl
  have X : Cx g p s m args c cX5_moveAxes RX5 3 := X
  have hx := X.hx
  have hb := X.hb
  have hl : lv_has ls 3 [(0, .ref (ga g k0)), (1, .int a1)] := hl
  have locs : List Loc := []
  unfold f5_moveAxes at h
  refine lv_aload_n hx hb dX5_moveAxes_0 rfl (lv_at hl 0 rfl) ?_
  refine lv_iconst (v := (0 : Int32)) hx hb dX5_moveAxes_1 (by decide +kernel) ?_
  obtain ⟨q_1, I_2, hc_3, h⟩ := clP_e h
  refine r_callV (As := [.int (0 : Int32)]) [] X (c5_lengthOf l g hG N _ _ _ t0 _ _ hc_3) cal_X5_lengthOf (im_X5_lengthOf) (se_X5_lengthOf) k_229 (tag_lt t0 (by decide)) (by rw [lay, t0]; rfl) rfl rfl ⟨rfl, rfl⟩ ⟨Nat.le_of_ble_eq_true rfl, Nat.le_of_ble_eq_true rfl⟩ hP hS hl.1 rfl (Nat.le_of_ble_eq_true rfl) dX5_moveAxes_2 ⟨Nat.zero_le _, Nat.zero_le _⟩ (fun H locs hP hS => ?_)
  show W p l e rm5_moveAxes s m args below meth c H locs 0 0 _ (F0 m 5 ls [.int q_1])
  refine lv_istore_n (lv' := [(2, .int q_1), (0, .ref (ga g k0)), (1, .int a1)]) hx hb dX5_moveAxes_5 rfl hl (by decide) rfl (fun ls hl => ?_)
  refine lv_aload_n hx hb dX5_moveAxes_6 rfl (lv_at hl 1 rfl) ?_
  refine lv_dup hx hb dX5_moveAxes_7 rfl ?_
  refine g5_2 X hP t0 k_54 dX5_moveAxes_8 ?_
  refine lv_aload_n hx hb dX5_moveAxes_11 rfl (lv_at hl 1 rfl) ?_
  refine g5_6 X hP t0 k_61 dX5_moveAxes_12 ?_
  refine lv_iconst (v := (0 : Int32)) hx hb dX5_moveAxes_15 (by decide +kernel) ?_
  refine r_iald (n := 8) X hP (g5_6_t t0) (by decide +kernel) (j := 0) (by decide +kernel) dX5_moveAxes_16 ?_
  refine lv_iload_n hx hb dX5_moveAxes_17 rfl (lv_at hl 0 rfl) ?_
  refine lv_aload_n hx hb dX5_moveAxes_18 rfl (lv_at hl 1 rfl) ?_
  refine g5_9 X hP t0 k_65 dX5_moveAxes_19 ?_
  obtain ⟨q_4, I_5, hc_6, h⟩ := clP_e h
  refine r_callS (As := [.int (I_2 (k0 + 1) 0), .int q_1, .int (I_2 k0 9)]) [.int (I_2 k0 2), .ref (ga g k0)] X (c5_way l g hG N _ _ _ _ _ _ hc_6) cal_X5_way (sc_X5_way) k_396 rfl ⟨rfl, rfl⟩ ⟨Nat.le_of_ble_eq_true rfl, Nat.le_of_ble_eq_true rfl⟩ hP hS hl.1 rfl (Nat.le_of_ble_eq_true rfl) dX5_moveAxes_22 ⟨Nat.zero_le _, Nat.zero_le _⟩ (fun H locs hP hS => ?_)
  show W p l e rm5_moveAxes s m args below meth c H locs 0 0 _ (F0 m 25 ls [.int q_4, .int (I_2 k0 2), .ref (ga g k0)])
  refine lv_aload_n hx hb dX5_moveAxes_25 rfl (lv_at hl 1 rfl) ?_
  refine g5_6 X hP t0 k_61 dX5_moveAxes_26 ?_
  refine lv_iconst (v := (0 : Int32)) hx hb dX5_moveAxes_29 (by decide +kernel) ?_
  refine r_iald (n := 8) X hP (g5_6_t t0) (by decide +kernel) (j := 0) (by decide +kernel) dX5_moveAxes_30 ?_
  refine lv_iload_n hx hb dX5_moveAxes_31 rfl (lv_at hl 0 rfl) ?_
  refine lv_iload_n hx hb dX5_moveAxes_32 rfl (lv_at hl 2 rfl) ?_
  obtain ⟨q_7, I_8, hc_9, h⟩ := clP_e h
  refine r_callS (As := [.int (I_5 (k0 + 1) 0), .int q_1, .int a1]) [.int q_4, .int (I_2 k0 2), .ref (ga g k0)] X (c5_way l g hG N _ _ _ _ _ _ hc_9) cal_X5_way (sc_X5_way) k_396 rfl ⟨rfl, rfl⟩ ⟨Nat.le_of_ble_eq_true rfl, Nat.le_of_ble_eq_true rfl⟩ hP hS hl.1 rfl (Nat.le_of_ble_eq_true rfl) dX5_moveAxes_33 ⟨Nat.zero_le _, Nat.zero_le _⟩ (fun H locs hP hS => ?_)
  show W p l e rm5_moveAxes s m args below meth c H locs 0 0 _ (F0 m 36 ls [.int q_7, .int q_4, .int (I_2 k0 2), .ref (ga g k0)])
  refine lv_isub hx hb dX5_moveAxes_36 ?_
  refine lv_iadd hx hb dX5_moveAxes_37 ?_
  obtain ⟨I_10, eI_10, h⟩ := letM_e h
  refine p5_2 X hP hS t0 k_54 eI_10 dX5_moveAxes_38 (fun H locs hP hS => ?_)
  refine lv_aload_n hx hb dX5_moveAxes_41 rfl (lv_at hl 1 rfl) ?_
  refine lv_dup hx hb dX5_moveAxes_42 rfl ?_
  refine g5_3 X hP t0 k_56 dX5_moveAxes_43 ?_
  refine lv_aload_n hx hb dX5_moveAxes_46 rfl (lv_at hl 1 rfl) ?_
  refine g5_7 X hP t0 k_62 dX5_moveAxes_47 ?_
  refine lv_iconst (v := (0 : Int32)) hx hb dX5_moveAxes_50 (by decide +kernel) ?_
  refine r_iald (n := 8) X hP (g5_7_t t0) (by decide +kernel) (j := 0) (by decide +kernel) dX5_moveAxes_51 ?_
  refine lv_iload_n hx hb dX5_moveAxes_52 rfl (lv_at hl 0 rfl) ?_
  refine lv_aload_n hx hb dX5_moveAxes_53 rfl (lv_at hl 1 rfl) ?_
  refine g5_9 X hP t0 k_65 dX5_moveAxes_54 ?_
  obtain ⟨q_11, I_12, hc_13, h⟩ := clP_e h
  refine r_callS (As := [.int (I_10 (k0 + 2) 0), .int q_1, .int (I_10 k0 9)]) [.int (I_10 k0 3), .ref (ga g k0)] X (c5_way l g hG N _ _ _ _ _ _ hc_13) cal_X5_way (sc_X5_way) k_396 rfl ⟨rfl, rfl⟩ ⟨Nat.le_of_ble_eq_true rfl, Nat.le_of_ble_eq_true rfl⟩ hP hS hl.1 rfl (Nat.le_of_ble_eq_true rfl) dX5_moveAxes_57 ⟨Nat.zero_le _, Nat.zero_le _⟩ (fun H locs hP hS => ?_)
  show W p l e rm5_moveAxes s m args below meth c H locs 0 0 _ (F0 m 60 ls [.int q_11, .int (I_10 k0 3), .ref (ga g k0)])
  refine lv_aload_n hx hb dX5_moveAxes_60 rfl (lv_at hl 1 rfl) ?_
  refine g5_7 X hP t0 k_62 dX5_moveAxes_61 ?_
  refine lv_iconst (v := (0 : Int32)) hx hb dX5_moveAxes_64 (by decide +kernel) ?_
  refine r_iald (n := 8) X hP (g5_7_t t0) (by decide +kernel) (j := 0) (by decide +kernel) dX5_moveAxes_65 ?_
  refine lv_iload_n hx hb dX5_moveAxes_66 rfl (lv_at hl 0 rfl) ?_
  refine lv_iload_n hx hb dX5_moveAxes_67 rfl (lv_at hl 2 rfl) ?_
  obtain ⟨q_14, I_15, hc_16, h⟩ := clP_e h
  refine r_callS (As := [.int (I_12 (k0 + 2) 0), .int q_1, .int a1]) [.int q_11, .int (I_10 k0 3), .ref (ga g k0)] X (c5_way l g hG N _ _ _ _ _ _ hc_16) cal_X5_way (sc_X5_way) k_396 rfl ⟨rfl, rfl⟩ ⟨Nat.le_of_ble_eq_true rfl, Nat.le_of_ble_eq_true rfl⟩ hP hS hl.1 rfl (Nat.le_of_ble_eq_true rfl) dX5_moveAxes_68 ⟨Nat.zero_le _, Nat.zero_le _⟩ (fun H locs hP hS => ?_)
  show W p l e rm5_moveAxes s m args below meth c H locs 0 0 _ (F0 m 71 ls [.int q_14, .int q_11, .int (I_10 k0 3), .ref (ga g k0)])
  refine lv_isub hx hb dX5_moveAxes_71 ?_
  refine lv_iadd hx hb dX5_moveAxes_72 ?_
  obtain ⟨I_17, eI_17, h⟩ := letM_e h
  refine p5_3 X hP hS t0 k_56 eI_17 dX5_moveAxes_73 (fun H locs hP hS => ?_)
  exact r_vret X hr hlk hP hS dX5_moveAxes_76 h
abbrev rm5_advanceMove : Room := { frames := 3, cells := 0, slots := 0, locals := 70 }
def f5_advanceMove_72 (N : Nat) (k0 : Nat) (k1 : Nat) (a2 : Int32) (a3 : Int32) (I : Mem) (v4 : Int32) : Option (Int32 × Mem) :=
    letM ((I k0 9) - v4) (fun x_13 : Int32 =>
    clM (f5_moveAxes N I k0 v4) (fun I_15 : Mem =>
    if (I_15 k0 10) = (0 : Int32) then
    clM (f5_dropItem N I_15 k0 (0 : Int32)) (fun I_19 : Mem =>
    some (x_13, I_19))
    else
    some (x_13, I_15)))
def f5_advanceMove_58 (N : Nat) (k0 : Nat) (k1 : Nat) (a2 : Int32) (a3 : Int32) (I : Mem) (v4 : Int32) : Option (Int32 × Mem) :=
    clP (fJ9_min_7cf53 N I a2 (I k0 10)) (fun (q_7 : Int32) (I_8 : Mem) =>
    clM (f5_makeSteps N I_8 k0 k1 q_7 a3) (fun I_11 : Mem =>
    f5_advanceMove_72 N k0 k1 a2 a3 I_11 v4))
def f5_advanceMove_20 (N : Nat) (k0 : Nat) (k1 : Nat) (a2 : Int32) (a3 : Int32) (I : Mem) (v4 : Int32) : Option (Int32 × Mem) :=
    clP (f2_ticksOfMove N I k1 (I k0 10)) (fun (q_3 : Int32) (I_4 : Mem) =>
    if v4 = (0 : Int32) then
    if a2 < (I_4 k0 10) then
    f5_advanceMove_58 N k0 k1 a2 a3 I_4 v4
    else
    if a3 < q_3 then
    f5_advanceMove_58 N k0 k1 a2 a3 I_4 v4
    else
    clM (f5_passWholeMove N I_4 k0 q_3) (fun I_24 : Mem =>
    f5_advanceMove_72 N k0 k1 a2 a3 I_24 v4)
    else
    f5_advanceMove_58 N k0 k1 a2 a3 I_4 v4)
def f5_advanceMove (N : Nat) (I : Mem) (k0 : Nat) (k1 : Nat) (a2 : Int32) (a3 : Int32) : Option (Int32 × Mem) :=
    letM (I k0 9) (fun x_1 : Int32 =>
    if x_1 = (0 : Int32) then
    clP (f5_lengthOf N I k0 (0 : Int32)) (fun (q_26 : Int32) (I_27 : Mem) =>
    letM (st I_27 k0 10 q_26) (fun I_29 : Mem =>
    f5_advanceMove_20 N k0 k1 a2 a3 I_29 x_1))
    else
    f5_advanceMove_20 N k0 k1 a2 a3 I x_1)
set_option maxHeartbeats 4000000 in
set_option maxRecDepth 100000 in
theorem L5_advanceMove_72 (hG : Apart g NT) (N : Nat) (k0 : Nat) (k1 : Nat) (a2 : Int32) (a3 : Int32) (t0 : tag k0 = 4) (t1 : tag k1 = 1) (X : Cx g p s m args c cX5_advanceMove RX5 7) (hr : meth.sig.returnType = (some .int)) (hlk : meth.locks = false) (r0 : Int32) (I0 : Mem) : ∀ (I : Mem) (v4 : Int32), f5_advanceMove_72 N k0 k1 a2 a3 I v4 = some (r0, I0) → ∀ (H : Heap) (locs : List Loc) (ls : Array Slot), Wp g I H → va_S (gA g) s.heap H locs → lv_has ls 7 [(0, .ref (ga g k0)), (4, .int v4)] → W p l e rm5_advanceMove s m args below meth c H locs 0 0 (MQ below (Qg g (some (.int r0)) I0) args s 0 0 (gA g)) (F0 m 72 ls []) := by
  have hx := X.hx
  have hb := X.hb
  intro I v4 h H locs ls hP hS hl
  unfold f5_advanceMove_72 at h
  refine lv_aload_n hx hb dX5_advanceMove_72 rfl (lv_at hl 0 rfl) ?_
  refine g5_9 X hP t0 k_65 dX5_advanceMove_73 ?_
  refine lv_iload hx hb dX5_advanceMove_76 (lv_at hl 1 rfl) ?_
  refine lv_isub hx hb dX5_advanceMove_78 ?_
  obtain ⟨x_13, ex_13, h⟩ := letM_e h
  refine r_nmi ex_13 ?_
  refine lv_istore (lv' := [(6, .int x_13), (0, .ref (ga g k0)), (4, .int v4)]) hx hb dX5_advanceMove_79 hl (by decide) rfl (fun ls hl => ?_)
  refine lv_aload_n hx hb dX5_advanceMove_81 rfl (lv_at hl 1 rfl) ?_
  refine lv_iload hx hb dX5_advanceMove_82 (lv_at hl 2 rfl) ?_
  obtain ⟨I_15, hc_16, h⟩ := clM_e h
  refine r_callV (As := [.int v4]) [] X (c5_moveAxes l g hG N _ _ _ t0 _ hc_16) cal_X5_moveAxes (im_X5_moveAxes) (se_X5_moveAxes) k_392 (tag_lt t0 (by decide)) (by rw [lay, t0]; rfl) rfl rfl ⟨rfl, rfl⟩ ⟨Nat.le_of_ble_eq_true rfl, Nat.le_of_ble_eq_true rfl⟩ hP hS hl.1 rfl (Nat.le_of_ble_eq_true rfl) dX5_advanceMove_84 ⟨Nat.zero_le _, Nat.zero_le _⟩ (fun H locs hP hS => ?_)
  show W p l e rm5_advanceMove s m args below meth c H locs 0 0 _ (F0 m 87 ls [])
  refine lv_aload_n hx hb dX5_advanceMove_87 rfl (lv_at hl 1 rfl) ?_
  refine g5_10 X hP t0 k_66 dX5_advanceMove_88 ?_
  refine lv_if_ne (tgt := 99) hx hb dX5_advanceMove_91 (by decide) (fun c_17 => ?_) (fun c_17 => ?_)
  · replace h := ifn c_17 h
    refine lv_iload hx hb dX5_advanceMove_99 (lv_at hl 0 rfl) ?_
    exact r_iret X hr hlk hP hS dX5_advanceMove_101 h
  · replace h := ifp c_17 h
    refine lv_aload_n hx hb dX5_advanceMove_94 rfl (lv_at hl 1 rfl) ?_
    refine lv_iconst (v := (0 : Int32)) hx hb dX5_advanceMove_95 (by decide +kernel) ?_
    obtain ⟨I_19, hc_20, h⟩ := clM_e h
    refine r_callV (As := [.int (0 : Int32)]) [] X (c5_dropItem l g hG N _ _ _ t0 _ hc_20) cal_X5_dropItem (im_X5_dropItem) (se_X5_dropItem) k_364 (tag_lt t0 (by decide)) (by rw [lay, t0]; rfl) rfl rfl ⟨rfl, rfl⟩ ⟨Nat.le_of_ble_eq_true rfl, Nat.le_of_ble_eq_true rfl⟩ hP hS hl.1 rfl (Nat.le_of_ble_eq_true rfl) dX5_advanceMove_96 ⟨Nat.zero_le _, Nat.zero_le _⟩ (fun H locs hP hS => ?_)
    show W p l e rm5_advanceMove s m args below meth c H locs 0 0 _ (F0 m 99 ls [])
    refine lv_iload hx hb dX5_advanceMove_99 (lv_at hl 0 rfl) ?_
    exact r_iret X hr hlk hP hS dX5_advanceMove_101 h
set_option maxHeartbeats 4000000 in
set_option maxRecDepth 100000 in
theorem L5_advanceMove_58 (hG : Apart g NT) (N : Nat) (k0 : Nat) (k1 : Nat) (a2 : Int32) (a3 : Int32) (t0 : tag k0 = 4) (t1 : tag k1 = 1) (X : Cx g p s m args c cX5_advanceMove RX5 7) (hr : meth.sig.returnType = (some .int)) (hlk : meth.locks = false) (r0 : Int32) (I0 : Mem) : ∀ (I : Mem) (v4 : Int32), f5_advanceMove_58 N k0 k1 a2 a3 I v4 = some (r0, I0) → ∀ (H : Heap) (locs : List Loc) (ls : Array Slot), Wp g I H → va_S (gA g) s.heap H locs → lv_has ls 7 [(0, .ref (ga g k0)), (1, .ref (ga g k1)), (2, .int a2), (3, .int a3), (4, .int v4)] → W p l e rm5_advanceMove s m args below meth c H locs 0 0 (MQ below (Qg g (some (.int r0)) I0) args s 0 0 (gA g)) (F0 m 58 ls []) := by
  have hx := X.hx
  have hb := X.hb
  intro I v4 h H locs ls hP hS hl
  unfold f5_advanceMove_58 at h
  refine lv_aload_n hx hb dX5_advanceMove_58 rfl (lv_at hl 0 rfl) ?_
  refine lv_aload_n hx hb dX5_advanceMove_59 rfl (lv_at hl 1 rfl) ?_
  refine lv_iload_n hx hb dX5_advanceMove_60 rfl (lv_at hl 2 rfl) ?_
  refine lv_aload_n hx hb dX5_advanceMove_61 rfl (lv_at hl 0 rfl) ?_
  refine g5_10 X hP t0 k_66 dX5_advanceMove_62 ?_
  obtain ⟨q_7, I_8, hc_9, h⟩ := clP_e h
  refine r_callS (As := [.int a2, .int (I k0 10)]) [.ref (ga g k1), .ref (ga g k0)] X (ccJ9_min_7cf53 l g hG N _ _ _ _ _ hc_9) cal_J9_min_7cf53 (sc_J9_min_7cf53) k_382 rfl ⟨rfl, rfl⟩ ⟨Nat.le_of_ble_eq_true rfl, Nat.le_of_ble_eq_true rfl⟩ hP hS hl.1 rfl (Nat.le_of_ble_eq_true rfl) dX5_advanceMove_65 ⟨Nat.zero_le _, Nat.zero_le _⟩ (fun H locs hP hS => ?_)
  show W p l e rm5_advanceMove s m args below meth c H locs 0 0 _ (F0 m 68 ls [.int q_7, .ref (ga g k1), .ref (ga g k0)])
  refine lv_iload_n hx hb dX5_advanceMove_68 rfl (lv_at hl 3 rfl) ?_
  obtain ⟨I_11, hc_12, h⟩ := clM_e h
  refine r_callV (As := [.ref (ga g k1), .int q_7, .int a3]) [] X (c5_makeSteps l g hG N _ _ _ _ _ t0 t1 _ hc_12) cal_X5_makeSteps (im_X5_makeSteps) (se_X5_makeSteps) k_383 (tag_lt t0 (by decide)) (by rw [lay, t0]; rfl) rfl rfl ⟨rfl, rfl⟩ ⟨Nat.le_of_ble_eq_true rfl, Nat.le_of_ble_eq_true rfl⟩ hP hS hl.1 rfl (Nat.le_of_ble_eq_true rfl) dX5_advanceMove_69 ⟨Nat.zero_le _, Nat.zero_le _⟩ (fun H locs hP hS => ?_)
  show W p l e rm5_advanceMove s m args below meth c H locs 0 0 _ (F0 m 72 ls [])
  exact L5_advanceMove_72 hG N k0 k1 a2 a3 t0 t1 X hr hlk r0 I0 I_11 v4 h _ _ _ hP hS (lv_sub hl [0, 4] rfl)
set_option maxHeartbeats 4000000 in
set_option maxRecDepth 100000 in
theorem L5_advanceMove_20 (hG : Apart g NT) (N : Nat) (k0 : Nat) (k1 : Nat) (a2 : Int32) (a3 : Int32) (t0 : tag k0 = 4) (t1 : tag k1 = 1) (X : Cx g p s m args c cX5_advanceMove RX5 7) (hr : meth.sig.returnType = (some .int)) (hlk : meth.locks = false) (r0 : Int32) (I0 : Mem) : ∀ (I : Mem) (v4 : Int32), f5_advanceMove_20 N k0 k1 a2 a3 I v4 = some (r0, I0) → ∀ (H : Heap) (locs : List Loc) (ls : Array Slot), Wp g I H → va_S (gA g) s.heap H locs → lv_has ls 7 [(0, .ref (ga g k0)), (1, .ref (ga g k1)), (2, .int a2), (3, .int a3), (4, .int v4)] → W p l e rm5_advanceMove s m args below meth c H locs 0 0 (MQ below (Qg g (some (.int r0)) I0) args s 0 0 (gA g)) (F0 m 20 ls []) := by
  have hx := X.hx
  have hb := X.hb
  intro I v4 h H locs ls hP hS hl
  unfold f5_advanceMove_20 at h
  refine lv_aload_n hx hb dX5_advanceMove_20 rfl (lv_at hl 1 rfl) ?_
  refine lv_aload_n hx hb dX5_advanceMove_21 rfl (lv_at hl 0 rfl) ?_
  refine g5_10 X hP t0 k_66 dX5_advanceMove_22 ?_
  obtain ⟨q_3, I_4, hc_5, h⟩ := clP_e h
  refine r_callV (As := [.int (I k0 10)]) [] X (c2_ticksOfMove l g hG N _ _ _ t1 _ _ hc_5) cal_X2_ticksOfMove (im_X2_ticksOfMove) (se_X2_ticksOfMove) k_372 (tag_lt t1 (by decide)) (by rw [lay, t1]; rfl) rfl rfl ⟨rfl, rfl⟩ ⟨Nat.le_of_ble_eq_true rfl, Nat.le_of_ble_eq_true rfl⟩ hP hS hl.1 rfl (Nat.le_of_ble_eq_true rfl) dX5_advanceMove_25 ⟨Nat.zero_le _, Nat.zero_le _⟩ (fun H locs hP hS => ?_)
  show W p l e rm5_advanceMove s m args below meth c H locs 0 0 _ (F0 m 28 ls [.int q_3])
  refine lv_istore (lv' := [(5, .int q_3), (0, .ref (ga g k0)), (1, .ref (ga g k1)), (2, .int a2), (3, .int a3), (4, .int v4)]) hx hb dX5_advanceMove_28 hl (by decide) rfl (fun ls hl => ?_)
  refine lv_iload hx hb dX5_advanceMove_30 (lv_at hl 5 rfl) ?_
  refine lv_if_ne (tgt := 58) hx hb dX5_advanceMove_32 (by decide) (fun c_6 => ?_) (fun c_6 => ?_)
  · replace h := ifn c_6 h
    exact L5_advanceMove_58 hG N k0 k1 a2 a3 t0 t1 X hr hlk r0 I0 I_4 v4 h _ _ _ hP hS (lv_sub hl [1, 2, 3, 4, 5] rfl)
  · replace h := ifp c_6 h
    refine lv_aload_n hx hb dX5_advanceMove_35 rfl (lv_at hl 1 rfl) ?_
    refine g5_10 X hP t0 k_66 dX5_advanceMove_36 ?_
    refine lv_iload_n hx hb dX5_advanceMove_39 rfl (lv_at hl 3 rfl) ?_
    refine lv_icmp_gt (tgt := 58) hx hb dX5_advanceMove_40 (by decide) (fun c_21 => ?_) (fun c_21 => ?_)
    · replace h := ifp c_21 h
      exact L5_advanceMove_58 hG N k0 k1 a2 a3 t0 t1 X hr hlk r0 I0 I_4 v4 h _ _ _ hP hS (lv_sub hl [1, 2, 3, 4, 5] rfl)
    · replace h := ifn c_21 h
      refine lv_iload hx hb dX5_advanceMove_43 (lv_at hl 0 rfl) ?_
      refine lv_iload_n hx hb dX5_advanceMove_45 rfl (lv_at hl 4 rfl) ?_
      refine lv_icmp_gt (tgt := 58) hx hb dX5_advanceMove_46 (by decide) (fun c_22 => ?_) (fun c_22 => ?_)
      · replace h := ifp c_22 h
        exact L5_advanceMove_58 hG N k0 k1 a2 a3 t0 t1 X hr hlk r0 I0 I_4 v4 h _ _ _ hP hS (lv_sub hl [1, 2, 3, 4, 5] rfl)
      · replace h := ifn c_22 h
        refine lv_aload_n hx hb dX5_advanceMove_49 rfl (lv_at hl 1 rfl) ?_
        refine lv_iload hx hb dX5_advanceMove_50 (lv_at hl 0 rfl) ?_
        obtain ⟨I_24, hc_25, h⟩ := clM_e h
        refine r_callV (As := [.int q_3]) [] X (c5_passWholeMove l g hG N _ _ _ t0 _ hc_25) cal_X5_passWholeMove (im_X5_passWholeMove) (se_X5_passWholeMove) k_378 (tag_lt t0 (by decide)) (by rw [lay, t0]; rfl) rfl rfl ⟨rfl, rfl⟩ ⟨Nat.le_of_ble_eq_true rfl, Nat.le_of_ble_eq_true rfl⟩ hP hS hl.1 rfl (Nat.le_of_ble_eq_true rfl) dX5_advanceMove_52 ⟨Nat.zero_le _, Nat.zero_le _⟩ (fun H locs hP hS => ?_)
        show W p l e rm5_advanceMove s m args below meth c H locs 0 0 _ (F0 m 55 ls [])
        refine lv_goto (tgt := 72) hx hb dX5_advanceMove_55 (by decide) ?_
        exact L5_advanceMove_72 hG N k0 k1 a2 a3 t0 t1 X hr hlk r0 I0 I_24 v4 h _ _ _ hP hS (lv_sub hl [1, 5] rfl)
set_option maxHeartbeats 4000000 in
set_option maxRecDepth 100000 in
theorem c5_advanceMove (l : Launch) (g : GG) (hG : Apart g NT) (N : Nat) (I : Mem) (k0 : Nat) (k1 : Nat) (a2 : Int32) (a3 : Int32) (t0 : tag k0 = 4) (t1 : tag k1 = 1) (r0 : Int32) (I0 : Mem) (h : f5_advanceMove N I k0 k1 a2 a3 = some (r0, I0)) : Mc l g yX5_advanceMove cX5_advanceMove 7 (some .int) rm5_advanceMove I [.ref (ga g k0), .ref (ga g k1), .int a2, .int a3] (some (.int r0)) I0 := by
  refine Mc.of hG (by decide +kernel) (Nat.le_of_ble_eq_true rfl) ?_
  intro p e s m args below meth c ls X hr hlk hP hS hl
  have X : Cx g p s m args c cX5_advanceMove RX5 7 := X
  have hx := X.hx
  have hb := X.hb
  have hl : lv_has ls 7 [(0, .ref (ga g k0)), (1, .ref (ga g k1)), (2, .int a2), (3, .int a3)] := hl
  have locs : List Loc := []
  unfold f5_advanceMove at h
  refine lv_aload_n hx hb dX5_advanceMove_0 rfl (lv_at hl 0 rfl) ?_
  refine g5_9 X hP t0 k_65 dX5_advanceMove_1 ?_
  obtain ⟨x_1, ex_1, h⟩ := letM_e h
  refine r_nmi ex_1 ?_
  refine lv_istore (lv' := [(4, .int x_1), (0, .ref (ga g k0)), (1, .ref (ga g k1)), (2, .int a2), (3, .int a3)]) hx hb dX5_advanceMove_4 hl (by decide) rfl (fun ls hl => ?_)
  refine lv_iload hx hb dX5_advanceMove_6 (lv_at hl 0 rfl) ?_
  refine lv_if_ne (tgt := 20) hx hb dX5_advanceMove_8 (by decide) (fun c_2 => ?_) (fun c_2 => ?_)
  · replace h := ifn c_2 h
    exact L5_advanceMove_20 hG N k0 k1 a2 a3 t0 t1 X hr hlk r0 I0 I x_1 h _ _ _ hP hS (lv_sub hl [1, 2, 3, 4, 0] rfl)
  · replace h := ifp c_2 h
    refine lv_aload_n hx hb dX5_advanceMove_11 rfl (lv_at hl 1 rfl) ?_
    refine lv_aload_n hx hb dX5_advanceMove_12 rfl (lv_at hl 1 rfl) ?_
    refine lv_iconst (v := (0 : Int32)) hx hb dX5_advanceMove_13 (by decide +kernel) ?_
    obtain ⟨q_26, I_27, hc_28, h⟩ := clP_e h
    refine r_callV (As := [.int (0 : Int32)]) [.ref (ga g k0)] X (c5_lengthOf l g hG N _ _ _ t0 _ _ hc_28) cal_X5_lengthOf (im_X5_lengthOf) (se_X5_lengthOf) k_229 (tag_lt t0 (by decide)) (by rw [lay, t0]; rfl) rfl rfl ⟨rfl, rfl⟩ ⟨Nat.le_of_ble_eq_true rfl, Nat.le_of_ble_eq_true rfl⟩ hP hS hl.1 rfl (Nat.le_of_ble_eq_true rfl) dX5_advanceMove_14 ⟨Nat.zero_le _, Nat.zero_le _⟩ (fun H locs hP hS => ?_)
    show W p l e rm5_advanceMove s m args below meth c H locs 0 0 _ (F0 m 17 ls [.int q_26, .ref (ga g k0)])
    obtain ⟨I_29, eI_29, h⟩ := letM_e h
    refine p5_10 X hP hS t0 k_66 eI_29 dX5_advanceMove_17 (fun H locs hP hS => ?_)
    exact L5_advanceMove_20 hG N k0 k1 a2 a3 t0 t1 X hr hlk r0 I0 I_29 x_1 h _ _ _ hP hS (lv_sub hl [1, 2, 3, 4, 0] rfl)
abbrev rm5_advance : Room := { frames := 4, cells := 0, slots := 0, locals := 96 }
def f5_advance_24 (N : Nat) (k0 : Nat) (k1 : Nat) (a2 : Int32) (a3 : Int32) : Nat → Mem → Int32 → Int32 → Int32 → Option (Int32 × Mem)
  | 0, _, _, _, _ => none
  | cnt+1, I, v4, v5, v6 =>
    if (8 : Int32) ≤ v6 then
    some (v5, I)
    else
    if (I k0 5) ≤ (0 : Int32) then
    some (v5, I)
    else
    letM (a3 - ((I k0 4) - v4)) (fun x_7 : Int32 =>
    clP (f5_isWait N I k0 (0 : Int32)) (fun (q_8 : Int32) (I_9 : Mem) =>
    if q_8 = (0 : Int32) then
    clP (f5_advanceMove N I_9 k0 k1 (a2 - v5) x_7) (fun (q_12 : Int32) (I_13 : Mem) =>
    if q_12 = (0 : Int32) then
    some (v5, I_13)
    else
    letM (v5 + q_12) (fun x_16 : Int32 =>
    letM (v6 + (1 : Int32)) (fun x_17 : Int32 =>
    f5_advance_24 N k0 k1 a2 a3 cnt I_13 v4 x_16 x_17)))
    else
    clP (f5_passWait N I_9 k0 (a2 - v5) x_7) (fun (q_18 : Int32) (I_19 : Mem) =>
    if q_18 = (0 : Int32) then
    some (v5, I_19)
    else
    letM (v5 + q_18) (fun x_22 : Int32 =>
    letM (v6 + (1 : Int32)) (fun x_23 : Int32 =>
    f5_advance_24 N k0 k1 a2 a3 cnt I_19 v4 x_22 x_23)))))
def f5_advance (N : Nat) (I : Mem) (k0 : Nat) (k1 : Nat) (a2 : Int32) (a3 : Int32) : Option (Int32 × Mem) :=
    clM (f2_prepare N I k1 (I k0 0) (I k0 1)) (fun I_2 : Mem =>
    letM (I_2 k0 4) (fun x_4 : Int32 =>
    f5_advance_24 N k0 k1 a2 a3 N I_2 x_4 (0 : Int32) (0 : Int32)))
set_option maxHeartbeats 4000000 in
set_option maxRecDepth 100000 in
theorem L5_advance_24 (hG : Apart g NT) (N : Nat) (k0 : Nat) (k1 : Nat) (a2 : Int32) (a3 : Int32) (t0 : tag k0 = 4) (t1 : tag k1 = 1) (X : Cx g p s m args c cX5_advance RX5 9) (hr : meth.sig.returnType = (some .int)) (hlk : meth.locks = false) (r0 : Int32) (I0 : Mem) : ∀ (cnt : Nat) (I : Mem) (v4 : Int32) (v5 : Int32) (v6 : Int32), f5_advance_24 N k0 k1 a2 a3 cnt I v4 v5 v6 = some (r0, I0) → ∀ (H : Heap) (locs : List Loc) (ls : Array Slot), Wp g I H → va_S (gA g) s.heap H locs → lv_has ls 9 [(0, .ref (ga g k0)), (1, .ref (ga g k1)), (2, .int a2), (3, .int a3), (4, .int v4), (5, .int v5), (6, .int v6)] → W p l e rm5_advance s m args below meth c H locs 0 0 (MQ below (Qg g (some (.int r0)) I0) args s 0 0 (gA g)) (F0 m 24 ls []) := by
  have hx := X.hx
  have hb := X.hb
  intro cnt
  induction cnt with
  | zero =>
    intro I v4 v5 v6 h
    rw [f5_advance_24] at h
    cases h
  | succ cnt ih =>
    intro I v4 v5 v6 h H locs ls hP hS hl
    rw [f5_advance_24] at h
    refine lv_iload hx hb dX5_advance_24 (lv_at hl 6 rfl) ?_
    refine lv_bipush (v := (8 : Int32)) hx hb dX5_advance_26 (by decide +kernel) ?_
    refine lv_icmp_ge (tgt := 104) hx hb dX5_advance_28 (by decide) (fun c_5 => ?_) (fun c_5 => ?_)
    · replace h := ifp c_5 h
      refine lv_iload hx hb dX5_advance_104 (lv_at hl 5 rfl) ?_
      exact r_iret X hr hlk hP hS dX5_advance_106 h
    · replace h := ifn c_5 h
      refine lv_aload_n hx hb dX5_advance_31 rfl (lv_at hl 0 rfl) ?_
      refine g5_5 X hP t0 k_59 dX5_advance_32 ?_
      refine lv_if_le (tgt := 104) hx hb dX5_advance_35 (by decide) (fun c_6 => ?_) (fun c_6 => ?_)
      · replace h := ifp c_6 h
        refine lv_iload hx hb dX5_advance_104 (lv_at hl 5 rfl) ?_
        exact r_iret X hr hlk hP hS dX5_advance_106 h
      · replace h := ifn c_6 h
        refine lv_iload_n hx hb dX5_advance_38 rfl (lv_at hl 3 rfl) ?_
        refine lv_aload_n hx hb dX5_advance_39 rfl (lv_at hl 0 rfl) ?_
        refine g5_4 X hP t0 k_57 dX5_advance_40 ?_
        refine lv_iload hx hb dX5_advance_43 (lv_at hl 4 rfl) ?_
        refine lv_isub hx hb dX5_advance_45 ?_
        refine lv_isub hx hb dX5_advance_46 ?_
        obtain ⟨x_7, ex_7, h⟩ := letM_e h
        refine r_nmi ex_7 ?_
        refine lv_istore (lv' := [(7, .int x_7), (0, .ref (ga g k0)), (1, .ref (ga g k1)), (2, .int a2), (3, .int a3), (4, .int v4), (5, .int v5), (6, .int v6)]) hx hb dX5_advance_47 hl (by decide) rfl (fun ls hl => ?_)
        refine lv_aload_n hx hb dX5_advance_49 rfl (lv_at hl 1 rfl) ?_
        refine lv_iconst (v := (0 : Int32)) hx hb dX5_advance_50 (by decide +kernel) ?_
        obtain ⟨q_8, I_9, hc_10, h⟩ := clP_e h
        refine r_callV (As := [.int (0 : Int32)]) [] X (c5_isWait l g hG N _ _ _ t0 _ _ hc_10) cal_X5_isWait (im_X5_isWait) (se_X5_isWait) k_359 (tag_lt t0 (by decide)) (by rw [lay, t0]; rfl) rfl rfl ⟨rfl, rfl⟩ ⟨Nat.le_of_ble_eq_true rfl, Nat.le_of_ble_eq_true rfl⟩ hP hS hl.1 rfl (Nat.le_of_ble_eq_true rfl) dX5_advance_51 ⟨Nat.zero_le _, Nat.zero_le _⟩ (fun H locs hP hS => ?_)
        show W p l e rm5_advance s m args below meth c H locs 0 0 _ (F0 m 54 ls [.int q_8])
        refine lv_if_eq (tgt := 70) hx hb dX5_advance_54 (by decide) (fun c_11 => ?_) (fun c_11 => ?_)
        · replace h := ifp c_11 h
          refine lv_aload_n hx hb dX5_advance_70 rfl (lv_at hl 1 rfl) ?_
          refine lv_aload_n hx hb dX5_advance_71 rfl (lv_at hl 2 rfl) ?_
          refine lv_iload_n hx hb dX5_advance_72 rfl (lv_at hl 3 rfl) ?_
          refine lv_iload hx hb dX5_advance_73 (lv_at hl 6 rfl) ?_
          refine lv_isub hx hb dX5_advance_75 ?_
          refine lv_iload hx hb dX5_advance_76 (lv_at hl 0 rfl) ?_
          obtain ⟨q_12, I_13, hc_14, h⟩ := clP_e h
          refine r_callV (As := [.ref (ga g k1), .int (a2 - v5), .int x_7]) [] X (c5_advanceMove l g hG N _ _ _ _ _ t0 t1 _ _ hc_14) cal_X5_advanceMove (im_X5_advanceMove) (se_X5_advanceMove) k_368 (tag_lt t0 (by decide)) (by rw [lay, t0]; rfl) rfl rfl ⟨rfl, rfl⟩ ⟨Nat.le_of_ble_eq_true rfl, Nat.le_of_ble_eq_true rfl⟩ hP hS hl.1 rfl (Nat.le_of_ble_eq_true rfl) dX5_advance_78 ⟨Nat.zero_le _, Nat.zero_le _⟩ (fun H locs hP hS => ?_)
          show W p l e rm5_advance s m args below meth c H locs 0 0 _ (F0 m 81 ls [.int q_12])
          refine lv_istore (lv' := [(8, .int q_12), (7, .int x_7), (0, .ref (ga g k0)), (1, .ref (ga g k1)), (2, .int a2), (3, .int a3), (4, .int v4), (5, .int v5), (6, .int v6)]) hx hb dX5_advance_81 hl (by decide) rfl (fun ls hl => ?_)
          refine lv_iload hx hb dX5_advance_83 (lv_at hl 0 rfl) ?_
          refine lv_if_ne (tgt := 91) hx hb dX5_advance_85 (by decide) (fun c_15 => ?_) (fun c_15 => ?_)
          · replace h := ifn c_15 h
            refine lv_iload hx hb dX5_advance_91 (lv_at hl 7 rfl) ?_
            refine lv_iload hx hb dX5_advance_93 (lv_at hl 0 rfl) ?_
            refine lv_iadd hx hb dX5_advance_95 ?_
            obtain ⟨x_16, ex_16, h⟩ := letM_e h
            refine r_nmi ex_16 ?_
            refine lv_istore (lv' := [(5, .int x_16), (8, .int q_12), (7, .int x_7), (0, .ref (ga g k0)), (1, .ref (ga g k1)), (2, .int a2), (3, .int a3), (4, .int v4), (6, .int v6)]) hx hb dX5_advance_96 hl (by decide) rfl (fun ls hl => ?_)
            obtain ⟨x_17, ex_17, h⟩ := letM_e h
            refine lv_iinc (v := x_17) (lv' := [(6, .int x_17), (5, .int x_16), (8, .int q_12), (7, .int x_7), (0, .ref (ga g k0)), (1, .ref (ga g k1)), (2, .int a2), (3, .int a3), (4, .int v4)]) hx hb dX5_advance_98 hl (k := 8) rfl (by rw [ex_17]; rfl) (by decide) rfl (fun ls hl => ?_)
            refine lv_goto (tgt := 24) hx hb dX5_advance_101 (by decide) ?_
            exact ih I_13 v4 x_16 x_17 h _ _ _ hP hS (lv_sub hl [4, 5, 6, 7, 8, 1, 0] rfl)
          · replace h := ifp c_15 h
            refine lv_goto (tgt := 104) hx hb dX5_advance_88 (by decide) ?_
            refine lv_iload hx hb dX5_advance_104 (lv_at hl 7 rfl) ?_
            exact r_iret X hr hlk hP hS dX5_advance_106 h
        · replace h := ifn c_11 h
          refine lv_aload_n hx hb dX5_advance_57 rfl (lv_at hl 1 rfl) ?_
          refine lv_iload_n hx hb dX5_advance_58 rfl (lv_at hl 3 rfl) ?_
          refine lv_iload hx hb dX5_advance_59 (lv_at hl 6 rfl) ?_
          refine lv_isub hx hb dX5_advance_61 ?_
          refine lv_iload hx hb dX5_advance_62 (lv_at hl 0 rfl) ?_
          obtain ⟨q_18, I_19, hc_20, h⟩ := clP_e h
          refine r_callV (As := [.int (a2 - v5), .int x_7]) [] X (c5_passWait l g hG N _ _ _ _ t0 _ _ hc_20) cal_X5_passWait (im_X5_passWait) (se_X5_passWait) k_360 (tag_lt t0 (by decide)) (by rw [lay, t0]; rfl) rfl rfl ⟨rfl, rfl⟩ ⟨Nat.le_of_ble_eq_true rfl, Nat.le_of_ble_eq_true rfl⟩ hP hS hl.1 rfl (Nat.le_of_ble_eq_true rfl) dX5_advance_64 ⟨Nat.zero_le _, Nat.zero_le _⟩ (fun H locs hP hS => ?_)
          show W p l e rm5_advance s m args below meth c H locs 0 0 _ (F0 m 67 ls [.int q_18])
          refine lv_goto (tgt := 81) hx hb dX5_advance_67 (by decide) ?_
          refine lv_istore (lv' := [(8, .int q_18), (7, .int x_7), (0, .ref (ga g k0)), (1, .ref (ga g k1)), (2, .int a2), (3, .int a3), (4, .int v4), (5, .int v5), (6, .int v6)]) hx hb dX5_advance_81 hl (by decide) rfl (fun ls hl => ?_)
          refine lv_iload hx hb dX5_advance_83 (lv_at hl 0 rfl) ?_
          refine lv_if_ne (tgt := 91) hx hb dX5_advance_85 (by decide) (fun c_21 => ?_) (fun c_21 => ?_)
          · replace h := ifn c_21 h
            refine lv_iload hx hb dX5_advance_91 (lv_at hl 7 rfl) ?_
            refine lv_iload hx hb dX5_advance_93 (lv_at hl 0 rfl) ?_
            refine lv_iadd hx hb dX5_advance_95 ?_
            obtain ⟨x_22, ex_22, h⟩ := letM_e h
            refine r_nmi ex_22 ?_
            refine lv_istore (lv' := [(5, .int x_22), (8, .int q_18), (7, .int x_7), (0, .ref (ga g k0)), (1, .ref (ga g k1)), (2, .int a2), (3, .int a3), (4, .int v4), (6, .int v6)]) hx hb dX5_advance_96 hl (by decide) rfl (fun ls hl => ?_)
            obtain ⟨x_23, ex_23, h⟩ := letM_e h
            refine lv_iinc (v := x_23) (lv' := [(6, .int x_23), (5, .int x_22), (8, .int q_18), (7, .int x_7), (0, .ref (ga g k0)), (1, .ref (ga g k1)), (2, .int a2), (3, .int a3), (4, .int v4)]) hx hb dX5_advance_98 hl (k := 8) rfl (by rw [ex_23]; rfl) (by decide) rfl (fun ls hl => ?_)
            refine lv_goto (tgt := 24) hx hb dX5_advance_101 (by decide) ?_
            exact ih I_19 v4 x_22 x_23 h _ _ _ hP hS (lv_sub hl [4, 5, 6, 7, 8, 1, 0] rfl)
          · replace h := ifp c_21 h
            refine lv_goto (tgt := 104) hx hb dX5_advance_88 (by decide) ?_
            refine lv_iload hx hb dX5_advance_104 (lv_at hl 7 rfl) ?_
            exact r_iret X hr hlk hP hS dX5_advance_106 h
set_option maxHeartbeats 4000000 in
set_option maxRecDepth 100000 in
theorem c5_advance (l : Launch) (g : GG) (hG : Apart g NT) (N : Nat) (I : Mem) (k0 : Nat) (k1 : Nat) (a2 : Int32) (a3 : Int32) (t0 : tag k0 = 4) (t1 : tag k1 = 1) (r0 : Int32) (I0 : Mem) (h : f5_advance N I k0 k1 a2 a3 = some (r0, I0)) : Mc l g yX5_advance cX5_advance 9 (some .int) rm5_advance I [.ref (ga g k0), .ref (ga g k1), .int a2, .int a3] (some (.int r0)) I0 := by
  refine Mc.of hG (by decide +kernel) (Nat.le_of_ble_eq_true rfl) ?_
  intro p e s m args below meth c ls X hr hlk hP hS hl
  have X : Cx g p s m args c cX5_advance RX5 9 := X
  have hx := X.hx
  have hb := X.hb
  have hl : lv_has ls 9 [(0, .ref (ga g k0)), (1, .ref (ga g k1)), (2, .int a2), (3, .int a3)] := hl
  have locs : List Loc := []
  unfold f5_advance at h
  refine lv_aload_n hx hb dX5_advance_0 rfl (lv_at hl 1 rfl) ?_
  refine lv_aload_n hx hb dX5_advance_1 rfl (lv_at hl 0 rfl) ?_
  refine g5_0 X hP t0 k_48 dX5_advance_2 ?_
  refine lv_aload_n hx hb dX5_advance_5 rfl (lv_at hl 0 rfl) ?_
  refine g5_1 X hP t0 k_51 dX5_advance_6 ?_
  obtain ⟨I_2, hc_3, h⟩ := clM_e h
  refine r_callV (As := [.int (I k0 0), .int (I k0 1)]) [] X (c2_prepare l g hG N _ _ _ _ t1 _ hc_3) cal_X2_prepare (im_X2_prepare) (se_X2_prepare) k_358 (tag_lt t1 (by decide)) (by rw [lay, t1]; rfl) rfl rfl ⟨rfl, rfl⟩ ⟨Nat.le_of_ble_eq_true rfl, Nat.le_of_ble_eq_true rfl⟩ hP hS hl.1 rfl (Nat.le_of_ble_eq_true rfl) dX5_advance_9 ⟨Nat.zero_le _, Nat.zero_le _⟩ (fun H locs hP hS => ?_)
  show W p l e rm5_advance s m args below meth c H locs 0 0 _ (F0 m 12 ls [])
  refine lv_aload_n hx hb dX5_advance_12 rfl (lv_at hl 0 rfl) ?_
  refine g5_4 X hP t0 k_57 dX5_advance_13 ?_
  obtain ⟨x_4, ex_4, h⟩ := letM_e h
  refine r_nmi ex_4 ?_
  refine lv_istore (lv' := [(4, .int x_4), (0, .ref (ga g k0)), (1, .ref (ga g k1)), (2, .int a2), (3, .int a3)]) hx hb dX5_advance_16 hl (by decide) rfl (fun ls hl => ?_)
  refine lv_iconst (v := (0 : Int32)) hx hb dX5_advance_18 (by decide +kernel) ?_
  refine lv_istore (lv' := [(5, .int (0 : Int32)), (4, .int x_4), (0, .ref (ga g k0)), (1, .ref (ga g k1)), (2, .int a2), (3, .int a3)]) hx hb dX5_advance_19 hl (by decide) rfl (fun ls hl => ?_)
  refine lv_iconst (v := (0 : Int32)) hx hb dX5_advance_21 (by decide +kernel) ?_
  refine lv_istore (lv' := [(6, .int (0 : Int32)), (5, .int (0 : Int32)), (4, .int x_4), (0, .ref (ga g k0)), (1, .ref (ga g k1)), (2, .int a2), (3, .int a3)]) hx hb dX5_advance_22 hl (by decide) rfl (fun ls hl => ?_)
  exact L5_advance_24 hG N k0 k1 a2 a3 t0 t1 X hr hlk r0 I0 N I_2 x_4 (0 : Int32) (0 : Int32) h _ _ _ hP hS (lv_sub hl [3, 4, 5, 6, 2, 1, 0] rfl)
end WALKS
