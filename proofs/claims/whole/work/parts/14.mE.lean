section WALKS
variable {p : Program} {l : Launch} {e : Env} {s : State} {m : MethodId} {args : Array Value} {below : List Frame} {meth : Method} {c : Code} {g : GG}
abbrev rm7_approximateInterval : Room := { frames := 2, cells := 0, slots := 0, locals := 48 }
def f7_approximateInterval_46 (N : Nat) (k0 : Nat) (a1 : Int32) : Nat → Mem → Int32 → Int32 → Int32 → Option (Int32 × Mem)
  | 0, _, _, _, _ => none
  | cnt+1, I, v2, v3, v4 =>
    if a1 < v4 then
    some (v2, I)
    else
    letM (((2 : Int32) * v2) + v3) (fun x_10 : Int32 =>
    if (((4 : Int32) * v4) + (1 : Int32)) = (0 : Int32) then none else
    letM (v2 - (x_10 / (((4 : Int32) * v4) + (1 : Int32)))) (fun x_12 : Int32 =>
    if (((4 : Int32) * v4) + (1 : Int32)) = (0 : Int32) then none else
    letM (x_10 - x_10 / (((4 : Int32) * v4) + (1 : Int32)) * (((4 : Int32) * v4) + (1 : Int32))) (fun x_14 : Int32 =>
    letM (v4 + (1 : Int32)) (fun x_15 : Int32 =>
    f7_approximateInterval_46 N k0 a1 cnt I x_12 x_14 x_15))))
def f7_approximateInterval (N : Nat) (I : Mem) (k0 : Nat) (a1 : Int32) : Option (Int32 × Mem) :=
    clP (f7_in N I a1.toInt64 (0 : Int64) (999 : Int64)) (fun (q_1 : Int32) (I_2 : Mem) =>
    if q_1 = (0 : Int32) then
    some ((-2 : Int32), I_2)
    else
    clM (f7_layRoots N I_2 k0 (I_2 (k0 + 2) 0) (2 : Int32)) (fun I_6 : Mem =>
    letM (((676 : Int32) * (I_6 (k0 + 8) 1)) / (1000 : Int32)) (fun x_8 : Int32 =>
    f7_approximateInterval_46 N k0 a1 N I_6 x_8 (0 : Int32) (1 : Int32))))
set_option maxHeartbeats 4000000 in
set_option maxRecDepth 100000 in
theorem L7_approximateInterval_46 (hG : Apart g NT) (N : Nat) (k0 : Nat) (a1 : Int32) (t0 : tag k0 = 6) (X : Cx g p s m args c cX7_approximateInterval RX7 6) (hr : meth.sig.returnType = (some .int)) (hlk : meth.locks = false) (r0 : Int32) (I0 : Mem) : ∀ (cnt : Nat) (I : Mem) (v2 : Int32) (v3 : Int32) (v4 : Int32), f7_approximateInterval_46 N k0 a1 cnt I v2 v3 v4 = some (r0, I0) → ∀ (H : Heap) (locs : List Loc) (ls : Array Slot), Wp g I H → va_S (gA g) s.heap H locs → lv_has ls 6 [(1, .int a1), (2, .int v2), (3, .int v3), (4, .int v4)] → W p l e rm7_approximateInterval s m args below meth c H locs 0 0 (MQ below (Qg g (some (.int r0)) I0) args s 0 0 (gA g)) (F0 m 46 ls []) := by
  have hx := X.hx
  have hb := X.hb
  intro cnt
  induction cnt with
  | zero =>
    intro I v2 v3 v4 h
    rw [f7_approximateInterval_46] at h
    cases h
  | succ cnt ih =>
    intro I v2 v3 v4 h H locs ls hP hS hl
    rw [f7_approximateInterval_46] at h
    refine lv_iload hx hb dX7_approximateInterval_46 (lv_at hl 3 rfl) ?_
    refine lv_iload_n hx hb dX7_approximateInterval_48 rfl (lv_at hl 0 rfl) ?_
    refine lv_icmp_gt (tgt := 87) hx hb dX7_approximateInterval_49 (by decide) (fun c_9 => ?_) (fun c_9 => ?_)
    · replace h := ifp c_9 h
      refine lv_iload_n hx hb dX7_approximateInterval_87 rfl (lv_at hl 1 rfl) ?_
      exact r_iret X hr hlk hP hS dX7_approximateInterval_88 h
    · replace h := ifn c_9 h
      refine lv_iconst (v := (2 : Int32)) hx hb dX7_approximateInterval_52 (by decide +kernel) ?_
      refine lv_iload_n hx hb dX7_approximateInterval_53 rfl (lv_at hl 1 rfl) ?_
      refine lv_imul hx hb dX7_approximateInterval_54 ?_
      refine lv_iload_n hx hb dX7_approximateInterval_55 rfl (lv_at hl 2 rfl) ?_
      refine lv_iadd hx hb dX7_approximateInterval_56 ?_
      obtain ⟨x_10, ex_10, h⟩ := letM_e h
      refine r_nmi ex_10 ?_
      refine lv_istore (lv' := [(5, .int x_10), (1, .int a1), (2, .int v2), (3, .int v3), (4, .int v4)]) hx hb dX7_approximateInterval_57 hl (by decide) rfl (fun ls hl => ?_)
      refine lv_iload_n hx hb dX7_approximateInterval_59 rfl (lv_at hl 2 rfl) ?_
      refine lv_iload hx hb dX7_approximateInterval_60 (lv_at hl 0 rfl) ?_
      refine lv_iconst (v := (4 : Int32)) hx hb dX7_approximateInterval_62 (by decide +kernel) ?_
      refine lv_iload hx hb dX7_approximateInterval_63 (lv_at hl 4 rfl) ?_
      refine lv_imul hx hb dX7_approximateInterval_65 ?_
      refine lv_iconst (v := (1 : Int32)) hx hb dX7_approximateInterval_66 (by decide +kernel) ?_
      refine lv_iadd hx hb dX7_approximateInterval_67 ?_
      obtain ⟨g_11, h⟩ := gd_e h
      refine lv_idiv hx hb dX7_approximateInterval_68 g_11 ?_
      refine lv_isub hx hb dX7_approximateInterval_69 ?_
      obtain ⟨x_12, ex_12, h⟩ := letM_e h
      refine r_nmi ex_12 ?_
      refine lv_istore_n (lv' := [(2, .int x_12), (5, .int x_10), (1, .int a1), (3, .int v3), (4, .int v4)]) hx hb dX7_approximateInterval_70 rfl hl (by decide) rfl (fun ls hl => ?_)
      refine lv_iload hx hb dX7_approximateInterval_71 (lv_at hl 1 rfl) ?_
      refine lv_iconst (v := (4 : Int32)) hx hb dX7_approximateInterval_73 (by decide +kernel) ?_
      refine lv_iload hx hb dX7_approximateInterval_74 (lv_at hl 4 rfl) ?_
      refine lv_imul hx hb dX7_approximateInterval_76 ?_
      refine lv_iconst (v := (1 : Int32)) hx hb dX7_approximateInterval_77 (by decide +kernel) ?_
      refine lv_iadd hx hb dX7_approximateInterval_78 ?_
      obtain ⟨g_13, h⟩ := gd_e h
      refine lv_irem hx hb dX7_approximateInterval_79 g_13 ?_
      obtain ⟨x_14, ex_14, h⟩ := letM_e h
      refine r_nmi ex_14 ?_
      refine lv_istore_n (lv' := [(3, .int x_14), (2, .int x_12), (5, .int x_10), (1, .int a1), (4, .int v4)]) hx hb dX7_approximateInterval_80 rfl hl (by decide) rfl (fun ls hl => ?_)
      obtain ⟨x_15, ex_15, h⟩ := letM_e h
      refine lv_iinc (v := x_15) (lv' := [(4, .int x_15), (3, .int x_14), (2, .int x_12), (5, .int x_10), (1, .int a1)]) hx hb dX7_approximateInterval_81 hl (k := 4) rfl (by rw [ex_15]; rfl) (by decide) rfl (fun ls hl => ?_)
      refine lv_goto (tgt := 46) hx hb dX7_approximateInterval_84 (by decide) ?_
      exact ih I x_12 x_14 x_15 h _ _ _ hP hS (lv_sub hl [4, 2, 1, 0] rfl)
set_option maxHeartbeats 4000000 in
set_option maxRecDepth 100000 in
theorem c7_approximateInterval (l : Launch) (g : GG) (hG : Apart g NT) (N : Nat) (I : Mem) (k0 : Nat) (a1 : Int32) (t0 : tag k0 = 6) (r0 : Int32) (I0 : Mem) (h : f7_approximateInterval N I k0 a1 = some (r0, I0)) : Mc l g yX7_approximateInterval cX7_approximateInterval 6 (some .int) rm7_approximateInterval I [.ref (ga g k0), .int a1] (some (.int r0)) I0 := by
  refine Mc.of hG (by decide +kernel) (Nat.le_of_ble_eq_true rfl) ?_
  intro p e s m args below meth c ls X hr hlk hP hS hl
  have X : Cx g p s m args c cX7_approximateInterval RX7 6 := X
  have hx := X.hx
  have hb := X.hb
  have hl : lv_has ls 6 [(0, .ref (ga g k0)), (1, .int a1)] := hl
  have locs : List Loc := []
  unfold f7_approximateInterval at h
  refine lv_iload_n hx hb dX7_approximateInterval_0 rfl (lv_at hl 1 rfl) ?_
  refine lv_i2l (v := a1.toInt64) hx hb dX7_approximateInterval_1 (by rfl) ?_
  refine lv_lconst (v := (0 : Int64)) hx hb dX7_approximateInterval_2 (by decide +kernel) ?_
  refine lv_ldc2 (v := (999 : Int64)) hx hb X.ow (X.hts _ k_643) dX7_approximateInterval_3 ?_
  obtain ⟨q_1, I_2, hc_3, h⟩ := clP_e h
  refine r_callS (As := [.long a1.toInt64, .long (0 : Int64), .long (999 : Int64)]) [] X (c7_in l g hG N _ _ _ _ _ _ hc_3) cal_X7_in (sc_X7_in) k_609 rfl ⟨rfl, rfl⟩ ⟨Nat.le_of_ble_eq_true rfl, Nat.le_of_ble_eq_true rfl⟩ hP hS hl.1 rfl (Nat.le_of_ble_eq_true rfl) dX7_approximateInterval_6 ⟨Nat.zero_le _, Nat.zero_le _⟩ (fun H locs hP hS => ?_)
  show W p l e rm7_approximateInterval s m args below meth c H locs 0 0 _ (F0 m 9 ls [.int q_1])
  refine lv_if_ne (tgt := 15) hx hb dX7_approximateInterval_9 (by decide) (fun c_4 => ?_) (fun c_4 => ?_)
  · replace h := ifn c_4 h
    refine lv_aload_n hx hb dX7_approximateInterval_15 rfl (lv_at hl 0 rfl) ?_
    refine lv_aload_n hx hb dX7_approximateInterval_16 rfl (lv_at hl 0 rfl) ?_
    refine g7_3 X hP t0 k_554 dX7_approximateInterval_17 ?_
    refine lv_iconst (v := (0 : Int32)) hx hb dX7_approximateInterval_20 (by decide +kernel) ?_
    refine r_iald (n := 33) X hP (g7_3_t t0) (by decide +kernel) (j := 0) (by decide +kernel) dX7_approximateInterval_21 ?_
    refine lv_iconst (v := (2 : Int32)) hx hb dX7_approximateInterval_22 (by decide +kernel) ?_
    obtain ⟨I_6, hc_7, h⟩ := clM_e h
    refine r_callV (As := [.int (I_2 (k0 + 2) 0), .int (2 : Int32)]) [] X (c7_layRoots l g hG N _ _ _ _ t0 _ hc_7) cal_X7_layRoots (im_X7_layRoots) (se_X7_layRoots) k_697 (tag_lt t0 (by decide)) (by rw [lay, t0]; rfl) rfl rfl ⟨rfl, rfl⟩ ⟨Nat.le_of_ble_eq_true rfl, Nat.le_of_ble_eq_true rfl⟩ hP hS hl.1 rfl (Nat.le_of_ble_eq_true rfl) dX7_approximateInterval_23 ⟨Nat.zero_le _, Nat.zero_le _⟩ (fun H locs hP hS => ?_)
    show W p l e rm7_approximateInterval s m args below meth c H locs 0 0 _ (F0 m 26 ls [])
    refine lv_sipush (v := (676 : Int32)) hx hb dX7_approximateInterval_26 (by decide +kernel) ?_
    refine lv_aload_n hx hb dX7_approximateInterval_29 rfl (lv_at hl 0 rfl) ?_
    refine g7_11 X hP t0 k_562 dX7_approximateInterval_30 ?_
    refine lv_iconst (v := (1 : Int32)) hx hb dX7_approximateInterval_33 (by decide +kernel) ?_
    refine r_iald (n := 1001) X hP (g7_11_t t0) (by decide +kernel) (j := 1) (by decide +kernel) dX7_approximateInterval_34 ?_
    refine lv_imul hx hb dX7_approximateInterval_35 ?_
    refine lv_sipush (v := (1000 : Int32)) hx hb dX7_approximateInterval_36 (by decide +kernel) ?_
    refine lv_idiv hx hb dX7_approximateInterval_39 (by decide) ?_
    obtain ⟨x_8, ex_8, h⟩ := letM_e h
    refine r_nmi ex_8 ?_
    refine lv_istore_n (lv' := [(2, .int x_8), (0, .ref (ga g k0)), (1, .int a1)]) hx hb dX7_approximateInterval_40 rfl hl (by decide) rfl (fun ls hl => ?_)
    refine lv_iconst (v := (0 : Int32)) hx hb dX7_approximateInterval_41 (by decide +kernel) ?_
    refine lv_istore_n (lv' := [(3, .int (0 : Int32)), (2, .int x_8), (0, .ref (ga g k0)), (1, .int a1)]) hx hb dX7_approximateInterval_42 rfl hl (by decide) rfl (fun ls hl => ?_)
    refine lv_iconst (v := (1 : Int32)) hx hb dX7_approximateInterval_43 (by decide +kernel) ?_
    refine lv_istore (lv' := [(4, .int (1 : Int32)), (3, .int (0 : Int32)), (2, .int x_8), (0, .ref (ga g k0)), (1, .int a1)]) hx hb dX7_approximateInterval_44 hl (by decide) rfl (fun ls hl => ?_)
    exact L7_approximateInterval_46 hG N k0 a1 t0 X hr hlk r0 I0 N I_6 x_8 (0 : Int32) (1 : Int32) h _ _ _ hP hS (lv_sub hl [4, 2, 1, 0] rfl)
  · replace h := ifp c_4 h
    refine lv_bipush (v := (-2 : Int32)) hx hb dX7_approximateInterval_12 (by decide +kernel) ?_
    exact r_iret X hr hlk hP hS dX7_approximateInterval_14 h
abbrev rm7_note : Room := { frames := 0, cells := 0, slots := 0, locals := 0 }
def f7_note_2 (N : Nat) (k0 : Nat) : Nat → Mem → Int32 → Option (Mem)
  | 0, _, _ => none
  | cnt+1, I, v1 =>
    if (33 : Int32) ≤ v1 then
    letM (st I k0 8 (((I k0 8) + (1 : Int32)) - ((I k0 8) + (1 : Int32)) / (14 : Int32) * (14 : Int32))) (fun I_2 : Mem =>
    if (14 : Int32) ≤ (I_2 k0 7) then
    letM (st I_2 k0 7 (14 : Int32)) (fun I_4 : Mem =>
    some I_4)
    else
    letM (st I_2 k0 7 ((I_2 k0 7) + (1 : Int32))) (fun I_5 : Mem =>
    some I_5))
    else
    if (v1 < (0 : Int32) ∨ 33 ≤ v1.toNatClampNeg) then none else
    if ((((33 : Int32) * (I k0 8)) + v1) < (0 : Int32) ∨ 462 ≤ (((33 : Int32) * (I k0 8)) + v1).toNatClampNeg) then none else
    letM (st I (k0 + 5) ((((33 : Int32) * (I k0 8)) + v1).toNatClampNeg) (I (k0 + 2) (v1.toNatClampNeg))) (fun I_8 : Mem =>
    letM (v1 + (1 : Int32)) (fun x_9 : Int32 =>
    f7_note_2 N k0 cnt I_8 x_9))
def f7_note (N : Nat) (I : Mem) (k0 : Nat) : Option (Mem) :=
    f7_note_2 N k0 N I (0 : Int32)
set_option maxHeartbeats 4000000 in
set_option maxRecDepth 100000 in
theorem L7_note_2 (hG : Apart g NT) (N : Nat) (k0 : Nat) (t0 : tag k0 = 6) (X : Cx g p s m args c cX7_note RX7 2) (hr : meth.sig.returnType = none) (hlk : meth.locks = false) (I0 : Mem) : ∀ (cnt : Nat) (I : Mem) (v1 : Int32), f7_note_2 N k0 cnt I v1 = some I0 → ∀ (H : Heap) (locs : List Loc) (ls : Array Slot), Wp g I H → va_S (gA g) s.heap H locs → lv_has ls 2 [(0, .ref (ga g k0)), (1, .int v1)] → W p l e rm7_note s m args below meth c H locs 0 0 (MQ below (Qg g none I0) args s 0 0 (gA g)) (F0 m 2 ls []) := by
  have hx := X.hx
  have hb := X.hb
  intro cnt
  induction cnt with
  | zero =>
    intro I v1 h
    rw [f7_note_2] at h
    cases h
  | succ cnt ih =>
    intro I v1 h H locs ls hP hS hl
    rw [f7_note_2] at h
    refine lv_iload_n hx hb dX7_note_2 rfl (lv_at hl 1 rfl) ?_
    refine lv_bipush (v := (33 : Int32)) hx hb dX7_note_3 (by decide +kernel) ?_
    refine lv_icmp_ge (tgt := 34) hx hb dX7_note_5 (by decide) (fun c_1 => ?_) (fun c_1 => ?_)
    · replace h := ifp c_1 h
      refine lv_aload_n hx hb dX7_note_34 rfl (lv_at hl 0 rfl) ?_
      refine lv_aload_n hx hb dX7_note_35 rfl (lv_at hl 0 rfl) ?_
      refine g7_8 X hP t0 k_559 dX7_note_36 ?_
      refine lv_iconst (v := (1 : Int32)) hx hb dX7_note_39 (by decide +kernel) ?_
      refine lv_iadd hx hb dX7_note_40 ?_
      refine lv_bipush (v := (14 : Int32)) hx hb dX7_note_41 (by decide +kernel) ?_
      refine lv_irem hx hb dX7_note_43 (by decide) ?_
      obtain ⟨I_2, eI_2, h⟩ := letM_e h
      refine p7_8 X hP hS t0 k_559 eI_2 dX7_note_44 (fun H locs hP hS => ?_)
      refine lv_aload_n hx hb dX7_note_47 rfl (lv_at hl 0 rfl) ?_
      refine lv_aload_n hx hb dX7_note_48 rfl (lv_at hl 0 rfl) ?_
      refine g7_7 X hP t0 k_558 dX7_note_49 ?_
      refine lv_bipush (v := (14 : Int32)) hx hb dX7_note_52 (by decide +kernel) ?_
      refine lv_icmp_ge (tgt := 66) hx hb dX7_note_54 (by decide) (fun c_3 => ?_) (fun c_3 => ?_)
      · replace h := ifp c_3 h
        refine lv_bipush (v := (14 : Int32)) hx hb dX7_note_66 (by decide +kernel) ?_
        obtain ⟨I_4, eI_4, h⟩ := letM_e h
        refine p7_7 X hP hS t0 k_558 eI_4 dX7_note_68 (fun H locs hP hS => ?_)
        exact r_vret X hr hlk hP hS dX7_note_71 h
      · replace h := ifn c_3 h
        refine lv_aload_n hx hb dX7_note_57 rfl (lv_at hl 0 rfl) ?_
        refine g7_7 X hP t0 k_558 dX7_note_58 ?_
        refine lv_iconst (v := (1 : Int32)) hx hb dX7_note_61 (by decide +kernel) ?_
        refine lv_iadd hx hb dX7_note_62 ?_
        refine lv_goto (tgt := 68) hx hb dX7_note_63 (by decide) ?_
        obtain ⟨I_5, eI_5, h⟩ := letM_e h
        refine p7_7 X hP hS t0 k_558 eI_5 dX7_note_68 (fun H locs hP hS => ?_)
        exact r_vret X hr hlk hP hS dX7_note_71 h
    · replace h := ifn c_1 h
      refine lv_aload_n hx hb dX7_note_8 rfl (lv_at hl 0 rfl) ?_
      refine g7_6 X hP t0 k_557 dX7_note_9 ?_
      refine lv_bipush (v := (33 : Int32)) hx hb dX7_note_12 (by decide +kernel) ?_
      refine lv_aload_n hx hb dX7_note_14 rfl (lv_at hl 0 rfl) ?_
      refine g7_8 X hP t0 k_559 dX7_note_15 ?_
      refine lv_imul hx hb dX7_note_18 ?_
      refine lv_iload_n hx hb dX7_note_19 rfl (lv_at hl 1 rfl) ?_
      refine lv_iadd hx hb dX7_note_20 ?_
      refine lv_aload_n hx hb dX7_note_21 rfl (lv_at hl 0 rfl) ?_
      refine g7_3 X hP t0 k_554 dX7_note_22 ?_
      refine lv_iload_n hx hb dX7_note_25 rfl (lv_at hl 1 rfl) ?_
      obtain ⟨g_6, h⟩ := gd_e h
      refine r_iald (n := 33) X hP (g7_3_t t0) g_6 (j := v1.toNatClampNeg) rfl dX7_note_26 ?_
      obtain ⟨g_7, h⟩ := gd_e h
      obtain ⟨I_8, eI_8, h⟩ := letM_e h
      refine r_iast (n := 462) X hP hS (g7_6_t t0) g_7 (j := (((33 : Int32) * (I k0 8)) + v1).toNatClampNeg) rfl eI_8 dX7_note_27 (fun H locs hP hS => ?_)
      obtain ⟨x_9, ex_9, h⟩ := letM_e h
      refine lv_iinc (v := x_9) (lv' := [(1, .int x_9), (0, .ref (ga g k0))]) hx hb dX7_note_28 hl (k := 1) rfl (by rw [ex_9]; rfl) (by decide) rfl (fun ls hl => ?_)
      refine lv_goto (tgt := 2) hx hb dX7_note_31 (by decide) ?_
      exact ih I_8 x_9 h _ _ _ hP hS (lv_sub hl [1, 0] rfl)
set_option maxHeartbeats 4000000 in
set_option maxRecDepth 100000 in
theorem c7_note (l : Launch) (g : GG) (hG : Apart g NT) (N : Nat) (I : Mem) (k0 : Nat) (t0 : tag k0 = 6) (I0 : Mem) (h : f7_note N I k0 = some I0) : Mc l g yX7_note cX7_note 2 none rm7_note I [.ref (ga g k0)] none I0 := by
  refine Mc.of hG (by decide +kernel) (Nat.le_of_ble_eq_true rfl) ?_
  intro p e s m args below meth c ls X hr hlk hP hS hl
  have X : Cx g p s m args c cX7_note RX7 2 := X
  have hx := X.hx
  have hb := X.hb
  have hl : lv_has ls 2 [(0, .ref (ga g k0))] := hl
  have locs : List Loc := []
  unfold f7_note at h
  refine lv_iconst (v := (0 : Int32)) hx hb dX7_note_0 (by decide +kernel) ?_
  refine lv_istore_n (lv' := [(1, .int (0 : Int32)), (0, .ref (ga g k0))]) hx hb dX7_note_1 rfl hl (by decide) rfl (fun ls hl => ?_)
  exact L7_note_2 hG N k0 t0 X hr hlk I0 N I (0 : Int32) h _ _ _ hP hS (lv_sub hl [1, 0] rfl)
abbrev rm7_setAcceleration : Room := { frames := 1, cells := 0, slots := 0, locals := 25 }
def f7_setAcceleration (N : Nat) (I : Mem) (k0 : Nat) (a1 : Int32) : Option (Int32 × Mem) :=
    clP (f7_in N I a1.toInt64 (1 : Int64) (999 : Int64)) (fun (q_1 : Int32) (I_2 : Mem) =>
    if q_1 = (0 : Int32) then
    some ((-2 : Int32), I_2)
    else
    clP (f7_isUnderWay N I_2 (k0 + 2)) (fun (q_5 : Int32) (I_6 : Mem) =>
    if q_5 = (0 : Int32) then
    clM (f7_note N I_6 k0) (fun I_10 : Mem =>
    letM (I_10 (k0 + 2) 0) (fun x_12 : Int32 =>
    letM (st I_10 (k0 + 2) 0 a1) (fun I_13 : Mem =>
    some (x_12, I_13))))
    else
    some ((-3 : Int32), I_6)))
set_option maxHeartbeats 4000000 in
set_option maxRecDepth 100000 in
theorem c7_setAcceleration (l : Launch) (g : GG) (hG : Apart g NT) (N : Nat) (I : Mem) (k0 : Nat) (a1 : Int32) (t0 : tag k0 = 6) (r0 : Int32) (I0 : Mem) (h : f7_setAcceleration N I k0 a1 = some (r0, I0)) : Mc l g yX7_setAcceleration cX7_setAcceleration 3 (some .int) rm7_setAcceleration I [.ref (ga g k0), .int a1] (some (.int r0)) I0 := by
  refine Mc.of hG (by decide +kernel) (Nat.le_of_ble_eq_true rfl) ?_
  intro p e s m args below meth c ls X hr hlk hP hS hl
  have X : Cx g p s m args c cX7_setAcceleration RX7 3 := X
  have hx := X.hx
  have hb := X.hb
  have hl : lv_has ls 3 [(0, .ref (ga g k0)), (1, .int a1)] := hl
  have locs : List Loc := []
  unfold f7_setAcceleration at h
  refine lv_iload_n hx hb dX7_setAcceleration_0 rfl (lv_at hl 1 rfl) ?_
  refine lv_i2l (v := a1.toInt64) hx hb dX7_setAcceleration_1 (by rfl) ?_
  refine lv_lconst (v := (1 : Int64)) hx hb dX7_setAcceleration_2 (by decide +kernel) ?_
  refine lv_ldc2 (v := (999 : Int64)) hx hb X.ow (X.hts _ k_643) dX7_setAcceleration_3 ?_
  obtain ⟨q_1, I_2, hc_3, h⟩ := clP_e h
  refine r_callS (As := [.long a1.toInt64, .long (1 : Int64), .long (999 : Int64)]) [] X (c7_in l g hG N _ _ _ _ _ _ hc_3) cal_X7_in (sc_X7_in) k_609 rfl ⟨rfl, rfl⟩ ⟨Nat.le_of_ble_eq_true rfl, Nat.le_of_ble_eq_true rfl⟩ hP hS hl.1 rfl (Nat.le_of_ble_eq_true rfl) dX7_setAcceleration_6 ⟨Nat.zero_le _, Nat.zero_le _⟩ (fun H locs hP hS => ?_)
  show W p l e rm7_setAcceleration s m args below meth c H locs 0 0 _ (F0 m 9 ls [.int q_1])
  refine lv_if_ne (tgt := 15) hx hb dX7_setAcceleration_9 (by decide) (fun c_4 => ?_) (fun c_4 => ?_)
  · replace h := ifn c_4 h
    refine lv_aload_n hx hb dX7_setAcceleration_15 rfl (lv_at hl 0 rfl) ?_
    refine g7_3 X hP t0 k_554 dX7_setAcceleration_16 ?_
    obtain ⟨q_5, I_6, hc_7, h⟩ := clP_e h
    refine r_callS (As := [.ref (ga g (k0 + 2))]) [] X (c7_isUnderWay l g hG N _ _ (g7_3_t t0) _ _ hc_7) cal_X7_isUnderWay (sc_X7_isUnderWay) k_668 rfl ⟨rfl, rfl⟩ ⟨Nat.le_of_ble_eq_true rfl, Nat.le_of_ble_eq_true rfl⟩ hP hS hl.1 rfl (Nat.le_of_ble_eq_true rfl) dX7_setAcceleration_19 ⟨Nat.zero_le _, Nat.zero_le _⟩ (fun H locs hP hS => ?_)
    show W p l e rm7_setAcceleration s m args below meth c H locs 0 0 _ (F0 m 22 ls [.int q_5])
    refine lv_if_eq (tgt := 28) hx hb dX7_setAcceleration_22 (by decide) (fun c_8 => ?_) (fun c_8 => ?_)
    · replace h := ifp c_8 h
      refine lv_aload_n hx hb dX7_setAcceleration_28 rfl (lv_at hl 0 rfl) ?_
      obtain ⟨I_10, hc_11, h⟩ := clM_e h
      refine r_callV (As := []) [] X (c7_note l g hG N _ _ t0 _ hc_11) cal_X7_note (im_X7_note) (se_X7_note) k_724 (tag_lt t0 (by decide)) (by rw [lay, t0]; rfl) rfl rfl ⟨rfl, rfl⟩ ⟨Nat.le_of_ble_eq_true rfl, Nat.le_of_ble_eq_true rfl⟩ hP hS hl.1 rfl (Nat.le_of_ble_eq_true rfl) dX7_setAcceleration_29 ⟨Nat.zero_le _, Nat.zero_le _⟩ (fun H locs hP hS => ?_)
      show W p l e rm7_setAcceleration s m args below meth c H locs 0 0 _ (F0 m 32 ls [])
      refine lv_aload_n hx hb dX7_setAcceleration_32 rfl (lv_at hl 0 rfl) ?_
      refine g7_3 X hP t0 k_554 dX7_setAcceleration_33 ?_
      refine lv_iconst (v := (0 : Int32)) hx hb dX7_setAcceleration_36 (by decide +kernel) ?_
      refine r_iald (n := 33) X hP (g7_3_t t0) (by decide +kernel) (j := 0) (by decide +kernel) dX7_setAcceleration_37 ?_
      obtain ⟨x_12, ex_12, h⟩ := letM_e h
      refine r_nmi ex_12 ?_
      refine lv_istore_n (lv' := [(2, .int x_12), (0, .ref (ga g k0)), (1, .int a1)]) hx hb dX7_setAcceleration_38 rfl hl (by decide) rfl (fun ls hl => ?_)
      refine lv_aload_n hx hb dX7_setAcceleration_39 rfl (lv_at hl 1 rfl) ?_
      refine g7_3 X hP t0 k_554 dX7_setAcceleration_40 ?_
      refine lv_iconst (v := (0 : Int32)) hx hb dX7_setAcceleration_43 (by decide +kernel) ?_
      refine lv_iload_n hx hb dX7_setAcceleration_44 rfl (lv_at hl 2 rfl) ?_
      obtain ⟨I_13, eI_13, h⟩ := letM_e h
      refine r_iast (n := 33) X hP hS (g7_3_t t0) (by decide +kernel) (j := 0) (by decide +kernel) eI_13 dX7_setAcceleration_45 (fun H locs hP hS => ?_)
      refine lv_iload_n hx hb dX7_setAcceleration_46 rfl (lv_at hl 0 rfl) ?_
      exact r_iret X hr hlk hP hS dX7_setAcceleration_47 h
    · replace h := ifn c_8 h
      refine lv_bipush (v := (-3 : Int32)) hx hb dX7_setAcceleration_25 (by decide +kernel) ?_
      exact r_iret X hr hlk hP hS dX7_setAcceleration_27 h
  · replace h := ifp c_4 h
    refine lv_bipush (v := (-2 : Int32)) hx hb dX7_setAcceleration_12 (by decide +kernel) ?_
    exact r_iret X hr hlk hP hS dX7_setAcceleration_14 h
abbrev rm7_setSpeedLimit : Room := { frames := 1, cells := 0, slots := 0, locals := 25 }
def f7_setSpeedLimit (N : Nat) (I : Mem) (k0 : Nat) (a1 : Int32) : Option (Int32 × Mem) :=
    clP (f7_in N I a1.toInt64 (1 : Int64) (999 : Int64)) (fun (q_1 : Int32) (I_2 : Mem) =>
    if q_1 = (0 : Int32) then
    some ((-2 : Int32), I_2)
    else
    clM (f7_note N I_2 k0) (fun I_6 : Mem =>
    letM (I_6 (k0 + 2) 1) (fun x_8 : Int32 =>
    letM (st I_6 (k0 + 2) 1 a1) (fun I_9 : Mem =>
    some (x_8, I_9)))))
set_option maxHeartbeats 4000000 in
set_option maxRecDepth 100000 in
theorem c7_setSpeedLimit (l : Launch) (g : GG) (hG : Apart g NT) (N : Nat) (I : Mem) (k0 : Nat) (a1 : Int32) (t0 : tag k0 = 6) (r0 : Int32) (I0 : Mem) (h : f7_setSpeedLimit N I k0 a1 = some (r0, I0)) : Mc l g yX7_setSpeedLimit cX7_setSpeedLimit 3 (some .int) rm7_setSpeedLimit I [.ref (ga g k0), .int a1] (some (.int r0)) I0 := by
  refine Mc.of hG (by decide +kernel) (Nat.le_of_ble_eq_true rfl) ?_
  intro p e s m args below meth c ls X hr hlk hP hS hl
  have X : Cx g p s m args c cX7_setSpeedLimit RX7 3 := X
  have hx := X.hx
  have hb := X.hb
  have hl : lv_has ls 3 [(0, .ref (ga g k0)), (1, .int a1)] := hl
  have locs : List Loc := []
  unfold f7_setSpeedLimit at h
  refine lv_iload_n hx hb dX7_setSpeedLimit_0 rfl (lv_at hl 1 rfl) ?_
  refine lv_i2l (v := a1.toInt64) hx hb dX7_setSpeedLimit_1 (by rfl) ?_
  refine lv_lconst (v := (1 : Int64)) hx hb dX7_setSpeedLimit_2 (by decide +kernel) ?_
  refine lv_ldc2 (v := (999 : Int64)) hx hb X.ow (X.hts _ k_643) dX7_setSpeedLimit_3 ?_
  obtain ⟨q_1, I_2, hc_3, h⟩ := clP_e h
  refine r_callS (As := [.long a1.toInt64, .long (1 : Int64), .long (999 : Int64)]) [] X (c7_in l g hG N _ _ _ _ _ _ hc_3) cal_X7_in (sc_X7_in) k_609 rfl ⟨rfl, rfl⟩ ⟨Nat.le_of_ble_eq_true rfl, Nat.le_of_ble_eq_true rfl⟩ hP hS hl.1 rfl (Nat.le_of_ble_eq_true rfl) dX7_setSpeedLimit_6 ⟨Nat.zero_le _, Nat.zero_le _⟩ (fun H locs hP hS => ?_)
  show W p l e rm7_setSpeedLimit s m args below meth c H locs 0 0 _ (F0 m 9 ls [.int q_1])
  refine lv_if_ne (tgt := 15) hx hb dX7_setSpeedLimit_9 (by decide) (fun c_4 => ?_) (fun c_4 => ?_)
  · replace h := ifn c_4 h
    refine lv_aload_n hx hb dX7_setSpeedLimit_15 rfl (lv_at hl 0 rfl) ?_
    obtain ⟨I_6, hc_7, h⟩ := clM_e h
    refine r_callV (As := []) [] X (c7_note l g hG N _ _ t0 _ hc_7) cal_X7_note (im_X7_note) (se_X7_note) k_724 (tag_lt t0 (by decide)) (by rw [lay, t0]; rfl) rfl rfl ⟨rfl, rfl⟩ ⟨Nat.le_of_ble_eq_true rfl, Nat.le_of_ble_eq_true rfl⟩ hP hS hl.1 rfl (Nat.le_of_ble_eq_true rfl) dX7_setSpeedLimit_16 ⟨Nat.zero_le _, Nat.zero_le _⟩ (fun H locs hP hS => ?_)
    show W p l e rm7_setSpeedLimit s m args below meth c H locs 0 0 _ (F0 m 19 ls [])
    refine lv_aload_n hx hb dX7_setSpeedLimit_19 rfl (lv_at hl 0 rfl) ?_
    refine g7_3 X hP t0 k_554 dX7_setSpeedLimit_20 ?_
    refine lv_iconst (v := (1 : Int32)) hx hb dX7_setSpeedLimit_23 (by decide +kernel) ?_
    refine r_iald (n := 33) X hP (g7_3_t t0) (by decide +kernel) (j := 1) (by decide +kernel) dX7_setSpeedLimit_24 ?_
    obtain ⟨x_8, ex_8, h⟩ := letM_e h
    refine r_nmi ex_8 ?_
    refine lv_istore_n (lv' := [(2, .int x_8), (0, .ref (ga g k0)), (1, .int a1)]) hx hb dX7_setSpeedLimit_25 rfl hl (by decide) rfl (fun ls hl => ?_)
    refine lv_aload_n hx hb dX7_setSpeedLimit_26 rfl (lv_at hl 1 rfl) ?_
    refine g7_3 X hP t0 k_554 dX7_setSpeedLimit_27 ?_
    refine lv_iconst (v := (1 : Int32)) hx hb dX7_setSpeedLimit_30 (by decide +kernel) ?_
    refine lv_iload_n hx hb dX7_setSpeedLimit_31 rfl (lv_at hl 2 rfl) ?_
    obtain ⟨I_9, eI_9, h⟩ := letM_e h
    refine r_iast (n := 33) X hP hS (g7_3_t t0) (by decide +kernel) (j := 1) (by decide +kernel) eI_9 dX7_setSpeedLimit_32 (fun H locs hP hS => ?_)
    refine lv_iload_n hx hb dX7_setSpeedLimit_33 rfl (lv_at hl 0 rfl) ?_
    exact r_iret X hr hlk hP hS dX7_setSpeedLimit_34 h
  · replace h := ifp c_4 h
    refine lv_bipush (v := (-2 : Int32)) hx hb dX7_setSpeedLimit_12 (by decide +kernel) ?_
    exact r_iret X hr hlk hP hS dX7_setSpeedLimit_14 h
abbrev rm7_addItem : Room := { frames := 1, cells := 0, slots := 0, locals := 21 }
def f7_addItem (N : Nat) (I : Mem) (k0 : Nat) (a1 : Int32) (a2 : Int32) (a3 : Int32) : Option (Int32 × Mem) :=
    if (I (k0 + 2) 5) = (8 : Int32) then
    some ((-4 : Int32), I)
    else
    clM (f7_note N I k0) (fun I_3 : Mem =>
    letM ((9 : Int32) + ((3 : Int32) * (I_3 (k0 + 2) 5))) (fun x_5 : Int32 =>
    if (x_5 < (0 : Int32) ∨ 33 ≤ x_5.toNatClampNeg) then none else
    letM (st I_3 (k0 + 2) (x_5.toNatClampNeg) a1) (fun I_7 : Mem =>
    if ((x_5 + (1 : Int32)) < (0 : Int32) ∨ 33 ≤ (x_5 + (1 : Int32)).toNatClampNeg) then none else
    letM (st I_7 (k0 + 2) ((x_5 + (1 : Int32)).toNatClampNeg) a2) (fun I_9 : Mem =>
    if ((x_5 + (2 : Int32)) < (0 : Int32) ∨ 33 ≤ (x_5 + (2 : Int32)).toNatClampNeg) then none else
    letM (st I_9 (k0 + 2) ((x_5 + (2 : Int32)).toNatClampNeg) a3) (fun I_11 : Mem =>
    letM (st I_11 (k0 + 2) 5 ((I_11 (k0 + 2) 5) + (1 : Int32))) (fun I_12 : Mem =>
    some ((I_12 (k0 + 2) 5), I_12)))))))
set_option maxHeartbeats 4000000 in
set_option maxRecDepth 100000 in
theorem c7_addItem (l : Launch) (g : GG) (hG : Apart g NT) (N : Nat) (I : Mem) (k0 : Nat) (a1 : Int32) (a2 : Int32) (a3 : Int32) (t0 : tag k0 = 6) (r0 : Int32) (I0 : Mem) (h : f7_addItem N I k0 a1 a2 a3 = some (r0, I0)) : Mc l g yX7_addItem cX7_addItem 5 (some .int) rm7_addItem I [.ref (ga g k0), .int a1, .int a2, .int a3] (some (.int r0)) I0 := by
  refine Mc.of hG (by decide +kernel) (Nat.le_of_ble_eq_true rfl) ?_
  intro p e s m args below meth c ls X hr hlk hP hS hl
  have X : Cx g p s m args c cX7_addItem RX7 5 := X
  have hx := X.hx
  have hb := X.hb
  have hl : lv_has ls 5 [(0, .ref (ga g k0)), (1, .int a1), (2, .int a2), (3, .int a3)] := hl
  have locs : List Loc := []
  unfold f7_addItem at h
  refine lv_aload_n hx hb dX7_addItem_0 rfl (lv_at hl 0 rfl) ?_
  refine g7_3 X hP t0 k_554 dX7_addItem_1 ?_
  refine lv_iconst (v := (5 : Int32)) hx hb dX7_addItem_4 (by decide +kernel) ?_
  refine r_iald (n := 33) X hP (g7_3_t t0) (by decide +kernel) (j := 5) (by decide +kernel) dX7_addItem_5 ?_
  refine lv_bipush (v := (8 : Int32)) hx hb dX7_addItem_6 (by decide +kernel) ?_
  refine lv_icmp_ne (tgt := 14) hx hb dX7_addItem_8 (by decide) (fun c_1 => ?_) (fun c_1 => ?_)
  · replace h := ifn c_1 h
    refine lv_aload_n hx hb dX7_addItem_14 rfl (lv_at hl 0 rfl) ?_
    obtain ⟨I_3, hc_4, h⟩ := clM_e h
    refine r_callV (As := []) [] X (c7_note l g hG N _ _ t0 _ hc_4) cal_X7_note (im_X7_note) (se_X7_note) k_724 (tag_lt t0 (by decide)) (by rw [lay, t0]; rfl) rfl rfl ⟨rfl, rfl⟩ ⟨Nat.le_of_ble_eq_true rfl, Nat.le_of_ble_eq_true rfl⟩ hP hS hl.1 rfl (Nat.le_of_ble_eq_true rfl) dX7_addItem_15 ⟨Nat.zero_le _, Nat.zero_le _⟩ (fun H locs hP hS => ?_)
    show W p l e rm7_addItem s m args below meth c H locs 0 0 _ (F0 m 18 ls [])
    refine lv_bipush (v := (9 : Int32)) hx hb dX7_addItem_18 (by decide +kernel) ?_
    refine lv_iconst (v := (3 : Int32)) hx hb dX7_addItem_20 (by decide +kernel) ?_
    refine lv_aload_n hx hb dX7_addItem_21 rfl (lv_at hl 0 rfl) ?_
    refine g7_3 X hP t0 k_554 dX7_addItem_22 ?_
    refine lv_iconst (v := (5 : Int32)) hx hb dX7_addItem_25 (by decide +kernel) ?_
    refine r_iald (n := 33) X hP (g7_3_t t0) (by decide +kernel) (j := 5) (by decide +kernel) dX7_addItem_26 ?_
    refine lv_imul hx hb dX7_addItem_27 ?_
    refine lv_iadd hx hb dX7_addItem_28 ?_
    obtain ⟨x_5, ex_5, h⟩ := letM_e h
    refine r_nmi ex_5 ?_
    refine lv_istore (lv' := [(4, .int x_5), (0, .ref (ga g k0)), (1, .int a1), (2, .int a2), (3, .int a3)]) hx hb dX7_addItem_29 hl (by decide) rfl (fun ls hl => ?_)
    refine lv_aload_n hx hb dX7_addItem_31 rfl (lv_at hl 1 rfl) ?_
    refine g7_3 X hP t0 k_554 dX7_addItem_32 ?_
    refine lv_iload hx hb dX7_addItem_35 (lv_at hl 0 rfl) ?_
    refine lv_iload_n hx hb dX7_addItem_37 rfl (lv_at hl 2 rfl) ?_
    obtain ⟨g_6, h⟩ := gd_e h
    obtain ⟨I_7, eI_7, h⟩ := letM_e h
    refine r_iast (n := 33) X hP hS (g7_3_t t0) g_6 (j := x_5.toNatClampNeg) rfl eI_7 dX7_addItem_38 (fun H locs hP hS => ?_)
    refine lv_aload_n hx hb dX7_addItem_39 rfl (lv_at hl 1 rfl) ?_
    refine g7_3 X hP t0 k_554 dX7_addItem_40 ?_
    refine lv_iload hx hb dX7_addItem_43 (lv_at hl 0 rfl) ?_
    refine lv_iconst (v := (1 : Int32)) hx hb dX7_addItem_45 (by decide +kernel) ?_
    refine lv_iadd hx hb dX7_addItem_46 ?_
    refine lv_iload_n hx hb dX7_addItem_47 rfl (lv_at hl 3 rfl) ?_
    obtain ⟨g_8, h⟩ := gd_e h
    obtain ⟨I_9, eI_9, h⟩ := letM_e h
    refine r_iast (n := 33) X hP hS (g7_3_t t0) g_8 (j := (x_5 + (1 : Int32)).toNatClampNeg) rfl eI_9 dX7_addItem_48 (fun H locs hP hS => ?_)
    refine lv_aload_n hx hb dX7_addItem_49 rfl (lv_at hl 1 rfl) ?_
    refine g7_3 X hP t0 k_554 dX7_addItem_50 ?_
    refine lv_iload hx hb dX7_addItem_53 (lv_at hl 0 rfl) ?_
    refine lv_iconst (v := (2 : Int32)) hx hb dX7_addItem_55 (by decide +kernel) ?_
    refine lv_iadd hx hb dX7_addItem_56 ?_
    refine lv_iload_n hx hb dX7_addItem_57 rfl (lv_at hl 4 rfl) ?_
    obtain ⟨g_10, h⟩ := gd_e h
    obtain ⟨I_11, eI_11, h⟩ := letM_e h
    refine r_iast (n := 33) X hP hS (g7_3_t t0) g_10 (j := (x_5 + (2 : Int32)).toNatClampNeg) rfl eI_11 dX7_addItem_58 (fun H locs hP hS => ?_)
    refine lv_aload_n hx hb dX7_addItem_59 rfl (lv_at hl 1 rfl) ?_
    refine g7_3 X hP t0 k_554 dX7_addItem_60 ?_
    refine lv_iconst (v := (5 : Int32)) hx hb dX7_addItem_63 (by decide +kernel) ?_
    refine lv_dup2_11 hx hb dX7_addItem_64 rfl rfl ?_
    refine r_iald (n := 33) X hP (g7_3_t t0) (by decide +kernel) (j := 5) (by decide +kernel) dX7_addItem_65 ?_
    refine lv_iconst (v := (1 : Int32)) hx hb dX7_addItem_66 (by decide +kernel) ?_
    refine lv_iadd hx hb dX7_addItem_67 ?_
    obtain ⟨I_12, eI_12, h⟩ := letM_e h
    refine r_iast (n := 33) X hP hS (g7_3_t t0) (by decide +kernel) (j := 5) (by decide +kernel) eI_12 dX7_addItem_68 (fun H locs hP hS => ?_)
    refine lv_aload_n hx hb dX7_addItem_69 rfl (lv_at hl 1 rfl) ?_
    refine g7_3 X hP t0 k_554 dX7_addItem_70 ?_
    refine lv_iconst (v := (5 : Int32)) hx hb dX7_addItem_73 (by decide +kernel) ?_
    refine r_iald (n := 33) X hP (g7_3_t t0) (by decide +kernel) (j := 5) (by decide +kernel) dX7_addItem_74 ?_
    exact r_iret X hr hlk hP hS dX7_addItem_75 h
  · replace h := ifp c_1 h
    refine lv_bipush (v := (-4 : Int32)) hx hb dX7_addItem_11 (by decide +kernel) ?_
    exact r_iret X hr hlk hP hS dX7_addItem_13 h
abbrev rm7_addMove : Room := { frames := 2, cells := 0, slots := 0, locals := 45 }
def f7_addMove (N : Nat) (I : Mem) (k0 : Nat) (a1 : Int32) (a2 : Int32) : Option (Int32 × Mem) :=
    clP (f7_in N I a1.toInt64 (-999 : Int64) (999 : Int64)) (fun (q_1 : Int32) (I_2 : Mem) =>
    if q_1 = (0 : Int32) then
    some ((-2 : Int32), I_2)
    else
    clP (f7_in N I_2 a2.toInt64 (-999 : Int64) (999 : Int64)) (fun (q_5 : Int32) (I_6 : Mem) =>
    if q_5 = (0 : Int32) then
    some ((-2 : Int32), I_6)
    else
    if a1 = (0 : Int32) then
    if a2 = (0 : Int32) then
    some ((-2 : Int32), I_6)
    else
    clP (f7_addItem N I_6 k0 a1 a2 (0 : Int32)) (fun (q_14 : Int32) (I_15 : Mem) =>
    some (q_14, I_15))
    else
    clP (f7_addItem N I_6 k0 a1 a2 (0 : Int32)) (fun (q_10 : Int32) (I_11 : Mem) =>
    some (q_10, I_11))))
set_option maxHeartbeats 4000000 in
set_option maxRecDepth 100000 in
theorem c7_addMove (l : Launch) (g : GG) (hG : Apart g NT) (N : Nat) (I : Mem) (k0 : Nat) (a1 : Int32) (a2 : Int32) (t0 : tag k0 = 6) (r0 : Int32) (I0 : Mem) (h : f7_addMove N I k0 a1 a2 = some (r0, I0)) : Mc l g yX7_addMove cX7_addMove 3 (some .int) rm7_addMove I [.ref (ga g k0), .int a1, .int a2] (some (.int r0)) I0 := by
  refine Mc.of hG (by decide +kernel) (Nat.le_of_ble_eq_true rfl) ?_
  intro p e s m args below meth c ls X hr hlk hP hS hl
  have X : Cx g p s m args c cX7_addMove RX7 3 := X
  have hx := X.hx
  have hb := X.hb
  have hl : lv_has ls 3 [(0, .ref (ga g k0)), (1, .int a1), (2, .int a2)] := hl
  have locs : List Loc := []
  unfold f7_addMove at h
  refine lv_iload_n hx hb dX7_addMove_0 rfl (lv_at hl 1 rfl) ?_
  refine lv_i2l (v := a1.toInt64) hx hb dX7_addMove_1 (by rfl) ?_
  refine lv_ldc2 (v := (-999 : Int64)) hx hb X.ow (X.hts _ k_642) dX7_addMove_2 ?_
  refine lv_ldc2 (v := (999 : Int64)) hx hb X.ow (X.hts _ k_643) dX7_addMove_5 ?_
  obtain ⟨q_1, I_2, hc_3, h⟩ := clP_e h
  refine r_callS (As := [.long a1.toInt64, .long (-999 : Int64), .long (999 : Int64)]) [] X (c7_in l g hG N _ _ _ _ _ _ hc_3) cal_X7_in (sc_X7_in) k_609 rfl ⟨rfl, rfl⟩ ⟨Nat.le_of_ble_eq_true rfl, Nat.le_of_ble_eq_true rfl⟩ hP hS hl.1 rfl (Nat.le_of_ble_eq_true rfl) dX7_addMove_8 ⟨Nat.zero_le _, Nat.zero_le _⟩ (fun H locs hP hS => ?_)
  show W p l e rm7_addMove s m args below meth c H locs 0 0 _ (F0 m 11 ls [.int q_1])
  refine lv_if_eq (tgt := 36) hx hb dX7_addMove_11 (by decide) (fun c_4 => ?_) (fun c_4 => ?_)
  · replace h := ifp c_4 h
    refine lv_bipush (v := (-2 : Int32)) hx hb dX7_addMove_36 (by decide +kernel) ?_
    exact r_iret X hr hlk hP hS dX7_addMove_38 h
  · replace h := ifn c_4 h
    refine lv_iload_n hx hb dX7_addMove_14 rfl (lv_at hl 2 rfl) ?_
    refine lv_i2l (v := a2.toInt64) hx hb dX7_addMove_15 (by rfl) ?_
    refine lv_ldc2 (v := (-999 : Int64)) hx hb X.ow (X.hts _ k_642) dX7_addMove_16 ?_
    refine lv_ldc2 (v := (999 : Int64)) hx hb X.ow (X.hts _ k_643) dX7_addMove_19 ?_
    obtain ⟨q_5, I_6, hc_7, h⟩ := clP_e h
    refine r_callS (As := [.long a2.toInt64, .long (-999 : Int64), .long (999 : Int64)]) [] X (c7_in l g hG N _ _ _ _ _ _ hc_7) cal_X7_in (sc_X7_in) k_609 rfl ⟨rfl, rfl⟩ ⟨Nat.le_of_ble_eq_true rfl, Nat.le_of_ble_eq_true rfl⟩ hP hS hl.1 rfl (Nat.le_of_ble_eq_true rfl) dX7_addMove_22 ⟨Nat.zero_le _, Nat.zero_le _⟩ (fun H locs hP hS => ?_)
    show W p l e rm7_addMove s m args below meth c H locs 0 0 _ (F0 m 25 ls [.int q_5])
    refine lv_if_eq (tgt := 36) hx hb dX7_addMove_25 (by decide) (fun c_8 => ?_) (fun c_8 => ?_)
    · replace h := ifp c_8 h
      refine lv_bipush (v := (-2 : Int32)) hx hb dX7_addMove_36 (by decide +kernel) ?_
      exact r_iret X hr hlk hP hS dX7_addMove_38 h
    · replace h := ifn c_8 h
      refine lv_iload_n hx hb dX7_addMove_28 rfl (lv_at hl 1 rfl) ?_
      refine lv_if_ne (tgt := 39) hx hb dX7_addMove_29 (by decide) (fun c_9 => ?_) (fun c_9 => ?_)
      · replace h := ifn c_9 h
        refine lv_aload_n hx hb dX7_addMove_39 rfl (lv_at hl 0 rfl) ?_
        refine lv_iload_n hx hb dX7_addMove_40 rfl (lv_at hl 1 rfl) ?_
        refine lv_iload_n hx hb dX7_addMove_41 rfl (lv_at hl 2 rfl) ?_
        refine lv_iconst (v := (0 : Int32)) hx hb dX7_addMove_42 (by decide +kernel) ?_
        obtain ⟨q_10, I_11, hc_12, h⟩ := clP_e h
        refine r_callV (As := [.int a1, .int a2, .int (0 : Int32)]) [] X (c7_addItem l g hG N _ _ _ _ _ t0 _ _ hc_12) cal_X7_addItem (im_X7_addItem) (se_X7_addItem) k_736 (tag_lt t0 (by decide)) (by rw [lay, t0]; rfl) rfl rfl ⟨rfl, rfl⟩ ⟨Nat.le_of_ble_eq_true rfl, Nat.le_of_ble_eq_true rfl⟩ hP hS hl.1 rfl (Nat.le_of_ble_eq_true rfl) dX7_addMove_43 ⟨Nat.zero_le _, Nat.zero_le _⟩ (fun H locs hP hS => ?_)
        show W p l e rm7_addMove s m args below meth c H locs 0 0 _ (F0 m 46 ls [.int q_10])
        exact r_iret X hr hlk hP hS dX7_addMove_46 h
      · replace h := ifp c_9 h
        refine lv_iload_n hx hb dX7_addMove_32 rfl (lv_at hl 2 rfl) ?_
        refine lv_if_ne (tgt := 39) hx hb dX7_addMove_33 (by decide) (fun c_13 => ?_) (fun c_13 => ?_)
        · replace h := ifn c_13 h
          refine lv_aload_n hx hb dX7_addMove_39 rfl (lv_at hl 0 rfl) ?_
          refine lv_iload_n hx hb dX7_addMove_40 rfl (lv_at hl 1 rfl) ?_
          refine lv_iload_n hx hb dX7_addMove_41 rfl (lv_at hl 2 rfl) ?_
          refine lv_iconst (v := (0 : Int32)) hx hb dX7_addMove_42 (by decide +kernel) ?_
          obtain ⟨q_14, I_15, hc_16, h⟩ := clP_e h
          refine r_callV (As := [.int a1, .int a2, .int (0 : Int32)]) [] X (c7_addItem l g hG N _ _ _ _ _ t0 _ _ hc_16) cal_X7_addItem (im_X7_addItem) (se_X7_addItem) k_736 (tag_lt t0 (by decide)) (by rw [lay, t0]; rfl) rfl rfl ⟨rfl, rfl⟩ ⟨Nat.le_of_ble_eq_true rfl, Nat.le_of_ble_eq_true rfl⟩ hP hS hl.1 rfl (Nat.le_of_ble_eq_true rfl) dX7_addMove_43 ⟨Nat.zero_le _, Nat.zero_le _⟩ (fun H locs hP hS => ?_)
          show W p l e rm7_addMove s m args below meth c H locs 0 0 _ (F0 m 46 ls [.int q_14])
          exact r_iret X hr hlk hP hS dX7_addMove_46 h
        · replace h := ifp c_13 h
          refine lv_bipush (v := (-2 : Int32)) hx hb dX7_addMove_36 (by decide +kernel) ?_
          exact r_iret X hr hlk hP hS dX7_addMove_38 h
abbrev rm7_addWait : Room := { frames := 2, cells := 0, slots := 0, locals := 45 }
def f7_addWait (N : Nat) (I : Mem) (k0 : Nat) (a1 : Int32) : Option (Int32 × Mem) :=
    clP (f7_in N I a1.toInt64 (1 : Int64) (9999 : Int64)) (fun (q_1 : Int32) (I_2 : Mem) =>
    if q_1 = (0 : Int32) then
    some ((-2 : Int32), I_2)
    else
    clP (f7_addItem N I_2 k0 (0 : Int32) (0 : Int32) a1) (fun (q_5 : Int32) (I_6 : Mem) =>
    some (q_5, I_6)))
set_option maxHeartbeats 4000000 in
set_option maxRecDepth 100000 in
theorem c7_addWait (l : Launch) (g : GG) (hG : Apart g NT) (N : Nat) (I : Mem) (k0 : Nat) (a1 : Int32) (t0 : tag k0 = 6) (r0 : Int32) (I0 : Mem) (h : f7_addWait N I k0 a1 = some (r0, I0)) : Mc l g yX7_addWait cX7_addWait 2 (some .int) rm7_addWait I [.ref (ga g k0), .int a1] (some (.int r0)) I0 := by
  refine Mc.of hG (by decide +kernel) (Nat.le_of_ble_eq_true rfl) ?_
  intro p e s m args below meth c ls X hr hlk hP hS hl
  have X : Cx g p s m args c cX7_addWait RX7 2 := X
  have hx := X.hx
  have hb := X.hb
  have hl : lv_has ls 2 [(0, .ref (ga g k0)), (1, .int a1)] := hl
  have locs : List Loc := []
  unfold f7_addWait at h
  refine lv_iload_n hx hb dX7_addWait_0 rfl (lv_at hl 1 rfl) ?_
  refine lv_i2l (v := a1.toInt64) hx hb dX7_addWait_1 (by rfl) ?_
  refine lv_lconst (v := (1 : Int64)) hx hb dX7_addWait_2 (by decide +kernel) ?_
  refine lv_ldc2 (v := (9999 : Int64)) hx hb X.ow (X.hts _ k_744) dX7_addWait_3 ?_
  obtain ⟨q_1, I_2, hc_3, h⟩ := clP_e h
  refine r_callS (As := [.long a1.toInt64, .long (1 : Int64), .long (9999 : Int64)]) [] X (c7_in l g hG N _ _ _ _ _ _ hc_3) cal_X7_in (sc_X7_in) k_609 rfl ⟨rfl, rfl⟩ ⟨Nat.le_of_ble_eq_true rfl, Nat.le_of_ble_eq_true rfl⟩ hP hS hl.1 rfl (Nat.le_of_ble_eq_true rfl) dX7_addWait_6 ⟨Nat.zero_le _, Nat.zero_le _⟩ (fun H locs hP hS => ?_)
  show W p l e rm7_addWait s m args below meth c H locs 0 0 _ (F0 m 9 ls [.int q_1])
  refine lv_if_eq (tgt := 22) hx hb dX7_addWait_9 (by decide) (fun c_4 => ?_) (fun c_4 => ?_)
  · replace h := ifp c_4 h
    refine lv_bipush (v := (-2 : Int32)) hx hb dX7_addWait_22 (by decide +kernel) ?_
    exact r_iret X hr hlk hP hS dX7_addWait_24 h
  · replace h := ifn c_4 h
    refine lv_aload_n hx hb dX7_addWait_12 rfl (lv_at hl 0 rfl) ?_
    refine lv_iconst (v := (0 : Int32)) hx hb dX7_addWait_13 (by decide +kernel) ?_
    refine lv_iconst (v := (0 : Int32)) hx hb dX7_addWait_14 (by decide +kernel) ?_
    refine lv_iload_n hx hb dX7_addWait_15 rfl (lv_at hl 1 rfl) ?_
    obtain ⟨q_5, I_6, hc_7, h⟩ := clP_e h
    refine r_callV (As := [.int (0 : Int32), .int (0 : Int32), .int a1]) [] X (c7_addItem l g hG N _ _ _ _ _ t0 _ _ hc_7) cal_X7_addItem (im_X7_addItem) (se_X7_addItem) k_736 (tag_lt t0 (by decide)) (by rw [lay, t0]; rfl) rfl rfl ⟨rfl, rfl⟩ ⟨Nat.le_of_ble_eq_true rfl, Nat.le_of_ble_eq_true rfl⟩ hP hS hl.1 rfl (Nat.le_of_ble_eq_true rfl) dX7_addWait_16 ⟨Nat.zero_le _, Nat.zero_le _⟩ (fun H locs hP hS => ?_)
    show W p l e rm7_addWait s m args below meth c H locs 0 0 _ (F0 m 19 ls [.int q_5])
    refine lv_goto (tgt := 24) hx hb dX7_addWait_19 (by decide) ?_
    exact r_iret X hr hlk hP hS dX7_addWait_24 h
abbrev rm7_dropItem : Room := { frames := 0, cells := 0, slots := 0, locals := 0 }
def f7_dropItem_49 (N : Nat) (k0 : Nat) (a1 : Int32) : Nat → Mem → Int32 → Option (Mem)
  | 0, _, _ => none
  | cnt+1, I, v2 =>
    if (33 : Int32) ≤ v2 then
    some I
    else
    if (v2 < (0 : Int32) ∨ 33 ≤ v2.toNatClampNeg) then none else
    letM (st I k0 (v2.toNatClampNeg) (0 : Int32)) (fun I_7 : Mem =>
    letM (v2 + (1 : Int32)) (fun x_8 : Int32 =>
    f7_dropItem_49 N k0 a1 cnt I_7 x_8))
def f7_dropItem_14 (N : Nat) (k0 : Nat) (a1 : Int32) : Nat → Mem → Int32 → Option (Mem)
  | 0, _, _ => none
  | cnt+1, I, v2 =>
    if ((9 : Int32) + ((3 : Int32) * (I k0 5))) ≤ v2 then
    letM ((9 : Int32) + ((3 : Int32) * (I k0 5))) (fun x_4 : Int32 =>
    f7_dropItem_49 N k0 a1 N I x_4)
    else
    if ((v2 + (3 : Int32)) < (0 : Int32) ∨ 33 ≤ (v2 + (3 : Int32)).toNatClampNeg) then none else
    if (v2 < (0 : Int32) ∨ 33 ≤ v2.toNatClampNeg) then none else
    letM (st I k0 (v2.toNatClampNeg) (I k0 ((v2 + (3 : Int32)).toNatClampNeg))) (fun I_11 : Mem =>
    letM (v2 + (1 : Int32)) (fun x_12 : Int32 =>
    f7_dropItem_14 N k0 a1 cnt I_11 x_12))
def f7_dropItem (N : Nat) (I : Mem) (k0 : Nat) (a1 : Int32) : Option (Mem) :=
    letM (st I k0 5 ((I k0 5) - (1 : Int32))) (fun I_1 : Mem =>
    letM ((9 : Int32) + ((3 : Int32) * a1)) (fun x_2 : Int32 =>
    f7_dropItem_14 N k0 a1 N I_1 x_2))
set_option maxHeartbeats 4000000 in
set_option maxRecDepth 100000 in
theorem L7_dropItem_49 (hG : Apart g NT) (N : Nat) (k0 : Nat) (a1 : Int32) (t0 : tag k0 = 43) (X : Cx g p s m args c cX7_dropItem RX7 3) (hr : meth.sig.returnType = none) (hlk : meth.locks = false) (I0 : Mem) : ∀ (cnt : Nat) (I : Mem) (v2 : Int32), f7_dropItem_49 N k0 a1 cnt I v2 = some I0 → ∀ (H : Heap) (locs : List Loc) (ls : Array Slot), Wp g I H → va_S (gA g) s.heap H locs → lv_has ls 3 [(0, .ref (ga g k0)), (2, .int v2)] → W p l e rm7_dropItem s m args below meth c H locs 0 0 (MQ below (Qg g none I0) args s 0 0 (gA g)) (F0 m 49 ls []) := by
  have hx := X.hx
  have hb := X.hb
  intro cnt
  induction cnt with
  | zero =>
    intro I v2 h
    rw [f7_dropItem_49] at h
    cases h
  | succ cnt ih =>
    intro I v2 h H locs ls hP hS hl
    rw [f7_dropItem_49] at h
    refine lv_iload_n hx hb dX7_dropItem_49 rfl (lv_at hl 1 rfl) ?_
    refine lv_bipush (v := (33 : Int32)) hx hb dX7_dropItem_50 (by decide +kernel) ?_
    refine lv_icmp_ge (tgt := 65) hx hb dX7_dropItem_52 (by decide) (fun c_5 => ?_) (fun c_5 => ?_)
    · replace h := ifp c_5 h
      exact r_vret X hr hlk hP hS dX7_dropItem_65 h
    · replace h := ifn c_5 h
      refine lv_aload_n hx hb dX7_dropItem_55 rfl (lv_at hl 0 rfl) ?_
      refine lv_iload_n hx hb dX7_dropItem_56 rfl (lv_at hl 1 rfl) ?_
      refine lv_iconst (v := (0 : Int32)) hx hb dX7_dropItem_57 (by decide +kernel) ?_
      obtain ⟨g_6, h⟩ := gd_e h
      obtain ⟨I_7, eI_7, h⟩ := letM_e h
      refine r_iast (n := 33) X hP hS t0 g_6 (j := v2.toNatClampNeg) rfl eI_7 dX7_dropItem_58 (fun H locs hP hS => ?_)
      obtain ⟨x_8, ex_8, h⟩ := letM_e h
      refine lv_iinc (v := x_8) (lv' := [(2, .int x_8), (0, .ref (ga g k0))]) hx hb dX7_dropItem_59 hl (k := 1) rfl (by rw [ex_8]; rfl) (by decide) rfl (fun ls hl => ?_)
      refine lv_goto (tgt := 49) hx hb dX7_dropItem_62 (by decide) ?_
      exact ih I_7 x_8 h _ _ _ hP hS (lv_sub hl [1, 0] rfl)
set_option maxHeartbeats 4000000 in
set_option maxRecDepth 100000 in
theorem L7_dropItem_14 (hG : Apart g NT) (N : Nat) (k0 : Nat) (a1 : Int32) (t0 : tag k0 = 43) (X : Cx g p s m args c cX7_dropItem RX7 3) (hr : meth.sig.returnType = none) (hlk : meth.locks = false) (I0 : Mem) : ∀ (cnt : Nat) (I : Mem) (v2 : Int32), f7_dropItem_14 N k0 a1 cnt I v2 = some I0 → ∀ (H : Heap) (locs : List Loc) (ls : Array Slot), Wp g I H → va_S (gA g) s.heap H locs → lv_has ls 3 [(0, .ref (ga g k0)), (2, .int v2)] → W p l e rm7_dropItem s m args below meth c H locs 0 0 (MQ below (Qg g none I0) args s 0 0 (gA g)) (F0 m 14 ls []) := by
  have hx := X.hx
  have hb := X.hb
  intro cnt
  induction cnt with
  | zero =>
    intro I v2 h
    rw [f7_dropItem_14] at h
    cases h
  | succ cnt ih =>
    intro I v2 h H locs ls hP hS hl
    rw [f7_dropItem_14] at h
    refine lv_iload_n hx hb dX7_dropItem_14 rfl (lv_at hl 1 rfl) ?_
    refine lv_bipush (v := (9 : Int32)) hx hb dX7_dropItem_15 (by decide +kernel) ?_
    refine lv_iconst (v := (3 : Int32)) hx hb dX7_dropItem_17 (by decide +kernel) ?_
    refine lv_aload_n hx hb dX7_dropItem_18 rfl (lv_at hl 0 rfl) ?_
    refine lv_iconst (v := (5 : Int32)) hx hb dX7_dropItem_19 (by decide +kernel) ?_
    refine r_iald (n := 33) X hP t0 (by decide +kernel) (j := 5) (by decide +kernel) dX7_dropItem_20 ?_
    refine lv_imul hx hb dX7_dropItem_21 ?_
    refine lv_iadd hx hb dX7_dropItem_22 ?_
    refine lv_icmp_ge (tgt := 40) hx hb dX7_dropItem_23 (by decide) (fun c_3 => ?_) (fun c_3 => ?_)
    · replace h := ifp c_3 h
      refine lv_bipush (v := (9 : Int32)) hx hb dX7_dropItem_40 (by decide +kernel) ?_
      refine lv_iconst (v := (3 : Int32)) hx hb dX7_dropItem_42 (by decide +kernel) ?_
      refine lv_aload_n hx hb dX7_dropItem_43 rfl (lv_at hl 0 rfl) ?_
      refine lv_iconst (v := (5 : Int32)) hx hb dX7_dropItem_44 (by decide +kernel) ?_
      refine r_iald (n := 33) X hP t0 (by decide +kernel) (j := 5) (by decide +kernel) dX7_dropItem_45 ?_
      refine lv_imul hx hb dX7_dropItem_46 ?_
      refine lv_iadd hx hb dX7_dropItem_47 ?_
      obtain ⟨x_4, ex_4, h⟩ := letM_e h
      refine r_nmi ex_4 ?_
      refine lv_istore_n (lv' := [(2, .int x_4), (0, .ref (ga g k0))]) hx hb dX7_dropItem_48 rfl hl (by decide) rfl (fun ls hl => ?_)
      exact L7_dropItem_49 hG N k0 a1 t0 X hr hlk I0 N I x_4 h _ _ _ hP hS (lv_sub hl [1, 0] rfl)
    · replace h := ifn c_3 h
      refine lv_aload_n hx hb dX7_dropItem_26 rfl (lv_at hl 0 rfl) ?_
      refine lv_iload_n hx hb dX7_dropItem_27 rfl (lv_at hl 1 rfl) ?_
      refine lv_aload_n hx hb dX7_dropItem_28 rfl (lv_at hl 0 rfl) ?_
      refine lv_iload_n hx hb dX7_dropItem_29 rfl (lv_at hl 1 rfl) ?_
      refine lv_iconst (v := (3 : Int32)) hx hb dX7_dropItem_30 (by decide +kernel) ?_
      refine lv_iadd hx hb dX7_dropItem_31 ?_
      obtain ⟨g_9, h⟩ := gd_e h
      refine r_iald (n := 33) X hP t0 g_9 (j := (v2 + (3 : Int32)).toNatClampNeg) rfl dX7_dropItem_32 ?_
      obtain ⟨g_10, h⟩ := gd_e h
      obtain ⟨I_11, eI_11, h⟩ := letM_e h
      refine r_iast (n := 33) X hP hS t0 g_10 (j := v2.toNatClampNeg) rfl eI_11 dX7_dropItem_33 (fun H locs hP hS => ?_)
      obtain ⟨x_12, ex_12, h⟩ := letM_e h
      refine lv_iinc (v := x_12) (lv' := [(2, .int x_12), (0, .ref (ga g k0))]) hx hb dX7_dropItem_34 hl (k := 1) rfl (by rw [ex_12]; rfl) (by decide) rfl (fun ls hl => ?_)
      refine lv_goto (tgt := 14) hx hb dX7_dropItem_37 (by decide) ?_
      exact ih I_11 x_12 h _ _ _ hP hS (lv_sub hl [1, 0] rfl)
set_option maxHeartbeats 4000000 in
set_option maxRecDepth 100000 in
theorem c7_dropItem (l : Launch) (g : GG) (hG : Apart g NT) (N : Nat) (I : Mem) (k0 : Nat) (a1 : Int32) (t0 : tag k0 = 43) (I0 : Mem) (h : f7_dropItem N I k0 a1 = some I0) : Mc l g yX7_dropItem cX7_dropItem 3 none rm7_dropItem I [.ref (ga g k0), .int a1] none I0 := by
  refine Mc.of hG (by decide +kernel) (Nat.le_of_ble_eq_true rfl) ?_
  intro p e s m args below meth c ls X hr hlk hP hS hl
  have X : Cx g p s m args c cX7_dropItem RX7 3 := X
  have hx := X.hx
  have hb := X.hb
  have hl : lv_has ls 3 [(0, .ref (ga g k0)), (1, .int a1)] := hl
  have locs : List Loc := []
  unfold f7_dropItem at h
  refine lv_aload_n hx hb dX7_dropItem_0 rfl (lv_at hl 0 rfl) ?_
  refine lv_iconst (v := (5 : Int32)) hx hb dX7_dropItem_1 (by decide +kernel) ?_
  refine lv_dup2_11 hx hb dX7_dropItem_2 rfl rfl ?_
  refine r_iald (n := 33) X hP t0 (by decide +kernel) (j := 5) (by decide +kernel) dX7_dropItem_3 ?_
  refine lv_iconst (v := (1 : Int32)) hx hb dX7_dropItem_4 (by decide +kernel) ?_
  refine lv_isub hx hb dX7_dropItem_5 ?_
  obtain ⟨I_1, eI_1, h⟩ := letM_e h
  refine r_iast (n := 33) X hP hS t0 (by decide +kernel) (j := 5) (by decide +kernel) eI_1 dX7_dropItem_6 (fun H locs hP hS => ?_)
  refine lv_bipush (v := (9 : Int32)) hx hb dX7_dropItem_7 (by decide +kernel) ?_
  refine lv_iconst (v := (3 : Int32)) hx hb dX7_dropItem_9 (by decide +kernel) ?_
  refine lv_iload_n hx hb dX7_dropItem_10 rfl (lv_at hl 1 rfl) ?_
  refine lv_imul hx hb dX7_dropItem_11 ?_
  refine lv_iadd hx hb dX7_dropItem_12 ?_
  obtain ⟨x_2, ex_2, h⟩ := letM_e h
  refine r_nmi ex_2 ?_
  refine lv_istore_n (lv' := [(2, .int x_2), (0, .ref (ga g k0)), (1, .int a1)]) hx hb dX7_dropItem_13 rfl hl (by decide) rfl (fun ls hl => ?_)
  exact L7_dropItem_14 hG N k0 a1 t0 X hr hlk I0 N I_1 x_2 h _ _ _ hP hS (lv_sub hl [1, 0] rfl)
abbrev rm7_endMove : Room := { frames := 1, cells := 0, slots := 0, locals := 22 }
def f7_endMove (N : Nat) (I : Mem) (k0 : Nat) : Option (Mem) :=
    clM (f7_dropItem N I k0 (0 : Int32)) (fun I_2 : Mem =>
    letM (st I_2 k0 6 (0 : Int32)) (fun I_4 : Mem =>
    letM (st I_4 k0 7 (-9 : Int32)) (fun I_5 : Mem =>
    letM (st I_5 k0 8 (0 : Int32)) (fun I_6 : Mem =>
    some I_6))))
set_option maxHeartbeats 4000000 in
set_option maxRecDepth 100000 in
theorem c7_endMove (l : Launch) (g : GG) (hG : Apart g NT) (N : Nat) (I : Mem) (k0 : Nat) (t0 : tag k0 = 43) (I0 : Mem) (h : f7_endMove N I k0 = some I0) : Mc l g yX7_endMove cX7_endMove 1 none rm7_endMove I [.ref (ga g k0)] none I0 := by
  refine Mc.of hG (by decide +kernel) (Nat.le_of_ble_eq_true rfl) ?_
  intro p e s m args below meth c ls X hr hlk hP hS hl
  have X : Cx g p s m args c cX7_endMove RX7 1 := X
  have hx := X.hx
  have hb := X.hb
  have hl : lv_has ls 1 [(0, .ref (ga g k0))] := hl
  have locs : List Loc := []
  unfold f7_endMove at h
  refine lv_aload_n hx hb dX7_endMove_0 rfl (lv_at hl 0 rfl) ?_
  refine lv_iconst (v := (0 : Int32)) hx hb dX7_endMove_1 (by decide +kernel) ?_
  obtain ⟨I_2, hc_3, h⟩ := clM_e h
  refine r_callS (As := [.ref (ga g k0), .int (0 : Int32)]) [] X (c7_dropItem l g hG N _ _ _ t0 _ hc_3) cal_X7_dropItem (sc_X7_dropItem) k_764 rfl ⟨rfl, rfl⟩ ⟨Nat.le_of_ble_eq_true rfl, Nat.le_of_ble_eq_true rfl⟩ hP hS hl.1 rfl (Nat.le_of_ble_eq_true rfl) dX7_endMove_2 ⟨Nat.zero_le _, Nat.zero_le _⟩ (fun H locs hP hS => ?_)
  show W p l e rm7_endMove s m args below meth c H locs 0 0 _ (F0 m 5 ls [])
  refine lv_aload_n hx hb dX7_endMove_5 rfl (lv_at hl 0 rfl) ?_
  refine lv_bipush (v := (6 : Int32)) hx hb dX7_endMove_6 (by decide +kernel) ?_
  refine lv_iconst (v := (0 : Int32)) hx hb dX7_endMove_8 (by decide +kernel) ?_
  obtain ⟨I_4, eI_4, h⟩ := letM_e h
  refine r_iast (n := 33) X hP hS t0 (by decide +kernel) (j := 6) (by decide +kernel) eI_4 dX7_endMove_9 (fun H locs hP hS => ?_)
  refine lv_aload_n hx hb dX7_endMove_10 rfl (lv_at hl 0 rfl) ?_
  refine lv_bipush (v := (7 : Int32)) hx hb dX7_endMove_11 (by decide +kernel) ?_
  refine lv_bipush (v := (-9 : Int32)) hx hb dX7_endMove_13 (by decide +kernel) ?_
  obtain ⟨I_5, eI_5, h⟩ := letM_e h
  refine r_iast (n := 33) X hP hS t0 (by decide +kernel) (j := 7) (by decide +kernel) eI_5 dX7_endMove_15 (fun H locs hP hS => ?_)
  refine lv_aload_n hx hb dX7_endMove_16 rfl (lv_at hl 0 rfl) ?_
  refine lv_bipush (v := (8 : Int32)) hx hb dX7_endMove_17 (by decide +kernel) ?_
  refine lv_iconst (v := (0 : Int32)) hx hb dX7_endMove_19 (by decide +kernel) ?_
  obtain ⟨I_6, eI_6, h⟩ := letM_e h
  refine r_iast (n := 33) X hP hS t0 (by decide +kernel) (j := 8) (by decide +kernel) eI_6 dX7_endMove_20 (fun H locs hP hS => ?_)
  exact r_vret X hr hlk hP hS dX7_endMove_21 h
abbrev rm7_nextIndex : Room := { frames := 5, cells := 0, slots := 0, locals := 116 }
def f7_nextIndex (N : Nat) (I : Mem) (k0 : Nat) (k1 : Nat) : Option (Int32 × Mem) :=
    clP (f7_isUnderWay N I k1) (fun (q_1 : Int32) (I_2 : Mem) =>
    if q_1 = (0 : Int32) then
    some ((0 : Int32), I_2)
    else
    clP (f7_fullTop N I_2 k0 (I_2 k1 0) (I_2 k1 1)) (fun (q_5 : Int32) (I_6 : Mem) =>
    clP (f7_indexAfter N I_6 (I_2 k1 7) (I_2 k1 8) q_5) (fun (q_8 : Int32) (I_9 : Mem) =>
    some (q_8, I_9))))
set_option maxHeartbeats 4000000 in
set_option maxRecDepth 100000 in
theorem c7_nextIndex (l : Launch) (g : GG) (hG : Apart g NT) (N : Nat) (I : Mem) (k0 : Nat) (k1 : Nat) (t0 : tag k0 = 6) (t1 : tag k1 = 43) (r0 : Int32) (I0 : Mem) (h : f7_nextIndex N I k0 k1 = some (r0, I0)) : Mc l g yX7_nextIndex cX7_nextIndex 2 (some .int) rm7_nextIndex I [.ref (ga g k0), .ref (ga g k1)] (some (.int r0)) I0 := by
  refine Mc.of hG (by decide +kernel) (Nat.le_of_ble_eq_true rfl) ?_
  intro p e s m args below meth c ls X hr hlk hP hS hl
  have X : Cx g p s m args c cX7_nextIndex RX7 2 := X
  have hx := X.hx
  have hb := X.hb
  have hl : lv_has ls 2 [(0, .ref (ga g k0)), (1, .ref (ga g k1))] := hl
  have locs : List Loc := []
  unfold f7_nextIndex at h
  refine lv_aload_n hx hb dX7_nextIndex_0 rfl (lv_at hl 1 rfl) ?_
  obtain ⟨q_1, I_2, hc_3, h⟩ := clP_e h
  refine r_callS (As := [.ref (ga g k1)]) [] X (c7_isUnderWay l g hG N _ _ t1 _ _ hc_3) cal_X7_isUnderWay (sc_X7_isUnderWay) k_668 rfl ⟨rfl, rfl⟩ ⟨Nat.le_of_ble_eq_true rfl, Nat.le_of_ble_eq_true rfl⟩ hP hS hl.1 rfl (Nat.le_of_ble_eq_true rfl) dX7_nextIndex_1 ⟨Nat.zero_le _, Nat.zero_le _⟩ (fun H locs hP hS => ?_)
  show W p l e rm7_nextIndex s m args below meth c H locs 0 0 _ (F0 m 4 ls [.int q_1])
  refine lv_if_eq (tgt := 31) hx hb dX7_nextIndex_4 (by decide) (fun c_4 => ?_) (fun c_4 => ?_)
  · replace h := ifp c_4 h
    refine lv_iconst (v := (0 : Int32)) hx hb dX7_nextIndex_31 (by decide +kernel) ?_
    exact r_iret X hr hlk hP hS dX7_nextIndex_32 h
  · replace h := ifn c_4 h
    refine lv_aload_n hx hb dX7_nextIndex_7 rfl (lv_at hl 1 rfl) ?_
    refine lv_bipush (v := (7 : Int32)) hx hb dX7_nextIndex_8 (by decide +kernel) ?_
    refine r_iald (n := 33) X hP t1 (by decide +kernel) (j := 7) (by decide +kernel) dX7_nextIndex_10 ?_
    refine lv_aload_n hx hb dX7_nextIndex_11 rfl (lv_at hl 1 rfl) ?_
    refine lv_bipush (v := (8 : Int32)) hx hb dX7_nextIndex_12 (by decide +kernel) ?_
    refine r_iald (n := 33) X hP t1 (by decide +kernel) (j := 8) (by decide +kernel) dX7_nextIndex_14 ?_
    refine lv_aload_n hx hb dX7_nextIndex_15 rfl (lv_at hl 0 rfl) ?_
    refine lv_aload_n hx hb dX7_nextIndex_16 rfl (lv_at hl 1 rfl) ?_
    refine lv_iconst (v := (0 : Int32)) hx hb dX7_nextIndex_17 (by decide +kernel) ?_
    refine r_iald (n := 33) X hP t1 (by decide +kernel) (j := 0) (by decide +kernel) dX7_nextIndex_18 ?_
    refine lv_aload_n hx hb dX7_nextIndex_19 rfl (lv_at hl 1 rfl) ?_
    refine lv_iconst (v := (1 : Int32)) hx hb dX7_nextIndex_20 (by decide +kernel) ?_
    refine r_iald (n := 33) X hP t1 (by decide +kernel) (j := 1) (by decide +kernel) dX7_nextIndex_21 ?_
    obtain ⟨q_5, I_6, hc_7, h⟩ := clP_e h
    refine r_callV (As := [.int (I_2 k1 0), .int (I_2 k1 1)]) [.int (I_2 k1 8), .int (I_2 k1 7)] X (c7_fullTop l g hG N _ _ _ _ t0 _ _ hc_7) cal_X7_fullTop (im_X7_fullTop) (se_X7_fullTop) k_685 (tag_lt t0 (by decide)) (by rw [lay, t0]; rfl) rfl rfl ⟨rfl, rfl⟩ ⟨Nat.le_of_ble_eq_true rfl, Nat.le_of_ble_eq_true rfl⟩ hP hS hl.1 rfl (Nat.le_of_ble_eq_true rfl) dX7_nextIndex_22 ⟨Nat.zero_le _, Nat.zero_le _⟩ (fun H locs hP hS => ?_)
    show W p l e rm7_nextIndex s m args below meth c H locs 0 0 _ (F0 m 25 ls [.int q_5, .int (I_2 k1 8), .int (I_2 k1 7)])
    obtain ⟨q_8, I_9, hc_10, h⟩ := clP_e h
    refine r_callS (As := [.int (I_2 k1 7), .int (I_2 k1 8), .int q_5]) [] X (c7_indexAfter l g hG N _ _ _ _ _ _ hc_10) cal_X7_indexAfter (sc_X7_indexAfter) k_761 rfl ⟨rfl, rfl⟩ ⟨Nat.le_of_ble_eq_true rfl, Nat.le_of_ble_eq_true rfl⟩ hP hS hl.1 rfl (Nat.le_of_ble_eq_true rfl) dX7_nextIndex_25 ⟨Nat.zero_le _, Nat.zero_le _⟩ (fun H locs hP hS => ?_)
    show W p l e rm7_nextIndex s m args below meth c H locs 0 0 _ (F0 m 28 ls [.int q_8])
    refine lv_goto (tgt := 32) hx hb dX7_nextIndex_28 (by decide) ?_
    exact r_iret X hr hlk hP hS dX7_nextIndex_32 h
abbrev rm7_nextTicks : Room := { frames := 6, cells := 0, slots := 0, locals := 137 }
def f7_nextTicks (N : Nat) (I : Mem) (k0 : Nat) (k1 : Nat) : Option (Int32 × Mem) :=
    letM (I k1 11) (fun x_1 : Int32 =>
    if x_1 ≤ (0 : Int32) then
    clP (f7_nextIndex N I k0 k1) (fun (q_3 : Int32) (I_4 : Mem) =>
    clP (f7_intervalOf N I_4 k0 (I k1 0) (I k1 1) q_3) (fun (q_6 : Int32) (I_7 : Mem) =>
    some (q_6, I_7)))
    else
    some (x_1, I))
set_option maxHeartbeats 4000000 in
set_option maxRecDepth 100000 in
theorem c7_nextTicks (l : Launch) (g : GG) (hG : Apart g NT) (N : Nat) (I : Mem) (k0 : Nat) (k1 : Nat) (t0 : tag k0 = 6) (t1 : tag k1 = 43) (r0 : Int32) (I0 : Mem) (h : f7_nextTicks N I k0 k1 = some (r0, I0)) : Mc l g yX7_nextTicks cX7_nextTicks 3 (some .int) rm7_nextTicks I [.ref (ga g k0), .ref (ga g k1)] (some (.int r0)) I0 := by
  refine Mc.of hG (by decide +kernel) (Nat.le_of_ble_eq_true rfl) ?_
  intro p e s m args below meth c ls X hr hlk hP hS hl
  have X : Cx g p s m args c cX7_nextTicks RX7 3 := X
  have hx := X.hx
  have hb := X.hb
  have hl : lv_has ls 3 [(0, .ref (ga g k0)), (1, .ref (ga g k1))] := hl
  have locs : List Loc := []
  unfold f7_nextTicks at h
  refine lv_aload_n hx hb dX7_nextTicks_0 rfl (lv_at hl 1 rfl) ?_
  refine lv_bipush (v := (11 : Int32)) hx hb dX7_nextTicks_1 (by decide +kernel) ?_
  refine r_iald (n := 33) X hP t1 (by decide +kernel) (j := 11) (by decide +kernel) dX7_nextTicks_3 ?_
  obtain ⟨x_1, ex_1, h⟩ := letM_e h
  refine r_nmi ex_1 ?_
  refine lv_istore_n (lv' := [(2, .int x_1), (0, .ref (ga g k0)), (1, .ref (ga g k1))]) hx hb dX7_nextTicks_4 rfl hl (by decide) rfl (fun ls hl => ?_)
  refine lv_iload_n hx hb dX7_nextTicks_5 rfl (lv_at hl 0 rfl) ?_
  refine lv_if_le (tgt := 13) hx hb dX7_nextTicks_6 (by decide) (fun c_2 => ?_) (fun c_2 => ?_)
  · replace h := ifp c_2 h
    refine lv_aload_n hx hb dX7_nextTicks_13 rfl (lv_at hl 1 rfl) ?_
    refine lv_aload_n hx hb dX7_nextTicks_14 rfl (lv_at hl 2 rfl) ?_
    refine lv_iconst (v := (0 : Int32)) hx hb dX7_nextTicks_15 (by decide +kernel) ?_
    refine r_iald (n := 33) X hP t1 (by decide +kernel) (j := 0) (by decide +kernel) dX7_nextTicks_16 ?_
    refine lv_aload_n hx hb dX7_nextTicks_17 rfl (lv_at hl 2 rfl) ?_
    refine lv_iconst (v := (1 : Int32)) hx hb dX7_nextTicks_18 (by decide +kernel) ?_
    refine r_iald (n := 33) X hP t1 (by decide +kernel) (j := 1) (by decide +kernel) dX7_nextTicks_19 ?_
    refine lv_aload_n hx hb dX7_nextTicks_20 rfl (lv_at hl 1 rfl) ?_
    refine lv_aload_n hx hb dX7_nextTicks_21 rfl (lv_at hl 2 rfl) ?_
    obtain ⟨q_3, I_4, hc_5, h⟩ := clP_e h
    refine r_callV (As := [.ref (ga g k1)]) [.int (I k1 1), .int (I k1 0), .ref (ga g k0)] X (c7_nextIndex l g hG N _ _ _ t0 t1 _ _ hc_5) cal_X7_nextIndex (im_X7_nextIndex) (se_X7_nextIndex) k_757 (tag_lt t0 (by decide)) (by rw [lay, t0]; rfl) rfl rfl ⟨rfl, rfl⟩ ⟨Nat.le_of_ble_eq_true rfl, Nat.le_of_ble_eq_true rfl⟩ hP hS hl.1 rfl (Nat.le_of_ble_eq_true rfl) dX7_nextTicks_22 ⟨Nat.zero_le _, Nat.zero_le _⟩ (fun H locs hP hS => ?_)
    show W p l e rm7_nextTicks s m args below meth c H locs 0 0 _ (F0 m 25 ls [.int q_3, .int (I k1 1), .int (I k1 0), .ref (ga g k0)])
    obtain ⟨q_6, I_7, hc_8, h⟩ := clP_e h
    refine r_callV (As := [.int (I k1 0), .int (I k1 1), .int q_3]) [] X (c7_intervalOf l g hG N _ _ _ _ _ t0 _ _ hc_8) cal_X7_intervalOf (im_X7_intervalOf) (se_X7_intervalOf) k_712 (tag_lt t0 (by decide)) (by rw [lay, t0]; rfl) rfl rfl ⟨rfl, rfl⟩ ⟨Nat.le_of_ble_eq_true rfl, Nat.le_of_ble_eq_true rfl⟩ hP hS hl.1 rfl (Nat.le_of_ble_eq_true rfl) dX7_nextTicks_25 ⟨Nat.zero_le _, Nat.zero_le _⟩ (fun H locs hP hS => ?_)
    show W p l e rm7_nextTicks s m args below meth c H locs 0 0 _ (F0 m 28 ls [.int q_6])
    exact r_iret X hr hlk hP hS dX7_nextTicks_28 h
  · replace h := ifn c_2 h
    refine lv_iload_n hx hb dX7_nextTicks_9 rfl (lv_at hl 0 rfl) ?_
    refine lv_goto (tgt := 28) hx hb dX7_nextTicks_10 (by decide) ?_
    exact r_iret X hr hlk hP hS dX7_nextTicks_28 h
abbrev rm7_gone : Room := { frames := 0, cells := 0, slots := 0, locals := 0 }
def f7_gone (N : Nat) (I : Mem) (a0 : Int32) (a1 : Int32) (a2 : Int32) : Option (Int32 × Mem) :=
    if ((2 : Int32) * a2) = (0 : Int32) then none else
    some ((((((2 : Int32) * a0) * a1) + a2) / ((2 : Int32) * a2)), I)
set_option maxHeartbeats 4000000 in
set_option maxRecDepth 100000 in
theorem c7_gone (l : Launch) (g : GG) (hG : Apart g NT) (N : Nat) (I : Mem) (a0 : Int32) (a1 : Int32) (a2 : Int32) (r0 : Int32) (I0 : Mem) (h : f7_gone N I a0 a1 a2 = some (r0, I0)) : Mc l g yX7_gone cX7_gone 3 (some .int) rm7_gone I [.int a0, .int a1, .int a2] (some (.int r0)) I0 := by
  refine Mc.of hG (by decide +kernel) (Nat.le_of_ble_eq_true rfl) ?_
  intro p e s m args below meth c ls X hr hlk hP hS hl
  have X : Cx g p s m args c cX7_gone RX7 3 := X
  have hx := X.hx
  have hb := X.hb
  have hl : lv_has ls 3 [(0, .int a0), (1, .int a1), (2, .int a2)] := hl
  have locs : List Loc := []
  unfold f7_gone at h
  refine lv_iconst (v := (2 : Int32)) hx hb dX7_gone_0 (by decide +kernel) ?_
  refine lv_iload_n hx hb dX7_gone_1 rfl (lv_at hl 0 rfl) ?_
  refine lv_imul hx hb dX7_gone_2 ?_
  refine lv_iload_n hx hb dX7_gone_3 rfl (lv_at hl 1 rfl) ?_
  refine lv_imul hx hb dX7_gone_4 ?_
  refine lv_iload_n hx hb dX7_gone_5 rfl (lv_at hl 2 rfl) ?_
  refine lv_iadd hx hb dX7_gone_6 ?_
  refine lv_iconst (v := (2 : Int32)) hx hb dX7_gone_7 (by decide +kernel) ?_
  refine lv_iload_n hx hb dX7_gone_8 rfl (lv_at hl 2 rfl) ?_
  refine lv_imul hx hb dX7_gone_9 ?_
  obtain ⟨g_1, h⟩ := gd_e h
  refine lv_idiv hx hb dX7_gone_10 g_1 ?_
  exact r_iret X hr hlk hP hS dX7_gone_11 h
abbrev rm7_stepIn : Room := { frames := 7, cells := 0, slots := 0, locals := 159 }
def f7_stepIn_68 (N : Nat) (k0 : Nat) (k1 : Nat) : Nat → Mem → Int32 → Int32 → Int32 → Option (Int32 × Mem)
  | 0, _, _, _, _ => none
  | cnt+1, I, v2, v3, v5 =>
    if (2 : Int32) ≤ v5 then
    letM (st I k1 6 ((I k1 6) + (1 : Int32))) (fun I_20 : Mem =>
    letM (st I_20 k1 8 ((I_20 k1 8) - (1 : Int32))) (fun I_21 : Mem =>
    if (I_21 k1 8) = (0 : Int32) then
    clM (f7_endMove N I_21 k1) (fun I_24 : Mem =>
    some (v2, I_24))
    else
    some (v2, I_21)))
    else
    if (((9 : Int32) + v5) < (0 : Int32) ∨ 33 ≤ ((9 : Int32) + v5).toNatClampNeg) then none else
    letM (I k1 (((9 : Int32) + v5).toNatClampNeg)) (fun x_27 : Int32 =>
    clP (f7_abs N I x_27) (fun (q_28 : Int32) (I_29 : Mem) =>
    clP (f7_gone N I_29 ((I k1 6) + (1 : Int32)) q_28 v3) (fun (q_31 : Int32) (I_32 : Mem) =>
    clP (f7_abs N I_32 x_27) (fun (q_34 : Int32) (I_35 : Mem) =>
    clP (f7_gone N I_35 (I_32 k1 6) q_34 v3) (fun (q_37 : Int32) (I_38 : Mem) =>
    letM (q_31 - q_37) (fun x_40 : Int32 =>
    letM ((2 : Int32) + v5) (fun x_41 : Int32 =>
    if (x_41 < (0 : Int32) ∨ 33 ≤ x_41.toNatClampNeg) then none else
    if (0 : Int32) ≤ x_27 then
    if (x_41 < (0 : Int32) ∨ 33 ≤ x_41.toNatClampNeg) then none else
    letM (st I_38 k1 (x_41.toNatClampNeg) ((I_38 k1 (x_41.toNatClampNeg)) + x_40)) (fun I_45 : Mem =>
    letM (v5 + (1 : Int32)) (fun x_46 : Int32 =>
    f7_stepIn_68 N k0 k1 cnt I_45 v2 v3 x_46))
    else
    if (x_41 < (0 : Int32) ∨ 33 ≤ x_41.toNatClampNeg) then none else
    letM (st I_38 k1 (x_41.toNatClampNeg) ((I_38 k1 (x_41.toNatClampNeg)) + (-x_40))) (fun I_48 : Mem =>
    letM (v5 + (1 : Int32)) (fun x_49 : Int32 =>
    f7_stepIn_68 N k0 k1 cnt I_48 v2 v3 x_49)))))))))
def f7_stepIn_58 (N : Nat) (k0 : Nat) (k1 : Nat) (I : Mem) (v2 : Int32) (v3 : Int32) (v4 : Int32) (s0 : Int32) (s1 : Int32) : Option (Int32 × Mem) :=
    if (s1 < (0 : Int32) ∨ 33 ≤ s1.toNatClampNeg) then none else
    letM (st I k1 (s1.toNatClampNeg) s0) (fun I_17 : Mem =>
    letM (st I_17 k1 7 v4) (fun I_18 : Mem =>
    f7_stepIn_68 N k0 k1 N I_18 v2 v3 (0 : Int32)))
def f7_stepIn (N : Nat) (I : Mem) (k0 : Nat) (k1 : Nat) : Option (Int32 × Mem) :=
    clP (f7_nextTicks N I k0 k1) (fun (q_1 : Int32) (I_2 : Mem) =>
    letM (st I_2 k1 4 ((I_2 k1 4) + q_1)) (fun I_4 : Mem =>
    if (I_4 k1 11) ≤ (0 : Int32) then
    clP (f7_lengthOf N I_4 k1 (0 : Int32)) (fun (q_6 : Int32) (I_7 : Mem) =>
    clP (f7_nextIndex N I_7 k0 k1) (fun (q_9 : Int32) (I_10 : Mem) =>
    clP (f7_isUnderWay N I_10 k1) (fun (q_12 : Int32) (I_13 : Mem) =>
    if q_12 = (0 : Int32) then
    f7_stepIn_58 N k0 k1 I_13 q_1 q_6 q_9 q_6 (8 : Int32)
    else
    f7_stepIn_58 N k0 k1 I_13 q_1 q_6 q_9 (I_13 k1 8) (8 : Int32))))
    else
    clM (f7_dropItem N I_4 k1 (0 : Int32)) (fun I_51 : Mem =>
    some (q_1, I_51))))
set_option maxHeartbeats 4000000 in
set_option maxRecDepth 100000 in
theorem L7_stepIn_68 (hG : Apart g NT) (N : Nat) (k0 : Nat) (k1 : Nat) (t0 : tag k0 = 6) (t1 : tag k1 = 43) (X : Cx g p s m args c cX7_stepIn RX7 8) (hr : meth.sig.returnType = (some .int)) (hlk : meth.locks = false) (r0 : Int32) (I0 : Mem) : ∀ (cnt : Nat) (I : Mem) (v2 : Int32) (v3 : Int32) (v5 : Int32), f7_stepIn_68 N k0 k1 cnt I v2 v3 v5 = some (r0, I0) → ∀ (H : Heap) (locs : List Loc) (ls : Array Slot), Wp g I H → va_S (gA g) s.heap H locs → lv_has ls 8 [(1, .ref (ga g k1)), (2, .int v2), (3, .int v3), (5, .int v5)] → W p l e rm7_stepIn s m args below meth c H locs 0 0 (MQ below (Qg g (some (.int r0)) I0) args s 0 0 (gA g)) (F0 m 68 ls []) := by
  have hx := X.hx
  have hb := X.hb
  intro cnt
  induction cnt with
  | zero =>
    intro I v2 v3 v5 h
    rw [f7_stepIn_68] at h
    cases h
  | succ cnt ih =>
    intro I v2 v3 v5 h H locs ls hP hS hl
    rw [f7_stepIn_68] at h
    refine lv_iload hx hb dX7_stepIn_68 (lv_at hl 3 rfl) ?_
    refine lv_iconst (v := (2 : Int32)) hx hb dX7_stepIn_70 (by decide +kernel) ?_
    refine lv_icmp_ge (tgt := 142) hx hb dX7_stepIn_71 (by decide) (fun c_19 => ?_) (fun c_19 => ?_)
    · replace h := ifp c_19 h
      refine lv_aload_n hx hb dX7_stepIn_142 rfl (lv_at hl 0 rfl) ?_
      refine lv_bipush (v := (6 : Int32)) hx hb dX7_stepIn_143 (by decide +kernel) ?_
      refine lv_dup2_11 hx hb dX7_stepIn_145 rfl rfl ?_
      refine r_iald (n := 33) X hP t1 (by decide +kernel) (j := 6) (by decide +kernel) dX7_stepIn_146 ?_
      refine lv_iconst (v := (1 : Int32)) hx hb dX7_stepIn_147 (by decide +kernel) ?_
      refine lv_iadd hx hb dX7_stepIn_148 ?_
      obtain ⟨I_20, eI_20, h⟩ := letM_e h
      refine r_iast (n := 33) X hP hS t1 (by decide +kernel) (j := 6) (by decide +kernel) eI_20 dX7_stepIn_149 (fun H locs hP hS => ?_)
      refine lv_aload_n hx hb dX7_stepIn_150 rfl (lv_at hl 0 rfl) ?_
      refine lv_bipush (v := (8 : Int32)) hx hb dX7_stepIn_151 (by decide +kernel) ?_
      refine lv_dup2_11 hx hb dX7_stepIn_153 rfl rfl ?_
      refine r_iald (n := 33) X hP t1 (by decide +kernel) (j := 8) (by decide +kernel) dX7_stepIn_154 ?_
      refine lv_iconst (v := (1 : Int32)) hx hb dX7_stepIn_155 (by decide +kernel) ?_
      refine lv_isub hx hb dX7_stepIn_156 ?_
      obtain ⟨I_21, eI_21, h⟩ := letM_e h
      refine r_iast (n := 33) X hP hS t1 (by decide +kernel) (j := 8) (by decide +kernel) eI_21 dX7_stepIn_157 (fun H locs hP hS => ?_)
      refine lv_aload_n hx hb dX7_stepIn_158 rfl (lv_at hl 0 rfl) ?_
      refine lv_bipush (v := (8 : Int32)) hx hb dX7_stepIn_159 (by decide +kernel) ?_
      refine r_iald (n := 33) X hP t1 (by decide +kernel) (j := 8) (by decide +kernel) dX7_stepIn_161 ?_
      refine lv_if_ne (tgt := 169) hx hb dX7_stepIn_162 (by decide) (fun c_22 => ?_) (fun c_22 => ?_)
      · replace h := ifn c_22 h
        refine lv_iload_n hx hb dX7_stepIn_169 rfl (lv_at hl 1 rfl) ?_
        exact r_iret X hr hlk hP hS dX7_stepIn_170 h
      · replace h := ifp c_22 h
        refine lv_aload_n hx hb dX7_stepIn_165 rfl (lv_at hl 0 rfl) ?_
        obtain ⟨I_24, hc_25, h⟩ := clM_e h
        refine r_callS (As := [.ref (ga g k1)]) [] X (c7_endMove l g hG N _ _ t1 _ hc_25) cal_X7_endMove (sc_X7_endMove) k_770 rfl ⟨rfl, rfl⟩ ⟨Nat.le_of_ble_eq_true rfl, Nat.le_of_ble_eq_true rfl⟩ hP hS hl.1 rfl (Nat.le_of_ble_eq_true rfl) dX7_stepIn_166 ⟨Nat.zero_le _, Nat.zero_le _⟩ (fun H locs hP hS => ?_)
        show W p l e rm7_stepIn s m args below meth c H locs 0 0 _ (F0 m 169 ls [])
        refine lv_iload_n hx hb dX7_stepIn_169 rfl (lv_at hl 1 rfl) ?_
        exact r_iret X hr hlk hP hS dX7_stepIn_170 h
    · replace h := ifn c_19 h
      refine lv_aload_n hx hb dX7_stepIn_74 rfl (lv_at hl 0 rfl) ?_
      refine lv_bipush (v := (9 : Int32)) hx hb dX7_stepIn_75 (by decide +kernel) ?_
      refine lv_iload hx hb dX7_stepIn_77 (lv_at hl 3 rfl) ?_
      refine lv_iadd hx hb dX7_stepIn_79 ?_
      obtain ⟨g_26, h⟩ := gd_e h
      refine r_iald (n := 33) X hP t1 g_26 (j := ((9 : Int32) + v5).toNatClampNeg) rfl dX7_stepIn_80 ?_
      obtain ⟨x_27, ex_27, h⟩ := letM_e h
      refine r_nmi ex_27 ?_
      refine lv_istore (lv' := [(6, .int x_27), (1, .ref (ga g k1)), (2, .int v2), (3, .int v3), (5, .int v5)]) hx hb dX7_stepIn_81 hl (by decide) rfl (fun ls hl => ?_)
      refine lv_aload_n hx hb dX7_stepIn_83 rfl (lv_at hl 1 rfl) ?_
      refine lv_bipush (v := (6 : Int32)) hx hb dX7_stepIn_84 (by decide +kernel) ?_
      refine r_iald (n := 33) X hP t1 (by decide +kernel) (j := 6) (by decide +kernel) dX7_stepIn_86 ?_
      refine lv_iconst (v := (1 : Int32)) hx hb dX7_stepIn_87 (by decide +kernel) ?_
      refine lv_iadd hx hb dX7_stepIn_88 ?_
      refine lv_iload hx hb dX7_stepIn_89 (lv_at hl 0 rfl) ?_
      obtain ⟨q_28, I_29, hc_30, h⟩ := clP_e h
      refine r_callS (As := [.int x_27]) [.int ((I k1 6) + (1 : Int32))] X (c7_abs l g hG N _ _ _ _ hc_30) cal_X7_abs (sc_X7_abs) k_674 rfl ⟨rfl, rfl⟩ ⟨Nat.le_of_ble_eq_true rfl, Nat.le_of_ble_eq_true rfl⟩ hP hS hl.1 rfl (Nat.le_of_ble_eq_true rfl) dX7_stepIn_91 ⟨Nat.zero_le _, Nat.zero_le _⟩ (fun H locs hP hS => ?_)
      show W p l e rm7_stepIn s m args below meth c H locs 0 0 _ (F0 m 94 ls [.int q_28, .int ((I k1 6) + (1 : Int32))])
      refine lv_iload_n hx hb dX7_stepIn_94 rfl (lv_at hl 3 rfl) ?_
      obtain ⟨q_31, I_32, hc_33, h⟩ := clP_e h
      refine r_callS (As := [.int ((I k1 6) + (1 : Int32)), .int q_28, .int v3]) [] X (c7_gone l g hG N _ _ _ _ _ _ hc_33) cal_X7_gone (sc_X7_gone) k_767 rfl ⟨rfl, rfl⟩ ⟨Nat.le_of_ble_eq_true rfl, Nat.le_of_ble_eq_true rfl⟩ hP hS hl.1 rfl (Nat.le_of_ble_eq_true rfl) dX7_stepIn_95 ⟨Nat.zero_le _, Nat.zero_le _⟩ (fun H locs hP hS => ?_)
      show W p l e rm7_stepIn s m args below meth c H locs 0 0 _ (F0 m 98 ls [.int q_31])
      refine lv_aload_n hx hb dX7_stepIn_98 rfl (lv_at hl 1 rfl) ?_
      refine lv_bipush (v := (6 : Int32)) hx hb dX7_stepIn_99 (by decide +kernel) ?_
      refine r_iald (n := 33) X hP t1 (by decide +kernel) (j := 6) (by decide +kernel) dX7_stepIn_101 ?_
      refine lv_iload hx hb dX7_stepIn_102 (lv_at hl 0 rfl) ?_
      obtain ⟨q_34, I_35, hc_36, h⟩ := clP_e h
      refine r_callS (As := [.int x_27]) [.int (I_32 k1 6), .int q_31] X (c7_abs l g hG N _ _ _ _ hc_36) cal_X7_abs (sc_X7_abs) k_674 rfl ⟨rfl, rfl⟩ ⟨Nat.le_of_ble_eq_true rfl, Nat.le_of_ble_eq_true rfl⟩ hP hS hl.1 rfl (Nat.le_of_ble_eq_true rfl) dX7_stepIn_104 ⟨Nat.zero_le _, Nat.zero_le _⟩ (fun H locs hP hS => ?_)
      show W p l e rm7_stepIn s m args below meth c H locs 0 0 _ (F0 m 107 ls [.int q_34, .int (I_32 k1 6), .int q_31])
      refine lv_iload_n hx hb dX7_stepIn_107 rfl (lv_at hl 3 rfl) ?_
      obtain ⟨q_37, I_38, hc_39, h⟩ := clP_e h
      refine r_callS (As := [.int (I_32 k1 6), .int q_34, .int v3]) [.int q_31] X (c7_gone l g hG N _ _ _ _ _ _ hc_39) cal_X7_gone (sc_X7_gone) k_767 rfl ⟨rfl, rfl⟩ ⟨Nat.le_of_ble_eq_true rfl, Nat.le_of_ble_eq_true rfl⟩ hP hS hl.1 rfl (Nat.le_of_ble_eq_true rfl) dX7_stepIn_108 ⟨Nat.zero_le _, Nat.zero_le _⟩ (fun H locs hP hS => ?_)
      show W p l e rm7_stepIn s m args below meth c H locs 0 0 _ (F0 m 111 ls [.int q_37, .int q_31])
      refine lv_isub hx hb dX7_stepIn_111 ?_
      obtain ⟨x_40, ex_40, h⟩ := letM_e h
      refine r_nmi ex_40 ?_
      refine lv_istore (lv' := [(7, .int x_40), (6, .int x_27), (1, .ref (ga g k1)), (2, .int v2), (3, .int v3), (5, .int v5)]) hx hb dX7_stepIn_112 hl (by decide) rfl (fun ls hl => ?_)
      refine lv_aload_n hx hb dX7_stepIn_114 rfl (lv_at hl 2 rfl) ?_
      refine lv_iconst (v := (2 : Int32)) hx hb dX7_stepIn_115 (by decide +kernel) ?_
      refine lv_iload hx hb dX7_stepIn_116 (lv_at hl 5 rfl) ?_
      refine lv_iadd hx hb dX7_stepIn_118 ?_
      obtain ⟨x_41, ex_41, h⟩ := letM_e h
      refine r_nmi ex_41 ?_
      refine lv_dup2_11 hx hb dX7_stepIn_119 rfl rfl ?_
      obtain ⟨g_42, h⟩ := gd_e h
      refine r_iald (n := 33) X hP t1 g_42 (j := x_41.toNatClampNeg) rfl dX7_stepIn_120 ?_
      refine lv_iload hx hb dX7_stepIn_121 (lv_at hl 1 rfl) ?_
      refine lv_if_ge (tgt := 132) hx hb dX7_stepIn_123 (by decide) (fun c_43 => ?_) (fun c_43 => ?_)
      · replace h := ifp c_43 h
        refine lv_iload hx hb dX7_stepIn_132 (lv_at hl 0 rfl) ?_
        refine lv_iadd hx hb dX7_stepIn_134 ?_
        obtain ⟨g_44, h⟩ := gd_e h
        obtain ⟨I_45, eI_45, h⟩ := letM_e h
        refine r_iast (n := 33) X hP hS t1 g_44 (j := x_41.toNatClampNeg) rfl eI_45 dX7_stepIn_135 (fun H locs hP hS => ?_)
        obtain ⟨x_46, ex_46, h⟩ := letM_e h
        refine lv_iinc (v := x_46) (lv' := [(5, .int x_46), (7, .int x_40), (6, .int x_27), (1, .ref (ga g k1)), (2, .int v2), (3, .int v3)]) hx hb dX7_stepIn_136 hl (k := 5) rfl (by rw [ex_46]; rfl) (by decide) rfl (fun ls hl => ?_)
        refine lv_goto (tgt := 68) hx hb dX7_stepIn_139 (by decide) ?_
        exact ih I_45 v2 v3 x_46 h _ _ _ hP hS (lv_sub hl [3, 4, 5, 0] rfl)
      · replace h := ifn c_43 h
        refine lv_iload hx hb dX7_stepIn_126 (lv_at hl 0 rfl) ?_
        refine lv_ineg hx hb dX7_stepIn_128 ?_
        refine lv_goto (tgt := 134) hx hb dX7_stepIn_129 (by decide) ?_
        refine lv_iadd hx hb dX7_stepIn_134 ?_
        obtain ⟨g_47, h⟩ := gd_e h
        obtain ⟨I_48, eI_48, h⟩ := letM_e h
        refine r_iast (n := 33) X hP hS t1 g_47 (j := x_41.toNatClampNeg) rfl eI_48 dX7_stepIn_135 (fun H locs hP hS => ?_)
        obtain ⟨x_49, ex_49, h⟩ := letM_e h
        refine lv_iinc (v := x_49) (lv' := [(5, .int x_49), (7, .int x_40), (6, .int x_27), (1, .ref (ga g k1)), (2, .int v2), (3, .int v3)]) hx hb dX7_stepIn_136 hl (k := 5) rfl (by rw [ex_49]; rfl) (by decide) rfl (fun ls hl => ?_)
        refine lv_goto (tgt := 68) hx hb dX7_stepIn_139 (by decide) ?_
        exact ih I_48 v2 v3 x_49 h _ _ _ hP hS (lv_sub hl [3, 4, 5, 0] rfl)
set_option maxHeartbeats 4000000 in
set_option maxRecDepth 100000 in
theorem L7_stepIn_58 (hG : Apart g NT) (N : Nat) (k0 : Nat) (k1 : Nat) (t0 : tag k0 = 6) (t1 : tag k1 = 43) (X : Cx g p s m args c cX7_stepIn RX7 8) (hr : meth.sig.returnType = (some .int)) (hlk : meth.locks = false) (r0 : Int32) (I0 : Mem) : ∀ (I : Mem) (v2 : Int32) (v3 : Int32) (v4 : Int32) (s0 : Int32) (s1 : Int32), f7_stepIn_58 N k0 k1 I v2 v3 v4 s0 s1 = some (r0, I0) → ∀ (H : Heap) (locs : List Loc) (ls : Array Slot), Wp g I H → va_S (gA g) s.heap H locs → lv_has ls 8 [(1, .ref (ga g k1)), (2, .int v2), (3, .int v3), (4, .int v4)] → W p l e rm7_stepIn s m args below meth c H locs 0 0 (MQ below (Qg g (some (.int r0)) I0) args s 0 0 (gA g)) (F0 m 58 ls [.int s0, .int s1, .ref (ga g k1)]) := by
  have hx := X.hx
  have hb := X.hb
  intro I v2 v3 v4 s0 s1 h H locs ls hP hS hl
  unfold f7_stepIn_58 at h
  obtain ⟨g_16, h⟩ := gd_e h
  obtain ⟨I_17, eI_17, h⟩ := letM_e h
  refine r_iast (n := 33) X hP hS t1 g_16 (j := s1.toNatClampNeg) rfl eI_17 dX7_stepIn_58 (fun H locs hP hS => ?_)
  refine lv_aload_n hx hb dX7_stepIn_59 rfl (lv_at hl 0 rfl) ?_
  refine lv_bipush (v := (7 : Int32)) hx hb dX7_stepIn_60 (by decide +kernel) ?_
  refine lv_iload hx hb dX7_stepIn_62 (lv_at hl 3 rfl) ?_
  obtain ⟨I_18, eI_18, h⟩ := letM_e h
  refine r_iast (n := 33) X hP hS t1 (by decide +kernel) (j := 7) (by decide +kernel) eI_18 dX7_stepIn_64 (fun H locs hP hS => ?_)
  refine lv_iconst (v := (0 : Int32)) hx hb dX7_stepIn_65 (by decide +kernel) ?_
  refine lv_istore (lv' := [(5, .int (0 : Int32)), (1, .ref (ga g k1)), (2, .int v2), (3, .int v3), (4, .int v4)]) hx hb dX7_stepIn_66 hl (by decide) rfl (fun ls hl => ?_)
  exact L7_stepIn_68 hG N k0 k1 t0 t1 X hr hlk r0 I0 N I_18 v2 v3 (0 : Int32) h _ _ _ hP hS (lv_sub hl [1, 2, 3, 0] rfl)
set_option maxHeartbeats 4000000 in
set_option maxRecDepth 100000 in
theorem c7_stepIn (l : Launch) (g : GG) (hG : Apart g NT) (N : Nat) (I : Mem) (k0 : Nat) (k1 : Nat) (t0 : tag k0 = 6) (t1 : tag k1 = 43) (r0 : Int32) (I0 : Mem) (h : f7_stepIn N I k0 k1 = some (r0, I0)) : Mc l g yX7_stepIn cX7_stepIn 8 (some .int) rm7_stepIn I [.ref (ga g k0), .ref (ga g k1)] (some (.int r0)) I0 := by
  refine Mc.of hG (by decide +kernel) (Nat.le_of_ble_eq_true rfl) ?_
  intro p e s m args below meth c ls X hr hlk hP hS hl
  have X : Cx g p s m args c cX7_stepIn RX7 8 := X
  have hx := X.hx
  have hb := X.hb
  have hl : lv_has ls 8 [(0, .ref (ga g k0)), (1, .ref (ga g k1))] := hl
  have locs : List Loc := []
  unfold f7_stepIn at h
  refine lv_aload_n hx hb dX7_stepIn_0 rfl (lv_at hl 0 rfl) ?_
  refine lv_aload_n hx hb dX7_stepIn_1 rfl (lv_at hl 1 rfl) ?_
  obtain ⟨q_1, I_2, hc_3, h⟩ := clP_e h
  refine r_callV (As := [.ref (ga g k1)]) [] X (c7_nextTicks l g hG N _ _ _ t0 t1 _ _ hc_3) cal_X7_nextTicks (im_X7_nextTicks) (se_X7_nextTicks) k_753 (tag_lt t0 (by decide)) (by rw [lay, t0]; rfl) rfl rfl ⟨rfl, rfl⟩ ⟨Nat.le_of_ble_eq_true rfl, Nat.le_of_ble_eq_true rfl⟩ hP hS hl.1 rfl (Nat.le_of_ble_eq_true rfl) dX7_stepIn_2 ⟨Nat.zero_le _, Nat.zero_le _⟩ (fun H locs hP hS => ?_)
  show W p l e rm7_stepIn s m args below meth c H locs 0 0 _ (F0 m 5 ls [.int q_1])
  refine lv_istore_n (lv' := [(2, .int q_1), (0, .ref (ga g k0)), (1, .ref (ga g k1))]) hx hb dX7_stepIn_5 rfl hl (by decide) rfl (fun ls hl => ?_)
  refine lv_aload_n hx hb dX7_stepIn_6 rfl (lv_at hl 2 rfl) ?_
  refine lv_iconst (v := (4 : Int32)) hx hb dX7_stepIn_7 (by decide +kernel) ?_
  refine lv_dup2_11 hx hb dX7_stepIn_8 rfl rfl ?_
  refine r_iald (n := 33) X hP t1 (by decide +kernel) (j := 4) (by decide +kernel) dX7_stepIn_9 ?_
  refine lv_iload_n hx hb dX7_stepIn_10 rfl (lv_at hl 0 rfl) ?_
  refine lv_iadd hx hb dX7_stepIn_11 ?_
  obtain ⟨I_4, eI_4, h⟩ := letM_e h
  refine r_iast (n := 33) X hP hS t1 (by decide +kernel) (j := 4) (by decide +kernel) eI_4 dX7_stepIn_12 (fun H locs hP hS => ?_)
  refine lv_aload_n hx hb dX7_stepIn_13 rfl (lv_at hl 2 rfl) ?_
  refine lv_bipush (v := (11 : Int32)) hx hb dX7_stepIn_14 (by decide +kernel) ?_
  refine r_iald (n := 33) X hP t1 (by decide +kernel) (j := 11) (by decide +kernel) dX7_stepIn_16 ?_
  refine lv_if_le (tgt := 27) hx hb dX7_stepIn_17 (by decide) (fun c_5 => ?_) (fun c_5 => ?_)
  · replace h := ifp c_5 h
    refine lv_aload_n hx hb dX7_stepIn_27 rfl (lv_at hl 2 rfl) ?_
    refine lv_iconst (v := (0 : Int32)) hx hb dX7_stepIn_28 (by decide +kernel) ?_
    obtain ⟨q_6, I_7, hc_8, h⟩ := clP_e h
    refine r_callS (As := [.ref (ga g k1), .int (0 : Int32)]) [] X (c7_lengthOf l g hG N _ _ _ t1 _ _ hc_8) cal_X7_lengthOf (sc_X7_lengthOf) k_671 rfl ⟨rfl, rfl⟩ ⟨Nat.le_of_ble_eq_true rfl, Nat.le_of_ble_eq_true rfl⟩ hP hS hl.1 rfl (Nat.le_of_ble_eq_true rfl) dX7_stepIn_29 ⟨Nat.zero_le _, Nat.zero_le _⟩ (fun H locs hP hS => ?_)
    show W p l e rm7_stepIn s m args below meth c H locs 0 0 _ (F0 m 32 ls [.int q_6])
    refine lv_istore_n (lv' := [(3, .int q_6), (2, .int q_1), (0, .ref (ga g k0)), (1, .ref (ga g k1))]) hx hb dX7_stepIn_32 rfl hl (by decide) rfl (fun ls hl => ?_)
    refine lv_aload_n hx hb dX7_stepIn_33 rfl (lv_at hl 2 rfl) ?_
    refine lv_aload_n hx hb dX7_stepIn_34 rfl (lv_at hl 3 rfl) ?_
    obtain ⟨q_9, I_10, hc_11, h⟩ := clP_e h
    refine r_callV (As := [.ref (ga g k1)]) [] X (c7_nextIndex l g hG N _ _ _ t0 t1 _ _ hc_11) cal_X7_nextIndex (im_X7_nextIndex) (se_X7_nextIndex) k_757 (tag_lt t0 (by decide)) (by rw [lay, t0]; rfl) rfl rfl ⟨rfl, rfl⟩ ⟨Nat.le_of_ble_eq_true rfl, Nat.le_of_ble_eq_true rfl⟩ hP hS hl.1 rfl (Nat.le_of_ble_eq_true rfl) dX7_stepIn_35 ⟨Nat.zero_le _, Nat.zero_le _⟩ (fun H locs hP hS => ?_)
    show W p l e rm7_stepIn s m args below meth c H locs 0 0 _ (F0 m 38 ls [.int q_9])
    refine lv_istore (lv' := [(4, .int q_9), (3, .int q_6), (2, .int q_1), (0, .ref (ga g k0)), (1, .ref (ga g k1))]) hx hb dX7_stepIn_38 hl (by decide) rfl (fun ls hl => ?_)
    refine lv_aload_n hx hb dX7_stepIn_40 rfl (lv_at hl 4 rfl) ?_
    refine lv_bipush (v := (8 : Int32)) hx hb dX7_stepIn_41 (by decide +kernel) ?_
    refine lv_aload_n hx hb dX7_stepIn_43 rfl (lv_at hl 4 rfl) ?_
    obtain ⟨q_12, I_13, hc_14, h⟩ := clP_e h
    refine r_callS (As := [.ref (ga g k1)]) [.int (8 : Int32), .ref (ga g k1)] X (c7_isUnderWay l g hG N _ _ t1 _ _ hc_14) cal_X7_isUnderWay (sc_X7_isUnderWay) k_668 rfl ⟨rfl, rfl⟩ ⟨Nat.le_of_ble_eq_true rfl, Nat.le_of_ble_eq_true rfl⟩ hP hS hl.1 rfl (Nat.le_of_ble_eq_true rfl) dX7_stepIn_44 ⟨Nat.zero_le _, Nat.zero_le _⟩ (fun H locs hP hS => ?_)
    show W p l e rm7_stepIn s m args below meth c H locs 0 0 _ (F0 m 47 ls [.int q_12, .int (8 : Int32), .ref (ga g k1)])
    refine lv_if_eq (tgt := 57) hx hb dX7_stepIn_47 (by decide) (fun c_15 => ?_) (fun c_15 => ?_)
    · replace h := ifp c_15 h
      refine lv_iload_n hx hb dX7_stepIn_57 rfl (lv_at hl 1 rfl) ?_
      exact L7_stepIn_58 hG N k0 k1 t0 t1 X hr hlk r0 I0 I_13 q_1 q_6 q_9 q_6 (8 : Int32) h _ _ _ hP hS (lv_sub hl [4, 2, 1, 0] rfl)
    · replace h := ifn c_15 h
      refine lv_aload_n hx hb dX7_stepIn_50 rfl (lv_at hl 4 rfl) ?_
      refine lv_bipush (v := (8 : Int32)) hx hb dX7_stepIn_51 (by decide +kernel) ?_
      refine r_iald (n := 33) X hP t1 (by decide +kernel) (j := 8) (by decide +kernel) dX7_stepIn_53 ?_
      refine lv_goto (tgt := 58) hx hb dX7_stepIn_54 (by decide) ?_
      exact L7_stepIn_58 hG N k0 k1 t0 t1 X hr hlk r0 I0 I_13 q_1 q_6 q_9 (I_13 k1 8) (8 : Int32) h _ _ _ hP hS (lv_sub hl [4, 2, 1, 0] rfl)
  · replace h := ifn c_5 h
    refine lv_aload_n hx hb dX7_stepIn_20 rfl (lv_at hl 2 rfl) ?_
    refine lv_iconst (v := (0 : Int32)) hx hb dX7_stepIn_21 (by decide +kernel) ?_
    obtain ⟨I_51, hc_52, h⟩ := clM_e h
    refine r_callS (As := [.ref (ga g k1), .int (0 : Int32)]) [] X (c7_dropItem l g hG N _ _ _ t1 _ hc_52) cal_X7_dropItem (sc_X7_dropItem) k_764 rfl ⟨rfl, rfl⟩ ⟨Nat.le_of_ble_eq_true rfl, Nat.le_of_ble_eq_true rfl⟩ hP hS hl.1 rfl (Nat.le_of_ble_eq_true rfl) dX7_stepIn_22 ⟨Nat.zero_le _, Nat.zero_le _⟩ (fun H locs hP hS => ?_)
    show W p l e rm7_stepIn s m args below meth c H locs 0 0 _ (F0 m 25 ls [])
    refine lv_iload_n hx hb dX7_stepIn_25 rfl (lv_at hl 0 rfl) ?_
    exact r_iret X hr hlk hP hS dX7_stepIn_26 h
abbrev rm7_step : Room := { frames := 8, cells := 0, slots := 0, locals := 186 }
def f7_step (N : Nat) (I : Mem) (k0 : Nat) : Option (Int32 × Mem) :=
    if (I (k0 + 2) 5) = (0 : Int32) then
    some ((-3 : Int32), I)
    else
    clM (f7_note N I k0) (fun I_3 : Mem =>
    clP (f7_stepIn N I_3 k0 (k0 + 2)) (fun (q_5 : Int32) (I_6 : Mem) =>
    some (q_5, I_6)))
set_option maxHeartbeats 4000000 in
set_option maxRecDepth 100000 in
theorem c7_step (l : Launch) (g : GG) (hG : Apart g NT) (N : Nat) (I : Mem) (k0 : Nat) (t0 : tag k0 = 6) (r0 : Int32) (I0 : Mem) (h : f7_step N I k0 = some (r0, I0)) : Mc l g yX7_step cX7_step 1 (some .int) rm7_step I [.ref (ga g k0)] (some (.int r0)) I0 := by
  refine Mc.of hG (by decide +kernel) (Nat.le_of_ble_eq_true rfl) ?_
  intro p e s m args below meth c ls X hr hlk hP hS hl
  have X : Cx g p s m args c cX7_step RX7 1 := X
  have hx := X.hx
  have hb := X.hb
  have hl : lv_has ls 1 [(0, .ref (ga g k0))] := hl
  have locs : List Loc := []
  unfold f7_step at h
  refine lv_aload_n hx hb dX7_step_0 rfl (lv_at hl 0 rfl) ?_
  refine g7_3 X hP t0 k_554 dX7_step_1 ?_
  refine lv_iconst (v := (5 : Int32)) hx hb dX7_step_4 (by decide +kernel) ?_
  refine r_iald (n := 33) X hP (g7_3_t t0) (by decide +kernel) (j := 5) (by decide +kernel) dX7_step_5 ?_
  refine lv_if_ne (tgt := 12) hx hb dX7_step_6 (by decide) (fun c_1 => ?_) (fun c_1 => ?_)
  · replace h := ifn c_1 h
    refine lv_aload_n hx hb dX7_step_12 rfl (lv_at hl 0 rfl) ?_
    obtain ⟨I_3, hc_4, h⟩ := clM_e h
    refine r_callV (As := []) [] X (c7_note l g hG N _ _ t0 _ hc_4) cal_X7_note (im_X7_note) (se_X7_note) k_724 (tag_lt t0 (by decide)) (by rw [lay, t0]; rfl) rfl rfl ⟨rfl, rfl⟩ ⟨Nat.le_of_ble_eq_true rfl, Nat.le_of_ble_eq_true rfl⟩ hP hS hl.1 rfl (Nat.le_of_ble_eq_true rfl) dX7_step_13 ⟨Nat.zero_le _, Nat.zero_le _⟩ (fun H locs hP hS => ?_)
    show W p l e rm7_step s m args below meth c H locs 0 0 _ (F0 m 16 ls [])
    refine lv_aload_n hx hb dX7_step_16 rfl (lv_at hl 0 rfl) ?_
    refine lv_aload_n hx hb dX7_step_17 rfl (lv_at hl 0 rfl) ?_
    refine g7_3 X hP t0 k_554 dX7_step_18 ?_
    obtain ⟨q_5, I_6, hc_7, h⟩ := clP_e h
    refine r_callV (As := [.ref (ga g (k0 + 2))]) [] X (c7_stepIn l g hG N _ _ _ t0 (g7_3_t t0) _ _ hc_7) cal_X7_stepIn (im_X7_stepIn) (se_X7_stepIn) k_749 (tag_lt t0 (by decide)) (by rw [lay, t0]; rfl) rfl rfl ⟨rfl, rfl⟩ ⟨Nat.le_of_ble_eq_true rfl, Nat.le_of_ble_eq_true rfl⟩ hP hS hl.1 rfl (Nat.le_of_ble_eq_true rfl) dX7_step_21 ⟨Nat.zero_le _, Nat.zero_le _⟩ (fun H locs hP hS => ?_)
    show W p l e rm7_step s m args below meth c H locs 0 0 _ (F0 m 24 ls [.int q_5])
    exact r_iret X hr hlk hP hS dX7_step_24 h
  · replace h := ifp c_1 h
    refine lv_bipush (v := (-3 : Int32)) hx hb dX7_step_9 (by decide +kernel) ?_
    exact r_iret X hr hlk hP hS dX7_step_11 h
abbrev rm7_runIn : Room := { frames := 8, cells := 0, slots := 0, locals := 186 }
def f7_runIn_5 (N : Nat) (k0 : Nat) (k1 : Nat) (a2 : Int32) : Nat → Mem → Int32 → Int32 → Option (Int32 × Mem)
  | 0, _, _, _ => none
  | cnt+1, I, v3, v4 =>
    if (I k1 5) ≤ (0 : Int32) then
    some (v3, I)
    else
    clP (f7_nextTicks N I k0 k1) (fun (q_2 : Int32) (I_3 : Mem) =>
    if v4 < q_2 then
    some (v3, I_3)
    else
    clP (f7_stepIn N I_3 k0 k1) (fun (q_6 : Int32) (I_7 : Mem) =>
    letM (v4 - q_6) (fun x_9 : Int32 =>
    letM (v3 + (1 : Int32)) (fun x_10 : Int32 =>
    f7_runIn_5 N k0 k1 a2 cnt I_7 x_10 x_9))))
def f7_runIn (N : Nat) (I : Mem) (k0 : Nat) (k1 : Nat) (a2 : Int32) : Option (Int32 × Mem) :=
    f7_runIn_5 N k0 k1 a2 N I (0 : Int32) a2
set_option maxHeartbeats 4000000 in
set_option maxRecDepth 100000 in
theorem L7_runIn_5 (hG : Apart g NT) (N : Nat) (k0 : Nat) (k1 : Nat) (a2 : Int32) (t0 : tag k0 = 6) (t1 : tag k1 = 43) (X : Cx g p s m args c cX7_runIn RX7 5) (hr : meth.sig.returnType = (some .int)) (hlk : meth.locks = false) (r0 : Int32) (I0 : Mem) : ∀ (cnt : Nat) (I : Mem) (v3 : Int32) (v4 : Int32), f7_runIn_5 N k0 k1 a2 cnt I v3 v4 = some (r0, I0) → ∀ (H : Heap) (locs : List Loc) (ls : Array Slot), Wp g I H → va_S (gA g) s.heap H locs → lv_has ls 5 [(0, .ref (ga g k0)), (1, .ref (ga g k1)), (3, .int v3), (4, .int v4)] → W p l e rm7_runIn s m args below meth c H locs 0 0 (MQ below (Qg g (some (.int r0)) I0) args s 0 0 (gA g)) (F0 m 5 ls []) := by
  have hx := X.hx
  have hb := X.hb
  intro cnt
  induction cnt with
  | zero =>
    intro I v3 v4 h
    rw [f7_runIn_5] at h
    cases h
  | succ cnt ih =>
    intro I v3 v4 h H locs ls hP hS hl
    rw [f7_runIn_5] at h
    refine lv_aload_n hx hb dX7_runIn_5 rfl (lv_at hl 1 rfl) ?_
    refine lv_iconst (v := (5 : Int32)) hx hb dX7_runIn_6 (by decide +kernel) ?_
    refine r_iald (n := 33) X hP t1 (by decide +kernel) (j := 5) (by decide +kernel) dX7_runIn_7 ?_
    refine lv_if_le (tgt := 37) hx hb dX7_runIn_8 (by decide) (fun c_1 => ?_) (fun c_1 => ?_)
    · replace h := ifp c_1 h
      refine lv_iload_n hx hb dX7_runIn_37 rfl (lv_at hl 2 rfl) ?_
      exact r_iret X hr hlk hP hS dX7_runIn_38 h
    · replace h := ifn c_1 h
      refine lv_aload_n hx hb dX7_runIn_11 rfl (lv_at hl 0 rfl) ?_
      refine lv_aload_n hx hb dX7_runIn_12 rfl (lv_at hl 1 rfl) ?_
      obtain ⟨q_2, I_3, hc_4, h⟩ := clP_e h
      refine r_callV (As := [.ref (ga g k1)]) [] X (c7_nextTicks l g hG N _ _ _ t0 t1 _ _ hc_4) cal_X7_nextTicks (im_X7_nextTicks) (se_X7_nextTicks) k_753 (tag_lt t0 (by decide)) (by rw [lay, t0]; rfl) rfl rfl ⟨rfl, rfl⟩ ⟨Nat.le_of_ble_eq_true rfl, Nat.le_of_ble_eq_true rfl⟩ hP hS hl.1 rfl (Nat.le_of_ble_eq_true rfl) dX7_runIn_13 ⟨Nat.zero_le _, Nat.zero_le _⟩ (fun H locs hP hS => ?_)
      show W p l e rm7_runIn s m args below meth c H locs 0 0 _ (F0 m 16 ls [.int q_2])
      refine lv_iload hx hb dX7_runIn_16 (lv_at hl 3 rfl) ?_
      refine lv_icmp_gt (tgt := 37) hx hb dX7_runIn_18 (by decide) (fun c_5 => ?_) (fun c_5 => ?_)
      · replace h := ifp c_5 h
        refine lv_iload_n hx hb dX7_runIn_37 rfl (lv_at hl 2 rfl) ?_
        exact r_iret X hr hlk hP hS dX7_runIn_38 h
      · replace h := ifn c_5 h
        refine lv_iload hx hb dX7_runIn_21 (lv_at hl 3 rfl) ?_
        refine lv_aload_n hx hb dX7_runIn_23 rfl (lv_at hl 0 rfl) ?_
        refine lv_aload_n hx hb dX7_runIn_24 rfl (lv_at hl 1 rfl) ?_
        obtain ⟨q_6, I_7, hc_8, h⟩ := clP_e h
        refine r_callV (As := [.ref (ga g k1)]) [.int v4] X (c7_stepIn l g hG N _ _ _ t0 t1 _ _ hc_8) cal_X7_stepIn (im_X7_stepIn) (se_X7_stepIn) k_749 (tag_lt t0 (by decide)) (by rw [lay, t0]; rfl) rfl rfl ⟨rfl, rfl⟩ ⟨Nat.le_of_ble_eq_true rfl, Nat.le_of_ble_eq_true rfl⟩ hP hS hl.1 rfl (Nat.le_of_ble_eq_true rfl) dX7_runIn_25 ⟨Nat.zero_le _, Nat.zero_le _⟩ (fun H locs hP hS => ?_)
        show W p l e rm7_runIn s m args below meth c H locs 0 0 _ (F0 m 28 ls [.int q_6, .int v4])
        refine lv_isub hx hb dX7_runIn_28 ?_
        obtain ⟨x_9, ex_9, h⟩ := letM_e h
        refine r_nmi ex_9 ?_
        refine lv_istore (lv' := [(4, .int x_9), (0, .ref (ga g k0)), (1, .ref (ga g k1)), (3, .int v3)]) hx hb dX7_runIn_29 hl (by decide) rfl (fun ls hl => ?_)
        obtain ⟨x_10, ex_10, h⟩ := letM_e h
        refine lv_iinc (v := x_10) (lv' := [(3, .int x_10), (4, .int x_9), (0, .ref (ga g k0)), (1, .ref (ga g k1))]) hx hb dX7_runIn_31 hl (k := 3) rfl (by rw [ex_10]; rfl) (by decide) rfl (fun ls hl => ?_)
        refine lv_goto (tgt := 5) hx hb dX7_runIn_34 (by decide) ?_
        exact ih I_7 x_10 x_9 h _ _ _ hP hS (lv_sub hl [2, 3, 0, 1] rfl)
set_option maxHeartbeats 4000000 in
set_option maxRecDepth 100000 in
theorem c7_runIn (l : Launch) (g : GG) (hG : Apart g NT) (N : Nat) (I : Mem) (k0 : Nat) (k1 : Nat) (a2 : Int32) (t0 : tag k0 = 6) (t1 : tag k1 = 43) (r0 : Int32) (I0 : Mem) (h : f7_runIn N I k0 k1 a2 = some (r0, I0)) : Mc l g yX7_runIn cX7_runIn 5 (some .int) rm7_runIn I [.ref (ga g k0), .ref (ga g k1), .int a2] (some (.int r0)) I0 := by
  refine Mc.of hG (by decide +kernel) (Nat.le_of_ble_eq_true rfl) ?_
  intro p e s m args below meth c ls X hr hlk hP hS hl
  have X : Cx g p s m args c cX7_runIn RX7 5 := X
  have hx := X.hx
  have hb := X.hb
  have hl : lv_has ls 5 [(0, .ref (ga g k0)), (1, .ref (ga g k1)), (2, .int a2)] := hl
  have locs : List Loc := []
  unfold f7_runIn at h
  refine lv_iconst (v := (0 : Int32)) hx hb dX7_runIn_0 (by decide +kernel) ?_
  refine lv_istore_n (lv' := [(3, .int (0 : Int32)), (0, .ref (ga g k0)), (1, .ref (ga g k1)), (2, .int a2)]) hx hb dX7_runIn_1 rfl hl (by decide) rfl (fun ls hl => ?_)
  refine lv_iload_n hx hb dX7_runIn_2 rfl (lv_at hl 3 rfl) ?_
  refine lv_istore (lv' := [(4, .int a2), (3, .int (0 : Int32)), (0, .ref (ga g k0)), (1, .ref (ga g k1)), (2, .int a2)]) hx hb dX7_runIn_3 hl (by decide) rfl (fun ls hl => ?_)
  exact L7_runIn_5 hG N k0 k1 a2 t0 t1 X hr hlk r0 I0 N I (0 : Int32) a2 h _ _ _ hP hS (lv_sub hl [2, 3, 1, 0] rfl)
abbrev rm7_run : Room := { frames := 9, cells := 0, slots := 0, locals := 210 }
def f7_run (N : Nat) (I : Mem) (k0 : Nat) (a1 : Int32) : Option (Int32 × Mem) :=
    clP (f7_in N I a1.toInt64 (1 : Int64) (99999 : Int64)) (fun (q_1 : Int32) (I_2 : Mem) =>
    if q_1 = (0 : Int32) then
    some ((-2 : Int32), I_2)
    else
    if (I_2 (k0 + 2) 5) = (0 : Int32) then
    some ((-3 : Int32), I_2)
    else
    clM (f7_note N I_2 k0) (fun I_7 : Mem =>
    clP (f7_runIn N I_7 k0 (k0 + 2) a1) (fun (q_9 : Int32) (I_10 : Mem) =>
    some (q_9, I_10))))
set_option maxHeartbeats 4000000 in
set_option maxRecDepth 100000 in
theorem c7_run (l : Launch) (g : GG) (hG : Apart g NT) (N : Nat) (I : Mem) (k0 : Nat) (a1 : Int32) (t0 : tag k0 = 6) (r0 : Int32) (I0 : Mem) (h : f7_run N I k0 a1 = some (r0, I0)) : Mc l g yX7_run cX7_run 2 (some .int) rm7_run I [.ref (ga g k0), .int a1] (some (.int r0)) I0 := by
  refine Mc.of hG (by decide +kernel) (Nat.le_of_ble_eq_true rfl) ?_
  intro p e s m args below meth c ls X hr hlk hP hS hl
  have X : Cx g p s m args c cX7_run RX7 2 := X
  have hx := X.hx
  have hb := X.hb
  have hl : lv_has ls 2 [(0, .ref (ga g k0)), (1, .int a1)] := hl
  have locs : List Loc := []
  unfold f7_run at h
  refine lv_iload_n hx hb dX7_run_0 rfl (lv_at hl 1 rfl) ?_
  refine lv_i2l (v := a1.toInt64) hx hb dX7_run_1 (by rfl) ?_
  refine lv_lconst (v := (1 : Int64)) hx hb dX7_run_2 (by decide +kernel) ?_
  refine lv_ldc2 (v := (99999 : Int64)) hx hb X.ow (X.hts _ k_777) dX7_run_3 ?_
  obtain ⟨q_1, I_2, hc_3, h⟩ := clP_e h
  refine r_callS (As := [.long a1.toInt64, .long (1 : Int64), .long (99999 : Int64)]) [] X (c7_in l g hG N _ _ _ _ _ _ hc_3) cal_X7_in (sc_X7_in) k_609 rfl ⟨rfl, rfl⟩ ⟨Nat.le_of_ble_eq_true rfl, Nat.le_of_ble_eq_true rfl⟩ hP hS hl.1 rfl (Nat.le_of_ble_eq_true rfl) dX7_run_6 ⟨Nat.zero_le _, Nat.zero_le _⟩ (fun H locs hP hS => ?_)
  show W p l e rm7_run s m args below meth c H locs 0 0 _ (F0 m 9 ls [.int q_1])
  refine lv_if_ne (tgt := 15) hx hb dX7_run_9 (by decide) (fun c_4 => ?_) (fun c_4 => ?_)
  · replace h := ifn c_4 h
    refine lv_aload_n hx hb dX7_run_15 rfl (lv_at hl 0 rfl) ?_
    refine g7_3 X hP t0 k_554 dX7_run_16 ?_
    refine lv_iconst (v := (5 : Int32)) hx hb dX7_run_19 (by decide +kernel) ?_
    refine r_iald (n := 33) X hP (g7_3_t t0) (by decide +kernel) (j := 5) (by decide +kernel) dX7_run_20 ?_
    refine lv_if_ne (tgt := 27) hx hb dX7_run_21 (by decide) (fun c_5 => ?_) (fun c_5 => ?_)
    · replace h := ifn c_5 h
      refine lv_aload_n hx hb dX7_run_27 rfl (lv_at hl 0 rfl) ?_
      obtain ⟨I_7, hc_8, h⟩ := clM_e h
      refine r_callV (As := []) [] X (c7_note l g hG N _ _ t0 _ hc_8) cal_X7_note (im_X7_note) (se_X7_note) k_724 (tag_lt t0 (by decide)) (by rw [lay, t0]; rfl) rfl rfl ⟨rfl, rfl⟩ ⟨Nat.le_of_ble_eq_true rfl, Nat.le_of_ble_eq_true rfl⟩ hP hS hl.1 rfl (Nat.le_of_ble_eq_true rfl) dX7_run_28 ⟨Nat.zero_le _, Nat.zero_le _⟩ (fun H locs hP hS => ?_)
      show W p l e rm7_run s m args below meth c H locs 0 0 _ (F0 m 31 ls [])
      refine lv_aload_n hx hb dX7_run_31 rfl (lv_at hl 0 rfl) ?_
      refine lv_aload_n hx hb dX7_run_32 rfl (lv_at hl 0 rfl) ?_
      refine g7_3 X hP t0 k_554 dX7_run_33 ?_
      refine lv_iload_n hx hb dX7_run_36 rfl (lv_at hl 1 rfl) ?_
      obtain ⟨q_9, I_10, hc_11, h⟩ := clP_e h
      refine r_callV (As := [.ref (ga g (k0 + 2)), .int a1]) [] X (c7_runIn l g hG N _ _ _ _ t0 (g7_3_t t0) _ _ hc_11) cal_X7_runIn (im_X7_runIn) (se_X7_runIn) k_778 (tag_lt t0 (by decide)) (by rw [lay, t0]; rfl) rfl rfl ⟨rfl, rfl⟩ ⟨Nat.le_of_ble_eq_true rfl, Nat.le_of_ble_eq_true rfl⟩ hP hS hl.1 rfl (Nat.le_of_ble_eq_true rfl) dX7_run_37 ⟨Nat.zero_le _, Nat.zero_le _⟩ (fun H locs hP hS => ?_)
      show W p l e rm7_run s m args below meth c H locs 0 0 _ (F0 m 40 ls [.int q_9])
      exact r_iret X hr hlk hP hS dX7_run_40 h
    · replace h := ifp c_5 h
      refine lv_bipush (v := (-3 : Int32)) hx hb dX7_run_24 (by decide +kernel) ?_
      exact r_iret X hr hlk hP hS dX7_run_26 h
  · replace h := ifp c_4 h
    refine lv_bipush (v := (-2 : Int32)) hx hb dX7_run_12 (by decide +kernel) ?_
    exact r_iret X hr hlk hP hS dX7_run_14 h
abbrev rm7_stopIn : Room := { frames := 2, cells := 0, slots := 0, locals := 42 }
def f7_stopIn_7 (N : Nat) (k0 : Nat) : Nat → Mem → Int32 → Option (Int32 × Mem)
  | 0, _, _ => none
  | cnt+1, I, v1 =>
    if (33 : Int32) ≤ v1 then
    letM (st I k0 8 (I k0 7)) (fun I_3 : Mem =>
    if (I_3 k0 8) = (0 : Int32) then
    clM (f7_endMove N I_3 k0) (fun I_6 : Mem =>
    some ((I_6 k0 8), I_6))
    else
    some ((I_3 k0 8), I_3))
    else
    if (v1 < (0 : Int32) ∨ 33 ≤ v1.toNatClampNeg) then none else
    letM (st I k0 (v1.toNatClampNeg) (0 : Int32)) (fun I_9 : Mem =>
    letM (v1 + (1 : Int32)) (fun x_10 : Int32 =>
    f7_stopIn_7 N k0 cnt I_9 x_10))
def f7_stopIn (N : Nat) (I : Mem) (k0 : Nat) : Option (Int32 × Mem) :=
    letM (st I k0 5 (1 : Int32)) (fun I_1 : Mem =>
    f7_stopIn_7 N k0 N I_1 (12 : Int32))
set_option maxHeartbeats 4000000 in
set_option maxRecDepth 100000 in
theorem L7_stopIn_7 (hG : Apart g NT) (N : Nat) (k0 : Nat) (t0 : tag k0 = 43) (X : Cx g p s m args c cX7_stopIn RX7 2) (hr : meth.sig.returnType = (some .int)) (hlk : meth.locks = false) (r0 : Int32) (I0 : Mem) : ∀ (cnt : Nat) (I : Mem) (v1 : Int32), f7_stopIn_7 N k0 cnt I v1 = some (r0, I0) → ∀ (H : Heap) (locs : List Loc) (ls : Array Slot), Wp g I H → va_S (gA g) s.heap H locs → lv_has ls 2 [(0, .ref (ga g k0)), (1, .int v1)] → W p l e rm7_stopIn s m args below meth c H locs 0 0 (MQ below (Qg g (some (.int r0)) I0) args s 0 0 (gA g)) (F0 m 7 ls []) := by
  have hx := X.hx
  have hb := X.hb
  intro cnt
  induction cnt with
  | zero =>
    intro I v1 h
    rw [f7_stopIn_7] at h
    cases h
  | succ cnt ih =>
    intro I v1 h H locs ls hP hS hl
    rw [f7_stopIn_7] at h
    refine lv_iload_n hx hb dX7_stopIn_7 rfl (lv_at hl 1 rfl) ?_
    refine lv_bipush (v := (33 : Int32)) hx hb dX7_stopIn_8 (by decide +kernel) ?_
    refine lv_icmp_ge (tgt := 23) hx hb dX7_stopIn_10 (by decide) (fun c_2 => ?_) (fun c_2 => ?_)
    · replace h := ifp c_2 h
      refine lv_aload_n hx hb dX7_stopIn_23 rfl (lv_at hl 0 rfl) ?_
      refine lv_bipush (v := (8 : Int32)) hx hb dX7_stopIn_24 (by decide +kernel) ?_
      refine lv_aload_n hx hb dX7_stopIn_26 rfl (lv_at hl 0 rfl) ?_
      refine lv_bipush (v := (7 : Int32)) hx hb dX7_stopIn_27 (by decide +kernel) ?_
      refine r_iald (n := 33) X hP t0 (by decide +kernel) (j := 7) (by decide +kernel) dX7_stopIn_29 ?_
      obtain ⟨I_3, eI_3, h⟩ := letM_e h
      refine r_iast (n := 33) X hP hS t0 (by decide +kernel) (j := 8) (by decide +kernel) eI_3 dX7_stopIn_30 (fun H locs hP hS => ?_)
      refine lv_aload_n hx hb dX7_stopIn_31 rfl (lv_at hl 0 rfl) ?_
      refine lv_bipush (v := (8 : Int32)) hx hb dX7_stopIn_32 (by decide +kernel) ?_
      refine r_iald (n := 33) X hP t0 (by decide +kernel) (j := 8) (by decide +kernel) dX7_stopIn_34 ?_
      refine lv_if_ne (tgt := 42) hx hb dX7_stopIn_35 (by decide) (fun c_4 => ?_) (fun c_4 => ?_)
      · replace h := ifn c_4 h
        refine lv_aload_n hx hb dX7_stopIn_42 rfl (lv_at hl 0 rfl) ?_
        refine lv_bipush (v := (8 : Int32)) hx hb dX7_stopIn_43 (by decide +kernel) ?_
        refine r_iald (n := 33) X hP t0 (by decide +kernel) (j := 8) (by decide +kernel) dX7_stopIn_45 ?_
        exact r_iret X hr hlk hP hS dX7_stopIn_46 h
      · replace h := ifp c_4 h
        refine lv_aload_n hx hb dX7_stopIn_38 rfl (lv_at hl 0 rfl) ?_
        obtain ⟨I_6, hc_7, h⟩ := clM_e h
        refine r_callS (As := [.ref (ga g k0)]) [] X (c7_endMove l g hG N _ _ t0 _ hc_7) cal_X7_endMove (sc_X7_endMove) k_770 rfl ⟨rfl, rfl⟩ ⟨Nat.le_of_ble_eq_true rfl, Nat.le_of_ble_eq_true rfl⟩ hP hS hl.1 rfl (Nat.le_of_ble_eq_true rfl) dX7_stopIn_39 ⟨Nat.zero_le _, Nat.zero_le _⟩ (fun H locs hP hS => ?_)
        show W p l e rm7_stopIn s m args below meth c H locs 0 0 _ (F0 m 42 ls [])
        refine lv_aload_n hx hb dX7_stopIn_42 rfl (lv_at hl 0 rfl) ?_
        refine lv_bipush (v := (8 : Int32)) hx hb dX7_stopIn_43 (by decide +kernel) ?_
        refine r_iald (n := 33) X hP t0 (by decide +kernel) (j := 8) (by decide +kernel) dX7_stopIn_45 ?_
        exact r_iret X hr hlk hP hS dX7_stopIn_46 h
    · replace h := ifn c_2 h
      refine lv_aload_n hx hb dX7_stopIn_13 rfl (lv_at hl 0 rfl) ?_
      refine lv_iload_n hx hb dX7_stopIn_14 rfl (lv_at hl 1 rfl) ?_
      refine lv_iconst (v := (0 : Int32)) hx hb dX7_stopIn_15 (by decide +kernel) ?_
      obtain ⟨g_8, h⟩ := gd_e h
      obtain ⟨I_9, eI_9, h⟩ := letM_e h
      refine r_iast (n := 33) X hP hS t0 g_8 (j := v1.toNatClampNeg) rfl eI_9 dX7_stopIn_16 (fun H locs hP hS => ?_)
      obtain ⟨x_10, ex_10, h⟩ := letM_e h
      refine lv_iinc (v := x_10) (lv' := [(1, .int x_10), (0, .ref (ga g k0))]) hx hb dX7_stopIn_17 hl (k := 1) rfl (by rw [ex_10]; rfl) (by decide) rfl (fun ls hl => ?_)
      refine lv_goto (tgt := 7) hx hb dX7_stopIn_20 (by decide) ?_
      exact ih I_9 x_10 h _ _ _ hP hS (lv_sub hl [1, 0] rfl)
set_option maxHeartbeats 4000000 in
set_option maxRecDepth 100000 in
theorem c7_stopIn (l : Launch) (g : GG) (hG : Apart g NT) (N : Nat) (I : Mem) (k0 : Nat) (t0 : tag k0 = 43) (r0 : Int32) (I0 : Mem) (h : f7_stopIn N I k0 = some (r0, I0)) : Mc l g yX7_stopIn cX7_stopIn 2 (some .int) rm7_stopIn I [.ref (ga g k0)] (some (.int r0)) I0 := by
  refine Mc.of hG (by decide +kernel) (Nat.le_of_ble_eq_true rfl) ?_
  intro p e s m args below meth c ls X hr hlk hP hS hl
  have X : Cx g p s m args c cX7_stopIn RX7 2 := X
  have hx := X.hx
  have hb := X.hb
  have hl : lv_has ls 2 [(0, .ref (ga g k0))] := hl
  have locs : List Loc := []
  unfold f7_stopIn at h
  refine lv_aload_n hx hb dX7_stopIn_0 rfl (lv_at hl 0 rfl) ?_
  refine lv_iconst (v := (5 : Int32)) hx hb dX7_stopIn_1 (by decide +kernel) ?_
  refine lv_iconst (v := (1 : Int32)) hx hb dX7_stopIn_2 (by decide +kernel) ?_
  obtain ⟨I_1, eI_1, h⟩ := letM_e h
  refine r_iast (n := 33) X hP hS t0 (by decide +kernel) (j := 5) (by decide +kernel) eI_1 dX7_stopIn_3 (fun H locs hP hS => ?_)
  refine lv_bipush (v := (12 : Int32)) hx hb dX7_stopIn_4 (by decide +kernel) ?_
  refine lv_istore_n (lv' := [(1, .int (12 : Int32)), (0, .ref (ga g k0))]) hx hb dX7_stopIn_6 rfl hl (by decide) rfl (fun ls hl => ?_)
  exact L7_stopIn_7 hG N k0 t0 X hr hlk r0 I0 N I_1 (12 : Int32) h _ _ _ hP hS (lv_sub hl [1, 0] rfl)
abbrev rm7_stop : Room := { frames := 3, cells := 0, slots := 0, locals := 63 }
def f7_stop (N : Nat) (I : Mem) (k0 : Nat) : Option (Int32 × Mem) :=
    clP (f7_isUnderWay N I (k0 + 2)) (fun (q_1 : Int32) (I_2 : Mem) =>
    if q_1 = (0 : Int32) then
    some ((-3 : Int32), I_2)
    else
    clM (f7_note N I_2 k0) (fun I_6 : Mem =>
    clP (f7_stopIn N I_6 (k0 + 2)) (fun (q_8 : Int32) (I_9 : Mem) =>
    some (q_8, I_9))))
set_option maxHeartbeats 4000000 in
set_option maxRecDepth 100000 in
theorem c7_stop (l : Launch) (g : GG) (hG : Apart g NT) (N : Nat) (I : Mem) (k0 : Nat) (t0 : tag k0 = 6) (r0 : Int32) (I0 : Mem) (h : f7_stop N I k0 = some (r0, I0)) : Mc l g yX7_stop cX7_stop 1 (some .int) rm7_stop I [.ref (ga g k0)] (some (.int r0)) I0 := by
  refine Mc.of hG (by decide +kernel) (Nat.le_of_ble_eq_true rfl) ?_
  intro p e s m args below meth c ls X hr hlk hP hS hl
  have X : Cx g p s m args c cX7_stop RX7 1 := X
  have hx := X.hx
  have hb := X.hb
  have hl : lv_has ls 1 [(0, .ref (ga g k0))] := hl
  have locs : List Loc := []
  unfold f7_stop at h
  refine lv_aload_n hx hb dX7_stop_0 rfl (lv_at hl 0 rfl) ?_
  refine g7_3 X hP t0 k_554 dX7_stop_1 ?_
  obtain ⟨q_1, I_2, hc_3, h⟩ := clP_e h
  refine r_callS (As := [.ref (ga g (k0 + 2))]) [] X (c7_isUnderWay l g hG N _ _ (g7_3_t t0) _ _ hc_3) cal_X7_isUnderWay (sc_X7_isUnderWay) k_668 rfl ⟨rfl, rfl⟩ ⟨Nat.le_of_ble_eq_true rfl, Nat.le_of_ble_eq_true rfl⟩ hP hS hl.1 rfl (Nat.le_of_ble_eq_true rfl) dX7_stop_4 ⟨Nat.zero_le _, Nat.zero_le _⟩ (fun H locs hP hS => ?_)
  show W p l e rm7_stop s m args below meth c H locs 0 0 _ (F0 m 7 ls [.int q_1])
  refine lv_if_ne (tgt := 13) hx hb dX7_stop_7 (by decide) (fun c_4 => ?_) (fun c_4 => ?_)
  · replace h := ifn c_4 h
    refine lv_aload_n hx hb dX7_stop_13 rfl (lv_at hl 0 rfl) ?_
    obtain ⟨I_6, hc_7, h⟩ := clM_e h
    refine r_callV (As := []) [] X (c7_note l g hG N _ _ t0 _ hc_7) cal_X7_note (im_X7_note) (se_X7_note) k_724 (tag_lt t0 (by decide)) (by rw [lay, t0]; rfl) rfl rfl ⟨rfl, rfl⟩ ⟨Nat.le_of_ble_eq_true rfl, Nat.le_of_ble_eq_true rfl⟩ hP hS hl.1 rfl (Nat.le_of_ble_eq_true rfl) dX7_stop_14 ⟨Nat.zero_le _, Nat.zero_le _⟩ (fun H locs hP hS => ?_)
    show W p l e rm7_stop s m args below meth c H locs 0 0 _ (F0 m 17 ls [])
    refine lv_aload_n hx hb dX7_stop_17 rfl (lv_at hl 0 rfl) ?_
    refine g7_3 X hP t0 k_554 dX7_stop_18 ?_
    obtain ⟨q_8, I_9, hc_10, h⟩ := clP_e h
    refine r_callS (As := [.ref (ga g (k0 + 2))]) [] X (c7_stopIn l g hG N _ _ (g7_3_t t0) _ _ hc_10) cal_X7_stopIn (sc_X7_stopIn) k_786 rfl ⟨rfl, rfl⟩ ⟨Nat.le_of_ble_eq_true rfl, Nat.le_of_ble_eq_true rfl⟩ hP hS hl.1 rfl (Nat.le_of_ble_eq_true rfl) dX7_stop_21 ⟨Nat.zero_le _, Nat.zero_le _⟩ (fun H locs hP hS => ?_)
    show W p l e rm7_stop s m args below meth c H locs 0 0 _ (F0 m 24 ls [.int q_8])
    exact r_iret X hr hlk hP hS dX7_stop_24 h
  · replace h := ifp c_4 h
    refine lv_bipush (v := (-3 : Int32)) hx hb dX7_stop_10 (by decide +kernel) ?_
    exact r_iret X hr hlk hP hS dX7_stop_12 h
abbrev rm7_removeItem : Room := { frames := 1, cells := 0, slots := 0, locals := 25 }
def f7_removeItem_37 (N : Nat) (k0 : Nat) (a1 : Int32) (I : Mem) : Option (Int32 × Mem) :=
    clM (f7_note N I k0) (fun I_7 : Mem =>
    clM (f7_dropItem N I_7 (k0 + 2) a1) (fun I_10 : Mem =>
    some ((I_10 (k0 + 2) 5), I_10)))
def f7_removeItem (N : Nat) (I : Mem) (k0 : Nat) (a1 : Int32) : Option (Int32 × Mem) :=
    clP (f7_in N I a1.toInt64 (0 : Int64) ((I (k0 + 2) 5) - (1 : Int32)).toInt64) (fun (q_1 : Int32) (I_2 : Mem) =>
    if q_1 = (0 : Int32) then
    some ((-1 : Int32), I_2)
    else
    if a1 = (0 : Int32) then
    clP (f7_isUnderWay N I_2 (k0 + 2)) (fun (q_12 : Int32) (I_13 : Mem) =>
    if q_12 = (0 : Int32) then
    f7_removeItem_37 N k0 a1 I_13
    else
    some ((-3 : Int32), I_13))
    else
    f7_removeItem_37 N k0 a1 I_2)
set_option maxHeartbeats 4000000 in
set_option maxRecDepth 100000 in
theorem L7_removeItem_37 (hG : Apart g NT) (N : Nat) (k0 : Nat) (a1 : Int32) (t0 : tag k0 = 6) (X : Cx g p s m args c cX7_removeItem RX7 2) (hr : meth.sig.returnType = (some .int)) (hlk : meth.locks = false) (r0 : Int32) (I0 : Mem) : ∀ (I : Mem), f7_removeItem_37 N k0 a1 I = some (r0, I0) → ∀ (H : Heap) (locs : List Loc) (ls : Array Slot), Wp g I H → va_S (gA g) s.heap H locs → lv_has ls 2 [(0, .ref (ga g k0)), (1, .int a1)] → W p l e rm7_removeItem s m args below meth c H locs 0 0 (MQ below (Qg g (some (.int r0)) I0) args s 0 0 (gA g)) (F0 m 37 ls []) := by
  have hx := X.hx
  have hb := X.hb
  intro I h H locs ls hP hS hl
  unfold f7_removeItem_37 at h
  refine lv_aload_n hx hb dX7_removeItem_37 rfl (lv_at hl 0 rfl) ?_
  obtain ⟨I_7, hc_8, h⟩ := clM_e h
  refine r_callV (As := []) [] X (c7_note l g hG N _ _ t0 _ hc_8) cal_X7_note (im_X7_note) (se_X7_note) k_724 (tag_lt t0 (by decide)) (by rw [lay, t0]; rfl) rfl rfl ⟨rfl, rfl⟩ ⟨Nat.le_of_ble_eq_true rfl, Nat.le_of_ble_eq_true rfl⟩ hP hS hl.1 rfl (Nat.le_of_ble_eq_true rfl) dX7_removeItem_38 ⟨Nat.zero_le _, Nat.zero_le _⟩ (fun H locs hP hS => ?_)
  show W p l e rm7_removeItem s m args below meth c H locs 0 0 _ (F0 m 41 ls [])
  refine lv_aload_n hx hb dX7_removeItem_41 rfl (lv_at hl 0 rfl) ?_
  refine g7_3 X hP t0 k_554 dX7_removeItem_42 ?_
  refine lv_iload_n hx hb dX7_removeItem_45 rfl (lv_at hl 1 rfl) ?_
  obtain ⟨I_10, hc_11, h⟩ := clM_e h
  refine r_callS (As := [.ref (ga g (k0 + 2)), .int a1]) [] X (c7_dropItem l g hG N _ _ _ (g7_3_t t0) _ hc_11) cal_X7_dropItem (sc_X7_dropItem) k_764 rfl ⟨rfl, rfl⟩ ⟨Nat.le_of_ble_eq_true rfl, Nat.le_of_ble_eq_true rfl⟩ hP hS hl.1 rfl (Nat.le_of_ble_eq_true rfl) dX7_removeItem_46 ⟨Nat.zero_le _, Nat.zero_le _⟩ (fun H locs hP hS => ?_)
  show W p l e rm7_removeItem s m args below meth c H locs 0 0 _ (F0 m 49 ls [])
  refine lv_aload_n hx hb dX7_removeItem_49 rfl (lv_at hl 0 rfl) ?_
  refine g7_3 X hP t0 k_554 dX7_removeItem_50 ?_
  refine lv_iconst (v := (5 : Int32)) hx hb dX7_removeItem_53 (by decide +kernel) ?_
  refine r_iald (n := 33) X hP (g7_3_t t0) (by decide +kernel) (j := 5) (by decide +kernel) dX7_removeItem_54 ?_
  exact r_iret X hr hlk hP hS dX7_removeItem_55 h
set_option maxHeartbeats 4000000 in
set_option maxRecDepth 100000 in
theorem c7_removeItem (l : Launch) (g : GG) (hG : Apart g NT) (N : Nat) (I : Mem) (k0 : Nat) (a1 : Int32) (t0 : tag k0 = 6) (r0 : Int32) (I0 : Mem) (h : f7_removeItem N I k0 a1 = some (r0, I0)) : Mc l g yX7_removeItem cX7_removeItem 2 (some .int) rm7_removeItem I [.ref (ga g k0), .int a1] (some (.int r0)) I0 := by
  refine Mc.of hG (by decide +kernel) (Nat.le_of_ble_eq_true rfl) ?_
  intro p e s m args below meth c ls X hr hlk hP hS hl
  have X : Cx g p s m args c cX7_removeItem RX7 2 := X
  have hx := X.hx
  have hb := X.hb
  have hl : lv_has ls 2 [(0, .ref (ga g k0)), (1, .int a1)] := hl
  have locs : List Loc := []
  unfold f7_removeItem at h
  refine lv_iload_n hx hb dX7_removeItem_0 rfl (lv_at hl 1 rfl) ?_
  refine lv_i2l (v := a1.toInt64) hx hb dX7_removeItem_1 (by rfl) ?_
  refine lv_lconst (v := (0 : Int64)) hx hb dX7_removeItem_2 (by decide +kernel) ?_
  refine lv_aload_n hx hb dX7_removeItem_3 rfl (lv_at hl 0 rfl) ?_
  refine g7_3 X hP t0 k_554 dX7_removeItem_4 ?_
  refine lv_iconst (v := (5 : Int32)) hx hb dX7_removeItem_7 (by decide +kernel) ?_
  refine r_iald (n := 33) X hP (g7_3_t t0) (by decide +kernel) (j := 5) (by decide +kernel) dX7_removeItem_8 ?_
  refine lv_iconst (v := (1 : Int32)) hx hb dX7_removeItem_9 (by decide +kernel) ?_
  refine lv_isub hx hb dX7_removeItem_10 ?_
  refine lv_i2l (v := ((I (k0 + 2) 5) - (1 : Int32)).toInt64) hx hb dX7_removeItem_11 (by rfl) ?_
  obtain ⟨q_1, I_2, hc_3, h⟩ := clP_e h
  refine r_callS (As := [.long a1.toInt64, .long (0 : Int64), .long ((I (k0 + 2) 5) - (1 : Int32)).toInt64]) [] X (c7_in l g hG N _ _ _ _ _ _ hc_3) cal_X7_in (sc_X7_in) k_609 rfl ⟨rfl, rfl⟩ ⟨Nat.le_of_ble_eq_true rfl, Nat.le_of_ble_eq_true rfl⟩ hP hS hl.1 rfl (Nat.le_of_ble_eq_true rfl) dX7_removeItem_12 ⟨Nat.zero_le _, Nat.zero_le _⟩ (fun H locs hP hS => ?_)
  show W p l e rm7_removeItem s m args below meth c H locs 0 0 _ (F0 m 15 ls [.int q_1])
  refine lv_if_ne (tgt := 20) hx hb dX7_removeItem_15 (by decide) (fun c_4 => ?_) (fun c_4 => ?_)
  · replace h := ifn c_4 h
    refine lv_iload_n hx hb dX7_removeItem_20 rfl (lv_at hl 1 rfl) ?_
    refine lv_if_ne (tgt := 37) hx hb dX7_removeItem_21 (by decide) (fun c_5 => ?_) (fun c_5 => ?_)
    · replace h := ifn c_5 h
      exact L7_removeItem_37 hG N k0 a1 t0 X hr hlk r0 I0 I_2 h _ _ _ hP hS (lv_sub hl [0, 1] rfl)
    · replace h := ifp c_5 h
      refine lv_aload_n hx hb dX7_removeItem_24 rfl (lv_at hl 0 rfl) ?_
      refine g7_3 X hP t0 k_554 dX7_removeItem_25 ?_
      obtain ⟨q_12, I_13, hc_14, h⟩ := clP_e h
      refine r_callS (As := [.ref (ga g (k0 + 2))]) [] X (c7_isUnderWay l g hG N _ _ (g7_3_t t0) _ _ hc_14) cal_X7_isUnderWay (sc_X7_isUnderWay) k_668 rfl ⟨rfl, rfl⟩ ⟨Nat.le_of_ble_eq_true rfl, Nat.le_of_ble_eq_true rfl⟩ hP hS hl.1 rfl (Nat.le_of_ble_eq_true rfl) dX7_removeItem_28 ⟨Nat.zero_le _, Nat.zero_le _⟩ (fun H locs hP hS => ?_)
      show W p l e rm7_removeItem s m args below meth c H locs 0 0 _ (F0 m 31 ls [.int q_12])
      refine lv_if_eq (tgt := 37) hx hb dX7_removeItem_31 (by decide) (fun c_15 => ?_) (fun c_15 => ?_)
      · replace h := ifp c_15 h
        exact L7_removeItem_37 hG N k0 a1 t0 X hr hlk r0 I0 I_13 h _ _ _ hP hS (lv_sub hl [0, 1] rfl)
      · replace h := ifn c_15 h
        refine lv_bipush (v := (-3 : Int32)) hx hb dX7_removeItem_34 (by decide +kernel) ?_
        exact r_iret X hr hlk hP hS dX7_removeItem_36 h
  · replace h := ifp c_4 h
    refine lv_iconst (v := (-1 : Int32)) hx hb dX7_removeItem_18 (by decide +kernel) ?_
    exact r_iret X hr hlk hP hS dX7_removeItem_19 h
abbrev rm7_undo : Room := { frames := 0, cells := 0, slots := 0, locals := 0 }
def f7_undo_38 (N : Nat) (k0 : Nat) : Nat → Mem → Int32 → Option (Int32 × Mem)
  | 0, _, _ => none
  | cnt+1, I, v1 =>
    if (33 : Int32) ≤ v1 then
    some ((I k0 7), I)
    else
    if ((((33 : Int32) * (I k0 8)) + v1) < (0 : Int32) ∨ 462 ≤ (((33 : Int32) * (I k0 8)) + v1).toNatClampNeg) then none else
    if (v1 < (0 : Int32) ∨ 33 ≤ v1.toNatClampNeg) then none else
    letM (st I (k0 + 2) (v1.toNatClampNeg) (I (k0 + 5) ((((33 : Int32) * (I k0 8)) + v1).toNatClampNeg))) (fun I_7 : Mem =>
    letM (v1 + (1 : Int32)) (fun x_8 : Int32 =>
    f7_undo_38 N k0 cnt I_7 x_8))
def f7_undo (N : Nat) (I : Mem) (k0 : Nat) : Option (Int32 × Mem) :=
    if (I k0 7) = (0 : Int32) then
    some ((-3 : Int32), I)
    else
    letM (st I k0 7 ((I k0 7) - (1 : Int32))) (fun I_2 : Mem =>
    letM (st I_2 k0 8 ((((I_2 k0 8) + (14 : Int32)) - (1 : Int32)) - (((I_2 k0 8) + (14 : Int32)) - (1 : Int32)) / (14 : Int32) * (14 : Int32))) (fun I_3 : Mem =>
    f7_undo_38 N k0 N I_3 (0 : Int32)))
set_option maxHeartbeats 4000000 in
set_option maxRecDepth 100000 in
theorem L7_undo_38 (hG : Apart g NT) (N : Nat) (k0 : Nat) (t0 : tag k0 = 6) (X : Cx g p s m args c cX7_undo RX7 2) (hr : meth.sig.returnType = (some .int)) (hlk : meth.locks = false) (r0 : Int32) (I0 : Mem) : ∀ (cnt : Nat) (I : Mem) (v1 : Int32), f7_undo_38 N k0 cnt I v1 = some (r0, I0) → ∀ (H : Heap) (locs : List Loc) (ls : Array Slot), Wp g I H → va_S (gA g) s.heap H locs → lv_has ls 2 [(0, .ref (ga g k0)), (1, .int v1)] → W p l e rm7_undo s m args below meth c H locs 0 0 (MQ below (Qg g (some (.int r0)) I0) args s 0 0 (gA g)) (F0 m 38 ls []) := by
  have hx := X.hx
  have hb := X.hb
  intro cnt
  induction cnt with
  | zero =>
    intro I v1 h
    rw [f7_undo_38] at h
    cases h
  | succ cnt ih =>
    intro I v1 h H locs ls hP hS hl
    rw [f7_undo_38] at h
    refine lv_iload_n hx hb dX7_undo_38 rfl (lv_at hl 1 rfl) ?_
    refine lv_bipush (v := (33 : Int32)) hx hb dX7_undo_39 (by decide +kernel) ?_
    refine lv_icmp_ge (tgt := 70) hx hb dX7_undo_41 (by decide) (fun c_4 => ?_) (fun c_4 => ?_)
    · replace h := ifp c_4 h
      refine lv_aload_n hx hb dX7_undo_70 rfl (lv_at hl 0 rfl) ?_
      refine g7_7 X hP t0 k_558 dX7_undo_71 ?_
      exact r_iret X hr hlk hP hS dX7_undo_74 h
    · replace h := ifn c_4 h
      refine lv_aload_n hx hb dX7_undo_44 rfl (lv_at hl 0 rfl) ?_
      refine g7_3 X hP t0 k_554 dX7_undo_45 ?_
      refine lv_iload_n hx hb dX7_undo_48 rfl (lv_at hl 1 rfl) ?_
      refine lv_aload_n hx hb dX7_undo_49 rfl (lv_at hl 0 rfl) ?_
      refine g7_6 X hP t0 k_557 dX7_undo_50 ?_
      refine lv_bipush (v := (33 : Int32)) hx hb dX7_undo_53 (by decide +kernel) ?_
      refine lv_aload_n hx hb dX7_undo_55 rfl (lv_at hl 0 rfl) ?_
      refine g7_8 X hP t0 k_559 dX7_undo_56 ?_
      refine lv_imul hx hb dX7_undo_59 ?_
      refine lv_iload_n hx hb dX7_undo_60 rfl (lv_at hl 1 rfl) ?_
      refine lv_iadd hx hb dX7_undo_61 ?_
      obtain ⟨g_5, h⟩ := gd_e h
      refine r_iald (n := 462) X hP (g7_6_t t0) g_5 (j := (((33 : Int32) * (I k0 8)) + v1).toNatClampNeg) rfl dX7_undo_62 ?_
      obtain ⟨g_6, h⟩ := gd_e h
      obtain ⟨I_7, eI_7, h⟩ := letM_e h
      refine r_iast (n := 33) X hP hS (g7_3_t t0) g_6 (j := v1.toNatClampNeg) rfl eI_7 dX7_undo_63 (fun H locs hP hS => ?_)
      obtain ⟨x_8, ex_8, h⟩ := letM_e h
      refine lv_iinc (v := x_8) (lv' := [(1, .int x_8), (0, .ref (ga g k0))]) hx hb dX7_undo_64 hl (k := 1) rfl (by rw [ex_8]; rfl) (by decide) rfl (fun ls hl => ?_)
      refine lv_goto (tgt := 38) hx hb dX7_undo_67 (by decide) ?_
      exact ih I_7 x_8 h _ _ _ hP hS (lv_sub hl [1, 0] rfl)
set_option maxHeartbeats 4000000 in
set_option maxRecDepth 100000 in
theorem c7_undo (l : Launch) (g : GG) (hG : Apart g NT) (N : Nat) (I : Mem) (k0 : Nat) (t0 : tag k0 = 6) (r0 : Int32) (I0 : Mem) (h : f7_undo N I k0 = some (r0, I0)) : Mc l g yX7_undo cX7_undo 2 (some .int) rm7_undo I [.ref (ga g k0)] (some (.int r0)) I0 := by
  refine Mc.of hG (by decide +kernel) (Nat.le_of_ble_eq_true rfl) ?_
  intro p e s m args below meth c ls X hr hlk hP hS hl
  have X : Cx g p s m args c cX7_undo RX7 2 := X
  have hx := X.hx
  have hb := X.hb
  have hl : lv_has ls 2 [(0, .ref (ga g k0))] := hl
  have locs : List Loc := []
  unfold f7_undo at h
  refine lv_aload_n hx hb dX7_undo_0 rfl (lv_at hl 0 rfl) ?_
  refine g7_7 X hP t0 k_558 dX7_undo_1 ?_
  refine lv_if_ne (tgt := 10) hx hb dX7_undo_4 (by decide) (fun c_1 => ?_) (fun c_1 => ?_)
  · replace h := ifn c_1 h
    refine lv_aload_n hx hb dX7_undo_10 rfl (lv_at hl 0 rfl) ?_
    refine lv_dup hx hb dX7_undo_11 rfl ?_
    refine g7_7 X hP t0 k_558 dX7_undo_12 ?_
    refine lv_iconst (v := (1 : Int32)) hx hb dX7_undo_15 (by decide +kernel) ?_
    refine lv_isub hx hb dX7_undo_16 ?_
    obtain ⟨I_2, eI_2, h⟩ := letM_e h
    refine p7_7 X hP hS t0 k_558 eI_2 dX7_undo_17 (fun H locs hP hS => ?_)
    refine lv_aload_n hx hb dX7_undo_20 rfl (lv_at hl 0 rfl) ?_
    refine lv_aload_n hx hb dX7_undo_21 rfl (lv_at hl 0 rfl) ?_
    refine g7_8 X hP t0 k_559 dX7_undo_22 ?_
    refine lv_bipush (v := (14 : Int32)) hx hb dX7_undo_25 (by decide +kernel) ?_
    refine lv_iadd hx hb dX7_undo_27 ?_
    refine lv_iconst (v := (1 : Int32)) hx hb dX7_undo_28 (by decide +kernel) ?_
    refine lv_isub hx hb dX7_undo_29 ?_
    refine lv_bipush (v := (14 : Int32)) hx hb dX7_undo_30 (by decide +kernel) ?_
    refine lv_irem hx hb dX7_undo_32 (by decide) ?_
    obtain ⟨I_3, eI_3, h⟩ := letM_e h
    refine p7_8 X hP hS t0 k_559 eI_3 dX7_undo_33 (fun H locs hP hS => ?_)
    refine lv_iconst (v := (0 : Int32)) hx hb dX7_undo_36 (by decide +kernel) ?_
    refine lv_istore_n (lv' := [(1, .int (0 : Int32)), (0, .ref (ga g k0))]) hx hb dX7_undo_37 rfl hl (by decide) rfl (fun ls hl => ?_)
    exact L7_undo_38 hG N k0 t0 X hr hlk r0 I0 N I_3 (0 : Int32) h _ _ _ hP hS (lv_sub hl [1, 0] rfl)
  · replace h := ifp c_1 h
    refine lv_bipush (v := (-3 : Int32)) hx hb dX7_undo_7 (by decide +kernel) ?_
    exact r_iret X hr hlk hP hS dX7_undo_9 h
abbrev rm7_ticksLeft : Room := { frames := 8, cells := 0, slots := 0, locals := 186 }
def f7_ticksLeft_13 (N : Nat) (k0 : Nat) : Nat → Mem → Int32 → Option (Int32 × Mem)
  | 0, _, _ => none
  | cnt+1, I, v1 =>
    if (I (k0 + 3) 5) ≤ (0 : Int32) then
    some (v1, I)
    else
    clP (f7_stepIn N I k0 (k0 + 3)) (fun (q_5 : Int32) (I_6 : Mem) =>
    letM (v1 + q_5) (fun x_8 : Int32 =>
    f7_ticksLeft_13 N k0 cnt I_6 x_8))
def f7_ticksLeft (N : Nat) (I : Mem) (k0 : Nat) : Option (Int32 × Mem) :=
    clM (f7_copy N I (k0 + 2) (k0 + 3)) (fun I_2 : Mem =>
    f7_ticksLeft_13 N k0 N I_2 (0 : Int32))
set_option maxHeartbeats 4000000 in
set_option maxRecDepth 100000 in
theorem L7_ticksLeft_13 (hG : Apart g NT) (N : Nat) (k0 : Nat) (t0 : tag k0 = 6) (X : Cx g p s m args c cX7_ticksLeft RX7 2) (hr : meth.sig.returnType = (some .int)) (hlk : meth.locks = false) (r0 : Int32) (I0 : Mem) : ∀ (cnt : Nat) (I : Mem) (v1 : Int32), f7_ticksLeft_13 N k0 cnt I v1 = some (r0, I0) → ∀ (H : Heap) (locs : List Loc) (ls : Array Slot), Wp g I H → va_S (gA g) s.heap H locs → lv_has ls 2 [(0, .ref (ga g k0)), (1, .int v1)] → W p l e rm7_ticksLeft s m args below meth c H locs 0 0 (MQ below (Qg g (some (.int r0)) I0) args s 0 0 (gA g)) (F0 m 13 ls []) := by
  have hx := X.hx
  have hb := X.hb
  intro cnt
  induction cnt with
  | zero =>
    intro I v1 h
    rw [f7_ticksLeft_13] at h
    cases h
  | succ cnt ih =>
    intro I v1 h H locs ls hP hS hl
    rw [f7_ticksLeft_13] at h
    refine lv_aload_n hx hb dX7_ticksLeft_13 rfl (lv_at hl 0 rfl) ?_
    refine g7_4 X hP t0 k_555 dX7_ticksLeft_14 ?_
    refine lv_iconst (v := (5 : Int32)) hx hb dX7_ticksLeft_17 (by decide +kernel) ?_
    refine r_iald (n := 33) X hP (g7_4_t t0) (by decide +kernel) (j := 5) (by decide +kernel) dX7_ticksLeft_18 ?_
    refine lv_if_le (tgt := 36) hx hb dX7_ticksLeft_19 (by decide) (fun c_4 => ?_) (fun c_4 => ?_)
    · replace h := ifp c_4 h
      refine lv_iload_n hx hb dX7_ticksLeft_36 rfl (lv_at hl 1 rfl) ?_
      exact r_iret X hr hlk hP hS dX7_ticksLeft_37 h
    · replace h := ifn c_4 h
      refine lv_iload_n hx hb dX7_ticksLeft_22 rfl (lv_at hl 1 rfl) ?_
      refine lv_aload_n hx hb dX7_ticksLeft_23 rfl (lv_at hl 0 rfl) ?_
      refine lv_aload_n hx hb dX7_ticksLeft_24 rfl (lv_at hl 0 rfl) ?_
      refine g7_4 X hP t0 k_555 dX7_ticksLeft_25 ?_
      obtain ⟨q_5, I_6, hc_7, h⟩ := clP_e h
      refine r_callV (As := [.ref (ga g (k0 + 3))]) [.int v1] X (c7_stepIn l g hG N _ _ _ t0 (g7_4_t t0) _ _ hc_7) cal_X7_stepIn (im_X7_stepIn) (se_X7_stepIn) k_749 (tag_lt t0 (by decide)) (by rw [lay, t0]; rfl) rfl rfl ⟨rfl, rfl⟩ ⟨Nat.le_of_ble_eq_true rfl, Nat.le_of_ble_eq_true rfl⟩ hP hS hl.1 rfl (Nat.le_of_ble_eq_true rfl) dX7_ticksLeft_28 ⟨Nat.zero_le _, Nat.zero_le _⟩ (fun H locs hP hS => ?_)
      show W p l e rm7_ticksLeft s m args below meth c H locs 0 0 _ (F0 m 31 ls [.int q_5, .int v1])
      refine lv_iadd hx hb dX7_ticksLeft_31 ?_
      obtain ⟨x_8, ex_8, h⟩ := letM_e h
      refine r_nmi ex_8 ?_
      refine lv_istore_n (lv' := [(1, .int x_8), (0, .ref (ga g k0))]) hx hb dX7_ticksLeft_32 rfl hl (by decide) rfl (fun ls hl => ?_)
      refine lv_goto (tgt := 13) hx hb dX7_ticksLeft_33 (by decide) ?_
      exact ih I_6 x_8 h _ _ _ hP hS (lv_sub hl [1, 0] rfl)
set_option maxHeartbeats 4000000 in
set_option maxRecDepth 100000 in
theorem c7_ticksLeft (l : Launch) (g : GG) (hG : Apart g NT) (N : Nat) (I : Mem) (k0 : Nat) (t0 : tag k0 = 6) (r0 : Int32) (I0 : Mem) (h : f7_ticksLeft N I k0 = some (r0, I0)) : Mc l g yX7_ticksLeft cX7_ticksLeft 2 (some .int) rm7_ticksLeft I [.ref (ga g k0)] (some (.int r0)) I0 := by
  refine Mc.of hG (by decide +kernel) (Nat.le_of_ble_eq_true rfl) ?_
  intro p e s m args below meth c ls X hr hlk hP hS hl
  have X : Cx g p s m args c cX7_ticksLeft RX7 2 := X
  have hx := X.hx
  have hb := X.hb
  have hl : lv_has ls 2 [(0, .ref (ga g k0))] := hl
  have locs : List Loc := []
  unfold f7_ticksLeft at h
  refine lv_aload_n hx hb dX7_ticksLeft_0 rfl (lv_at hl 0 rfl) ?_
  refine g7_3 X hP t0 k_554 dX7_ticksLeft_1 ?_
  refine lv_aload_n hx hb dX7_ticksLeft_4 rfl (lv_at hl 0 rfl) ?_
  refine g7_4 X hP t0 k_555 dX7_ticksLeft_5 ?_
  obtain ⟨I_2, hc_3, h⟩ := clM_e h
  refine r_callS (As := [.ref (ga g (k0 + 2)), .ref (ga g (k0 + 3))]) [] X (c7_copy l g hG N _ _ _ (g7_3_t t0) (g7_4_t t0) _ hc_3) cal_X7_copy (sc_X7_copy) k_648 rfl ⟨rfl, rfl⟩ ⟨Nat.le_of_ble_eq_true rfl, Nat.le_of_ble_eq_true rfl⟩ hP hS hl.1 rfl (Nat.le_of_ble_eq_true rfl) dX7_ticksLeft_8 ⟨Nat.zero_le _, Nat.zero_le _⟩ (fun H locs hP hS => ?_)
  show W p l e rm7_ticksLeft s m args below meth c H locs 0 0 _ (F0 m 11 ls [])
  refine lv_iconst (v := (0 : Int32)) hx hb dX7_ticksLeft_11 (by decide +kernel) ?_
  refine lv_istore_n (lv' := [(1, .int (0 : Int32)), (0, .ref (ga g k0))]) hx hb dX7_ticksLeft_12 rfl hl (by decide) rfl (fun ls hl => ?_)
  exact L7_ticksLeft_13 hG N k0 t0 X hr hlk r0 I0 N I_2 (0 : Int32) h _ _ _ hP hS (lv_sub hl [1, 0] rfl)
abbrev rm7_moveTicks : Room := { frames := 5, cells := 0, slots := 0, locals := 121 }
def f7_moveTicks (N : Nat) (I : Mem) (k0 : Nat) (a1 : Int32) : Option (Int32 × Mem) :=
    clP (f7_in N I a1.toInt64 (1 : Int64) (999 : Int64)) (fun (q_1 : Int32) (I_2 : Mem) =>
    if q_1 = (0 : Int32) then
    some ((-2 : Int32), I_2)
    else
    clP (f7_ticksOf N I_2 k0 (I_2 (k0 + 2) 0) (I_2 (k0 + 2) 1) a1) (fun (q_5 : Int32) (I_6 : Mem) =>
    some (q_5, I_6)))
set_option maxHeartbeats 4000000 in
set_option maxRecDepth 100000 in
theorem c7_moveTicks (l : Launch) (g : GG) (hG : Apart g NT) (N : Nat) (I : Mem) (k0 : Nat) (a1 : Int32) (t0 : tag k0 = 6) (r0 : Int32) (I0 : Mem) (h : f7_moveTicks N I k0 a1 = some (r0, I0)) : Mc l g yX7_moveTicks cX7_moveTicks 2 (some .int) rm7_moveTicks I [.ref (ga g k0), .int a1] (some (.int r0)) I0 := by
  refine Mc.of hG (by decide +kernel) (Nat.le_of_ble_eq_true rfl) ?_
  intro p e s m args below meth c ls X hr hlk hP hS hl
  have X : Cx g p s m args c cX7_moveTicks RX7 2 := X
  have hx := X.hx
  have hb := X.hb
  have hl : lv_has ls 2 [(0, .ref (ga g k0)), (1, .int a1)] := hl
  have locs : List Loc := []
  unfold f7_moveTicks at h
  refine lv_iload_n hx hb dX7_moveTicks_0 rfl (lv_at hl 1 rfl) ?_
  refine lv_i2l (v := a1.toInt64) hx hb dX7_moveTicks_1 (by rfl) ?_
  refine lv_lconst (v := (1 : Int64)) hx hb dX7_moveTicks_2 (by decide +kernel) ?_
  refine lv_ldc2 (v := (999 : Int64)) hx hb X.ow (X.hts _ k_643) dX7_moveTicks_3 ?_
  obtain ⟨q_1, I_2, hc_3, h⟩ := clP_e h
  refine r_callS (As := [.long a1.toInt64, .long (1 : Int64), .long (999 : Int64)]) [] X (c7_in l g hG N _ _ _ _ _ _ hc_3) cal_X7_in (sc_X7_in) k_609 rfl ⟨rfl, rfl⟩ ⟨Nat.le_of_ble_eq_true rfl, Nat.le_of_ble_eq_true rfl⟩ hP hS hl.1 rfl (Nat.le_of_ble_eq_true rfl) dX7_moveTicks_6 ⟨Nat.zero_le _, Nat.zero_le _⟩ (fun H locs hP hS => ?_)
  show W p l e rm7_moveTicks s m args below meth c H locs 0 0 _ (F0 m 9 ls [.int q_1])
  refine lv_if_eq (tgt := 32) hx hb dX7_moveTicks_9 (by decide) (fun c_4 => ?_) (fun c_4 => ?_)
  · replace h := ifp c_4 h
    refine lv_bipush (v := (-2 : Int32)) hx hb dX7_moveTicks_32 (by decide +kernel) ?_
    exact r_iret X hr hlk hP hS dX7_moveTicks_34 h
  · replace h := ifn c_4 h
    refine lv_aload_n hx hb dX7_moveTicks_12 rfl (lv_at hl 0 rfl) ?_
    refine lv_aload_n hx hb dX7_moveTicks_13 rfl (lv_at hl 0 rfl) ?_
    refine g7_3 X hP t0 k_554 dX7_moveTicks_14 ?_
    refine lv_iconst (v := (0 : Int32)) hx hb dX7_moveTicks_17 (by decide +kernel) ?_
    refine r_iald (n := 33) X hP (g7_3_t t0) (by decide +kernel) (j := 0) (by decide +kernel) dX7_moveTicks_18 ?_
    refine lv_aload_n hx hb dX7_moveTicks_19 rfl (lv_at hl 0 rfl) ?_
    refine g7_3 X hP t0 k_554 dX7_moveTicks_20 ?_
    refine lv_iconst (v := (1 : Int32)) hx hb dX7_moveTicks_23 (by decide +kernel) ?_
    refine r_iald (n := 33) X hP (g7_3_t t0) (by decide +kernel) (j := 1) (by decide +kernel) dX7_moveTicks_24 ?_
    refine lv_iload_n hx hb dX7_moveTicks_25 rfl (lv_at hl 1 rfl) ?_
    obtain ⟨q_5, I_6, hc_7, h⟩ := clP_e h
    refine r_callV (As := [.int (I_2 (k0 + 2) 0), .int (I_2 (k0 + 2) 1), .int a1]) [] X (c7_ticksOf l g hG N _ _ _ _ _ t0 _ _ hc_7) cal_X7_ticksOf (im_X7_ticksOf) (se_X7_ticksOf) k_805 (tag_lt t0 (by decide)) (by rw [lay, t0]; rfl) rfl rfl ⟨rfl, rfl⟩ ⟨Nat.le_of_ble_eq_true rfl, Nat.le_of_ble_eq_true rfl⟩ hP hS hl.1 rfl (Nat.le_of_ble_eq_true rfl) dX7_moveTicks_26 ⟨Nat.zero_le _, Nat.zero_le _⟩ (fun H locs hP hS => ?_)
    show W p l e rm7_moveTicks s m args below meth c H locs 0 0 _ (F0 m 29 ls [.int q_5])
    refine lv_goto (tgt := 34) hx hb dX7_moveTicks_29 (by decide) ?_
    exact r_iret X hr hlk hP hS dX7_moveTicks_34 h
abbrev rm7_positionAfter : Room := { frames := 9, cells := 0, slots := 0, locals := 210 }
def f7_positionAfter (N : Nat) (I : Mem) (k0 : Nat) (a1 : Int32) (a2 : Int32) : Option (Int32 × Mem) :=
    clP (f7_in N I a1.toInt64 (0 : Int64) (1 : Int64)) (fun (q_1 : Int32) (I_2 : Mem) =>
    if q_1 = (0 : Int32) then
    some ((-1 : Int32), I_2)
    else
    clP (f7_in N I_2 a2.toInt64 (0 : Int64) (99999 : Int64)) (fun (q_5 : Int32) (I_6 : Mem) =>
    if q_5 = (0 : Int32) then
    some ((-2 : Int32), I_6)
    else
    clM (f7_copy N I_6 (k0 + 2) (k0 + 3)) (fun I_10 : Mem =>
    clP (f7_runIn N I_10 k0 (k0 + 3) a2) (fun (q_12 : Int32) (I_13 : Mem) =>
    if (((2 : Int32) + a1) < (0 : Int32) ∨ 33 ≤ ((2 : Int32) + a1).toNatClampNeg) then none else
    some (((I_13 (k0 + 3) (((2 : Int32) + a1).toNatClampNeg)) + (100000 : Int32)), I_13)))))
set_option maxHeartbeats 4000000 in
set_option maxRecDepth 100000 in
theorem c7_positionAfter (l : Launch) (g : GG) (hG : Apart g NT) (N : Nat) (I : Mem) (k0 : Nat) (a1 : Int32) (a2 : Int32) (t0 : tag k0 = 6) (r0 : Int32) (I0 : Mem) (h : f7_positionAfter N I k0 a1 a2 = some (r0, I0)) : Mc l g yX7_positionAfter cX7_positionAfter 4 (some .int) rm7_positionAfter I [.ref (ga g k0), .int a1, .int a2] (some (.int r0)) I0 := by
  refine Mc.of hG (by decide +kernel) (Nat.le_of_ble_eq_true rfl) ?_
  intro p e s m args below meth c ls X hr hlk hP hS hl
  have X : Cx g p s m args c cX7_positionAfter RX7 4 := X
  have hx := X.hx
  have hb := X.hb
  have hl : lv_has ls 4 [(0, .ref (ga g k0)), (1, .int a1), (2, .int a2)] := hl
  have locs : List Loc := []
  unfold f7_positionAfter at h
  refine lv_iload_n hx hb dX7_positionAfter_0 rfl (lv_at hl 1 rfl) ?_
  refine lv_i2l (v := a1.toInt64) hx hb dX7_positionAfter_1 (by rfl) ?_
  refine lv_lconst (v := (0 : Int64)) hx hb dX7_positionAfter_2 (by decide +kernel) ?_
  refine lv_lconst (v := (1 : Int64)) hx hb dX7_positionAfter_3 (by decide +kernel) ?_
  obtain ⟨q_1, I_2, hc_3, h⟩ := clP_e h
  refine r_callS (As := [.long a1.toInt64, .long (0 : Int64), .long (1 : Int64)]) [] X (c7_in l g hG N _ _ _ _ _ _ hc_3) cal_X7_in (sc_X7_in) k_609 rfl ⟨rfl, rfl⟩ ⟨Nat.le_of_ble_eq_true rfl, Nat.le_of_ble_eq_true rfl⟩ hP hS hl.1 rfl (Nat.le_of_ble_eq_true rfl) dX7_positionAfter_4 ⟨Nat.zero_le _, Nat.zero_le _⟩ (fun H locs hP hS => ?_)
  show W p l e rm7_positionAfter s m args below meth c H locs 0 0 _ (F0 m 7 ls [.int q_1])
  refine lv_if_ne (tgt := 12) hx hb dX7_positionAfter_7 (by decide) (fun c_4 => ?_) (fun c_4 => ?_)
  · replace h := ifn c_4 h
    refine lv_iload_n hx hb dX7_positionAfter_12 rfl (lv_at hl 2 rfl) ?_
    refine lv_i2l (v := a2.toInt64) hx hb dX7_positionAfter_13 (by rfl) ?_
    refine lv_lconst (v := (0 : Int64)) hx hb dX7_positionAfter_14 (by decide +kernel) ?_
    refine lv_ldc2 (v := (99999 : Int64)) hx hb X.ow (X.hts _ k_777) dX7_positionAfter_15 ?_
    obtain ⟨q_5, I_6, hc_7, h⟩ := clP_e h
    refine r_callS (As := [.long a2.toInt64, .long (0 : Int64), .long (99999 : Int64)]) [] X (c7_in l g hG N _ _ _ _ _ _ hc_7) cal_X7_in (sc_X7_in) k_609 rfl ⟨rfl, rfl⟩ ⟨Nat.le_of_ble_eq_true rfl, Nat.le_of_ble_eq_true rfl⟩ hP hS hl.1 rfl (Nat.le_of_ble_eq_true rfl) dX7_positionAfter_18 ⟨Nat.zero_le _, Nat.zero_le _⟩ (fun H locs hP hS => ?_)
    show W p l e rm7_positionAfter s m args below meth c H locs 0 0 _ (F0 m 21 ls [.int q_5])
    refine lv_if_ne (tgt := 27) hx hb dX7_positionAfter_21 (by decide) (fun c_8 => ?_) (fun c_8 => ?_)
    · replace h := ifn c_8 h
      refine lv_aload_n hx hb dX7_positionAfter_27 rfl (lv_at hl 0 rfl) ?_
      refine g7_3 X hP t0 k_554 dX7_positionAfter_28 ?_
      refine lv_aload_n hx hb dX7_positionAfter_31 rfl (lv_at hl 0 rfl) ?_
      refine g7_4 X hP t0 k_555 dX7_positionAfter_32 ?_
      obtain ⟨I_10, hc_11, h⟩ := clM_e h
      refine r_callS (As := [.ref (ga g (k0 + 2)), .ref (ga g (k0 + 3))]) [] X (c7_copy l g hG N _ _ _ (g7_3_t t0) (g7_4_t t0) _ hc_11) cal_X7_copy (sc_X7_copy) k_648 rfl ⟨rfl, rfl⟩ ⟨Nat.le_of_ble_eq_true rfl, Nat.le_of_ble_eq_true rfl⟩ hP hS hl.1 rfl (Nat.le_of_ble_eq_true rfl) dX7_positionAfter_35 ⟨Nat.zero_le _, Nat.zero_le _⟩ (fun H locs hP hS => ?_)
      show W p l e rm7_positionAfter s m args below meth c H locs 0 0 _ (F0 m 38 ls [])
      refine lv_aload_n hx hb dX7_positionAfter_38 rfl (lv_at hl 0 rfl) ?_
      refine lv_aload_n hx hb dX7_positionAfter_39 rfl (lv_at hl 0 rfl) ?_
      refine g7_4 X hP t0 k_555 dX7_positionAfter_40 ?_
      refine lv_iload_n hx hb dX7_positionAfter_43 rfl (lv_at hl 2 rfl) ?_
      obtain ⟨q_12, I_13, hc_14, h⟩ := clP_e h
      refine r_callV (As := [.ref (ga g (k0 + 3)), .int a2]) [] X (c7_runIn l g hG N _ _ _ _ t0 (g7_4_t t0) _ _ hc_14) cal_X7_runIn (im_X7_runIn) (se_X7_runIn) k_778 (tag_lt t0 (by decide)) (by rw [lay, t0]; rfl) rfl rfl ⟨rfl, rfl⟩ ⟨Nat.le_of_ble_eq_true rfl, Nat.le_of_ble_eq_true rfl⟩ hP hS hl.1 rfl (Nat.le_of_ble_eq_true rfl) dX7_positionAfter_44 ⟨Nat.zero_le _, Nat.zero_le _⟩ (fun H locs hP hS => ?_)
      show W p l e rm7_positionAfter s m args below meth c H locs 0 0 _ (F0 m 47 ls [.int q_12])
      refine lv_istore_n (lv' := [(3, .int q_12), (0, .ref (ga g k0)), (1, .int a1), (2, .int a2)]) hx hb dX7_positionAfter_47 rfl hl (by decide) rfl (fun ls hl => ?_)
      refine lv_aload_n hx hb dX7_positionAfter_48 rfl (lv_at hl 1 rfl) ?_
      refine g7_4 X hP t0 k_555 dX7_positionAfter_49 ?_
      refine lv_iconst (v := (2 : Int32)) hx hb dX7_positionAfter_52 (by decide +kernel) ?_
      refine lv_iload_n hx hb dX7_positionAfter_53 rfl (lv_at hl 2 rfl) ?_
      refine lv_iadd hx hb dX7_positionAfter_54 ?_
      obtain ⟨g_15, h⟩ := gd_e h
      refine r_iald (n := 33) X hP (g7_4_t t0) g_15 (j := ((2 : Int32) + a1).toNatClampNeg) rfl dX7_positionAfter_55 ?_
      refine lv_ldc (v := (100000 : Int32)) hx hb X.ow (X.hts _ k_655) dX7_positionAfter_56 ?_
      refine lv_iadd hx hb dX7_positionAfter_58 ?_
      exact r_iret X hr hlk hP hS dX7_positionAfter_59 h
    · replace h := ifp c_8 h
      refine lv_bipush (v := (-2 : Int32)) hx hb dX7_positionAfter_24 (by decide +kernel) ?_
      exact r_iret X hr hlk hP hS dX7_positionAfter_26 h
  · replace h := ifp c_4 h
    refine lv_iconst (v := (-1 : Int32)) hx hb dX7_positionAfter_10 (by decide +kernel) ?_
    exact r_iret X hr hlk hP hS dX7_positionAfter_11 h
abbrev rm7_leastAcceleration : Room := { frames := 5, cells := 0, slots := 0, locals := 121 }
def f7_leastAcceleration_29 (N : Nat) (k0 : Nat) (a1 : Int32) (a2 : Int32) : Nat → Mem → Int32 → Option (Int32 × Mem)
  | 0, _, _ => none
  | cnt+1, I, v3 =>
    if (999 : Int32) < v3 then
    some ((-9 : Int32), I)
    else
    clP (f7_ticksOf N I k0 v3 (I (k0 + 2) 1) a1) (fun (q_10 : Int32) (I_11 : Mem) =>
    if a2 < q_10 then
    letM (v3 + (1 : Int32)) (fun x_14 : Int32 =>
    f7_leastAcceleration_29 N k0 a1 a2 cnt I_11 x_14)
    else
    some (v3, I_11))
def f7_leastAcceleration (N : Nat) (I : Mem) (k0 : Nat) (a1 : Int32) (a2 : Int32) : Option (Int32 × Mem) :=
    clP (f7_in N I a1.toInt64 (1 : Int64) (999 : Int64)) (fun (q_1 : Int32) (I_2 : Mem) =>
    if q_1 = (0 : Int32) then
    some ((-2 : Int32), I_2)
    else
    clP (f7_in N I_2 a2.toInt64 (1 : Int64) (99999 : Int64)) (fun (q_5 : Int32) (I_6 : Mem) =>
    if q_5 = (0 : Int32) then
    some ((-2 : Int32), I_6)
    else
    f7_leastAcceleration_29 N k0 a1 a2 N I_6 (1 : Int32)))
set_option maxHeartbeats 4000000 in
set_option maxRecDepth 100000 in
theorem L7_leastAcceleration_29 (hG : Apart g NT) (N : Nat) (k0 : Nat) (a1 : Int32) (a2 : Int32) (t0 : tag k0 = 6) (X : Cx g p s m args c cX7_leastAcceleration RX7 4) (hr : meth.sig.returnType = (some .int)) (hlk : meth.locks = false) (r0 : Int32) (I0 : Mem) : ∀ (cnt : Nat) (I : Mem) (v3 : Int32), f7_leastAcceleration_29 N k0 a1 a2 cnt I v3 = some (r0, I0) → ∀ (H : Heap) (locs : List Loc) (ls : Array Slot), Wp g I H → va_S (gA g) s.heap H locs → lv_has ls 4 [(0, .ref (ga g k0)), (1, .int a1), (2, .int a2), (3, .int v3)] → W p l e rm7_leastAcceleration s m args below meth c H locs 0 0 (MQ below (Qg g (some (.int r0)) I0) args s 0 0 (gA g)) (F0 m 29 ls []) := by
  have hx := X.hx
  have hb := X.hb
  intro cnt
  induction cnt with
  | zero =>
    intro I v3 h
    rw [f7_leastAcceleration_29] at h
    cases h
  | succ cnt ih =>
    intro I v3 h H locs ls hP hS hl
    rw [f7_leastAcceleration_29] at h
    refine lv_iload_n hx hb dX7_leastAcceleration_29 rfl (lv_at hl 3 rfl) ?_
    refine lv_sipush (v := (999 : Int32)) hx hb dX7_leastAcceleration_30 (by decide +kernel) ?_
    refine lv_icmp_gt (tgt := 60) hx hb dX7_leastAcceleration_33 (by decide) (fun c_9 => ?_) (fun c_9 => ?_)
    · replace h := ifp c_9 h
      refine lv_bipush (v := (-9 : Int32)) hx hb dX7_leastAcceleration_60 (by decide +kernel) ?_
      exact r_iret X hr hlk hP hS dX7_leastAcceleration_62 h
    · replace h := ifn c_9 h
      refine lv_aload_n hx hb dX7_leastAcceleration_36 rfl (lv_at hl 0 rfl) ?_
      refine lv_iload_n hx hb dX7_leastAcceleration_37 rfl (lv_at hl 3 rfl) ?_
      refine lv_aload_n hx hb dX7_leastAcceleration_38 rfl (lv_at hl 0 rfl) ?_
      refine g7_3 X hP t0 k_554 dX7_leastAcceleration_39 ?_
      refine lv_iconst (v := (1 : Int32)) hx hb dX7_leastAcceleration_42 (by decide +kernel) ?_
      refine r_iald (n := 33) X hP (g7_3_t t0) (by decide +kernel) (j := 1) (by decide +kernel) dX7_leastAcceleration_43 ?_
      refine lv_iload_n hx hb dX7_leastAcceleration_44 rfl (lv_at hl 1 rfl) ?_
      obtain ⟨q_10, I_11, hc_12, h⟩ := clP_e h
      refine r_callV (As := [.int v3, .int (I (k0 + 2) 1), .int a1]) [] X (c7_ticksOf l g hG N _ _ _ _ _ t0 _ _ hc_12) cal_X7_ticksOf (im_X7_ticksOf) (se_X7_ticksOf) k_805 (tag_lt t0 (by decide)) (by rw [lay, t0]; rfl) rfl rfl ⟨rfl, rfl⟩ ⟨Nat.le_of_ble_eq_true rfl, Nat.le_of_ble_eq_true rfl⟩ hP hS hl.1 rfl (Nat.le_of_ble_eq_true rfl) dX7_leastAcceleration_45 ⟨Nat.zero_le _, Nat.zero_le _⟩ (fun H locs hP hS => ?_)
      show W p l e rm7_leastAcceleration s m args below meth c H locs 0 0 _ (F0 m 48 ls [.int q_10])
      refine lv_iload_n hx hb dX7_leastAcceleration_48 rfl (lv_at hl 2 rfl) ?_
      refine lv_icmp_gt (tgt := 54) hx hb dX7_leastAcceleration_49 (by decide) (fun c_13 => ?_) (fun c_13 => ?_)
      · replace h := ifp c_13 h
        obtain ⟨x_14, ex_14, h⟩ := letM_e h
        refine lv_iinc (v := x_14) (lv' := [(3, .int x_14), (0, .ref (ga g k0)), (1, .int a1), (2, .int a2)]) hx hb dX7_leastAcceleration_54 hl (k := 3) rfl (by rw [ex_14]; rfl) (by decide) rfl (fun ls hl => ?_)
        refine lv_goto (tgt := 29) hx hb dX7_leastAcceleration_57 (by decide) ?_
        exact ih I_11 x_14 h _ _ _ hP hS (lv_sub hl [1, 2, 3, 0] rfl)
      · replace h := ifn c_13 h
        refine lv_iload_n hx hb dX7_leastAcceleration_52 rfl (lv_at hl 3 rfl) ?_
        exact r_iret X hr hlk hP hS dX7_leastAcceleration_53 h
set_option maxHeartbeats 4000000 in
set_option maxRecDepth 100000 in
theorem c7_leastAcceleration (l : Launch) (g : GG) (hG : Apart g NT) (N : Nat) (I : Mem) (k0 : Nat) (a1 : Int32) (a2 : Int32) (t0 : tag k0 = 6) (r0 : Int32) (I0 : Mem) (h : f7_leastAcceleration N I k0 a1 a2 = some (r0, I0)) : Mc l g yX7_leastAcceleration cX7_leastAcceleration 4 (some .int) rm7_leastAcceleration I [.ref (ga g k0), .int a1, .int a2] (some (.int r0)) I0 := by
  refine Mc.of hG (by decide +kernel) (Nat.le_of_ble_eq_true rfl) ?_
  intro p e s m args below meth c ls X hr hlk hP hS hl
  have X : Cx g p s m args c cX7_leastAcceleration RX7 4 := X
  have hx := X.hx
  have hb := X.hb
  have hl : lv_has ls 4 [(0, .ref (ga g k0)), (1, .int a1), (2, .int a2)] := hl
  have locs : List Loc := []
  unfold f7_leastAcceleration at h
  refine lv_iload_n hx hb dX7_leastAcceleration_0 rfl (lv_at hl 1 rfl) ?_
  refine lv_i2l (v := a1.toInt64) hx hb dX7_leastAcceleration_1 (by rfl) ?_
  refine lv_lconst (v := (1 : Int64)) hx hb dX7_leastAcceleration_2 (by decide +kernel) ?_
  refine lv_ldc2 (v := (999 : Int64)) hx hb X.ow (X.hts _ k_643) dX7_leastAcceleration_3 ?_
  obtain ⟨q_1, I_2, hc_3, h⟩ := clP_e h
  refine r_callS (As := [.long a1.toInt64, .long (1 : Int64), .long (999 : Int64)]) [] X (c7_in l g hG N _ _ _ _ _ _ hc_3) cal_X7_in (sc_X7_in) k_609 rfl ⟨rfl, rfl⟩ ⟨Nat.le_of_ble_eq_true rfl, Nat.le_of_ble_eq_true rfl⟩ hP hS hl.1 rfl (Nat.le_of_ble_eq_true rfl) dX7_leastAcceleration_6 ⟨Nat.zero_le _, Nat.zero_le _⟩ (fun H locs hP hS => ?_)
  show W p l e rm7_leastAcceleration s m args below meth c H locs 0 0 _ (F0 m 9 ls [.int q_1])
  refine lv_if_eq (tgt := 24) hx hb dX7_leastAcceleration_9 (by decide) (fun c_4 => ?_) (fun c_4 => ?_)
  · replace h := ifp c_4 h
    refine lv_bipush (v := (-2 : Int32)) hx hb dX7_leastAcceleration_24 (by decide +kernel) ?_
    exact r_iret X hr hlk hP hS dX7_leastAcceleration_26 h
  · replace h := ifn c_4 h
    refine lv_iload_n hx hb dX7_leastAcceleration_12 rfl (lv_at hl 2 rfl) ?_
    refine lv_i2l (v := a2.toInt64) hx hb dX7_leastAcceleration_13 (by rfl) ?_
    refine lv_lconst (v := (1 : Int64)) hx hb dX7_leastAcceleration_14 (by decide +kernel) ?_
    refine lv_ldc2 (v := (99999 : Int64)) hx hb X.ow (X.hts _ k_777) dX7_leastAcceleration_15 ?_
    obtain ⟨q_5, I_6, hc_7, h⟩ := clP_e h
    refine r_callS (As := [.long a2.toInt64, .long (1 : Int64), .long (99999 : Int64)]) [] X (c7_in l g hG N _ _ _ _ _ _ hc_7) cal_X7_in (sc_X7_in) k_609 rfl ⟨rfl, rfl⟩ ⟨Nat.le_of_ble_eq_true rfl, Nat.le_of_ble_eq_true rfl⟩ hP hS hl.1 rfl (Nat.le_of_ble_eq_true rfl) dX7_leastAcceleration_18 ⟨Nat.zero_le _, Nat.zero_le _⟩ (fun H locs hP hS => ?_)
    show W p l e rm7_leastAcceleration s m args below meth c H locs 0 0 _ (F0 m 21 ls [.int q_5])
    refine lv_if_ne (tgt := 27) hx hb dX7_leastAcceleration_21 (by decide) (fun c_8 => ?_) (fun c_8 => ?_)
    · replace h := ifn c_8 h
      refine lv_iconst (v := (1 : Int32)) hx hb dX7_leastAcceleration_27 (by decide +kernel) ?_
      refine lv_istore_n (lv' := [(3, .int (1 : Int32)), (0, .ref (ga g k0)), (1, .int a1), (2, .int a2)]) hx hb dX7_leastAcceleration_28 rfl hl (by decide) rfl (fun ls hl => ?_)
      exact L7_leastAcceleration_29 hG N k0 a1 a2 t0 X hr hlk r0 I0 N I_6 (1 : Int32) h _ _ _ hP hS (lv_sub hl [1, 2, 3, 0] rfl)
    · replace h := ifp c_8 h
      refine lv_bipush (v := (-2 : Int32)) hx hb dX7_leastAcceleration_24 (by decide +kernel) ?_
      exact r_iret X hr hlk hP hS dX7_leastAcceleration_26 h
abbrev rm7_greatestLength : Room := { frames := 5, cells := 0, slots := 0, locals := 121 }
def f7_greatestLength_19 (N : Nat) (k0 : Nat) (a1 : Int32) : Nat → Mem → Int32 → Option (Int32 × Mem)
  | 0, _, _ => none
  | cnt+1, I, v2 =>
    if v2 ≤ (0 : Int32) then
    some ((-9 : Int32), I)
    else
    clP (f7_ticksOf N I k0 (I (k0 + 2) 0) (I (k0 + 2) 1) v2) (fun (q_6 : Int32) (I_7 : Mem) =>
    if a1 < q_6 then
    letM (v2 + (-1 : Int32)) (fun x_10 : Int32 =>
    f7_greatestLength_19 N k0 a1 cnt I_7 x_10)
    else
    some (v2, I_7))
def f7_greatestLength (N : Nat) (I : Mem) (k0 : Nat) (a1 : Int32) : Option (Int32 × Mem) :=
    clP (f7_in N I a1.toInt64 (1 : Int64) (99999 : Int64)) (fun (q_1 : Int32) (I_2 : Mem) =>
    if q_1 = (0 : Int32) then
    some ((-2 : Int32), I_2)
    else
    f7_greatestLength_19 N k0 a1 N I_2 (999 : Int32))
set_option maxHeartbeats 4000000 in
set_option maxRecDepth 100000 in
theorem L7_greatestLength_19 (hG : Apart g NT) (N : Nat) (k0 : Nat) (a1 : Int32) (t0 : tag k0 = 6) (X : Cx g p s m args c cX7_greatestLength RX7 3) (hr : meth.sig.returnType = (some .int)) (hlk : meth.locks = false) (r0 : Int32) (I0 : Mem) : ∀ (cnt : Nat) (I : Mem) (v2 : Int32), f7_greatestLength_19 N k0 a1 cnt I v2 = some (r0, I0) → ∀ (H : Heap) (locs : List Loc) (ls : Array Slot), Wp g I H → va_S (gA g) s.heap H locs → lv_has ls 3 [(0, .ref (ga g k0)), (1, .int a1), (2, .int v2)] → W p l e rm7_greatestLength s m args below meth c H locs 0 0 (MQ below (Qg g (some (.int r0)) I0) args s 0 0 (gA g)) (F0 m 19 ls []) := by
  have hx := X.hx
  have hb := X.hb
  intro cnt
  induction cnt with
  | zero =>
    intro I v2 h
    rw [f7_greatestLength_19] at h
    cases h
  | succ cnt ih =>
    intro I v2 h H locs ls hP hS hl
    rw [f7_greatestLength_19] at h
    refine lv_iload_n hx hb dX7_greatestLength_19 rfl (lv_at hl 2 rfl) ?_
    refine lv_if_le (tgt := 52) hx hb dX7_greatestLength_20 (by decide) (fun c_5 => ?_) (fun c_5 => ?_)
    · replace h := ifp c_5 h
      refine lv_bipush (v := (-9 : Int32)) hx hb dX7_greatestLength_52 (by decide +kernel) ?_
      exact r_iret X hr hlk hP hS dX7_greatestLength_54 h
    · replace h := ifn c_5 h
      refine lv_aload_n hx hb dX7_greatestLength_23 rfl (lv_at hl 0 rfl) ?_
      refine lv_aload_n hx hb dX7_greatestLength_24 rfl (lv_at hl 0 rfl) ?_
      refine g7_3 X hP t0 k_554 dX7_greatestLength_25 ?_
      refine lv_iconst (v := (0 : Int32)) hx hb dX7_greatestLength_28 (by decide +kernel) ?_
      refine r_iald (n := 33) X hP (g7_3_t t0) (by decide +kernel) (j := 0) (by decide +kernel) dX7_greatestLength_29 ?_
      refine lv_aload_n hx hb dX7_greatestLength_30 rfl (lv_at hl 0 rfl) ?_
      refine g7_3 X hP t0 k_554 dX7_greatestLength_31 ?_
      refine lv_iconst (v := (1 : Int32)) hx hb dX7_greatestLength_34 (by decide +kernel) ?_
      refine r_iald (n := 33) X hP (g7_3_t t0) (by decide +kernel) (j := 1) (by decide +kernel) dX7_greatestLength_35 ?_
      refine lv_iload_n hx hb dX7_greatestLength_36 rfl (lv_at hl 2 rfl) ?_
      obtain ⟨q_6, I_7, hc_8, h⟩ := clP_e h
      refine r_callV (As := [.int (I (k0 + 2) 0), .int (I (k0 + 2) 1), .int v2]) [] X (c7_ticksOf l g hG N _ _ _ _ _ t0 _ _ hc_8) cal_X7_ticksOf (im_X7_ticksOf) (se_X7_ticksOf) k_805 (tag_lt t0 (by decide)) (by rw [lay, t0]; rfl) rfl rfl ⟨rfl, rfl⟩ ⟨Nat.le_of_ble_eq_true rfl, Nat.le_of_ble_eq_true rfl⟩ hP hS hl.1 rfl (Nat.le_of_ble_eq_true rfl) dX7_greatestLength_37 ⟨Nat.zero_le _, Nat.zero_le _⟩ (fun H locs hP hS => ?_)
      show W p l e rm7_greatestLength s m args below meth c H locs 0 0 _ (F0 m 40 ls [.int q_6])
      refine lv_iload_n hx hb dX7_greatestLength_40 rfl (lv_at hl 1 rfl) ?_
      refine lv_icmp_gt (tgt := 46) hx hb dX7_greatestLength_41 (by decide) (fun c_9 => ?_) (fun c_9 => ?_)
      · replace h := ifp c_9 h
        obtain ⟨x_10, ex_10, h⟩ := letM_e h
        refine lv_iinc (v := x_10) (lv' := [(2, .int x_10), (0, .ref (ga g k0)), (1, .int a1)]) hx hb dX7_greatestLength_46 hl (k := 2) rfl (by rw [ex_10]; rfl) (by decide) rfl (fun ls hl => ?_)
        refine lv_goto (tgt := 19) hx hb dX7_greatestLength_49 (by decide) ?_
        exact ih I_7 x_10 h _ _ _ hP hS (lv_sub hl [1, 2, 0] rfl)
      · replace h := ifn c_9 h
        refine lv_iload_n hx hb dX7_greatestLength_44 rfl (lv_at hl 2 rfl) ?_
        exact r_iret X hr hlk hP hS dX7_greatestLength_45 h
set_option maxHeartbeats 4000000 in
set_option maxRecDepth 100000 in
theorem c7_greatestLength (l : Launch) (g : GG) (hG : Apart g NT) (N : Nat) (I : Mem) (k0 : Nat) (a1 : Int32) (t0 : tag k0 = 6) (r0 : Int32) (I0 : Mem) (h : f7_greatestLength N I k0 a1 = some (r0, I0)) : Mc l g yX7_greatestLength cX7_greatestLength 3 (some .int) rm7_greatestLength I [.ref (ga g k0), .int a1] (some (.int r0)) I0 := by
  refine Mc.of hG (by decide +kernel) (Nat.le_of_ble_eq_true rfl) ?_
  intro p e s m args below meth c ls X hr hlk hP hS hl
  have X : Cx g p s m args c cX7_greatestLength RX7 3 := X
  have hx := X.hx
  have hb := X.hb
  have hl : lv_has ls 3 [(0, .ref (ga g k0)), (1, .int a1)] := hl
  have locs : List Loc := []
  unfold f7_greatestLength at h
  refine lv_iload_n hx hb dX7_greatestLength_0 rfl (lv_at hl 1 rfl) ?_
  refine lv_i2l (v := a1.toInt64) hx hb dX7_greatestLength_1 (by rfl) ?_
  refine lv_lconst (v := (1 : Int64)) hx hb dX7_greatestLength_2 (by decide +kernel) ?_
  refine lv_ldc2 (v := (99999 : Int64)) hx hb X.ow (X.hts _ k_777) dX7_greatestLength_3 ?_
  obtain ⟨q_1, I_2, hc_3, h⟩ := clP_e h
  refine r_callS (As := [.long a1.toInt64, .long (1 : Int64), .long (99999 : Int64)]) [] X (c7_in l g hG N _ _ _ _ _ _ hc_3) cal_X7_in (sc_X7_in) k_609 rfl ⟨rfl, rfl⟩ ⟨Nat.le_of_ble_eq_true rfl, Nat.le_of_ble_eq_true rfl⟩ hP hS hl.1 rfl (Nat.le_of_ble_eq_true rfl) dX7_greatestLength_6 ⟨Nat.zero_le _, Nat.zero_le _⟩ (fun H locs hP hS => ?_)
  show W p l e rm7_greatestLength s m args below meth c H locs 0 0 _ (F0 m 9 ls [.int q_1])
  refine lv_if_ne (tgt := 15) hx hb dX7_greatestLength_9 (by decide) (fun c_4 => ?_) (fun c_4 => ?_)
  · replace h := ifn c_4 h
    refine lv_sipush (v := (999 : Int32)) hx hb dX7_greatestLength_15 (by decide +kernel) ?_
    refine lv_istore_n (lv' := [(2, .int (999 : Int32)), (0, .ref (ga g k0)), (1, .int a1)]) hx hb dX7_greatestLength_18 rfl hl (by decide) rfl (fun ls hl => ?_)
    exact L7_greatestLength_19 hG N k0 a1 t0 X hr hlk r0 I0 N I_2 (999 : Int32) h _ _ _ hP hS (lv_sub hl [1, 2, 0] rfl)
  · replace h := ifp c_4 h
    refine lv_bipush (v := (-2 : Int32)) hx hb dX7_greatestLength_12 (by decide +kernel) ?_
    exact r_iret X hr hlk hP hS dX7_greatestLength_14 h
abbrev rm7_command : Room := { frames := 8, cells := 0, slots := 0, locals := 186 }
def f7_command_58 (N : Nat) (k0 : Nat) (a1 : Int32) (a2 : Int32) : Nat → Mem → Int32 → Int32 → Option (Int32 × Mem)
  | 0, _, _, _ => none
  | cnt+1, I, v3, v4 =>
    if a2 ≤ v4 then
    some ((1 : Int32), I)
    else
    if (I (k0 + 3) 5) ≤ (0 : Int32) then
    some ((1 : Int32), I)
    else
    clP (f7_stepIn N I k0 (k0 + 3)) (fun (q_6 : Int32) (I_7 : Mem) =>
    letM (v3 + q_6) (fun x_9 : Int32 =>
    letM (v4 + (1 : Int32)) (fun x_10 : Int32 =>
    f7_command_58 N k0 a1 a2 cnt I_7 x_9 x_10)))
def f7_command (N : Nat) (I : Mem) (k0 : Nat) (a1 : Int32) (a2 : Int32) : Option (Int32 × Mem) :=
    if a1 = nI 1 then
    if a2 = (0 : Int32) then
    some ((0 : Int32), I)
    else
    if (I (k0 + 3) 5) = (0 : Int32) then
    some ((0 : Int32), I)
    else
    f7_command_58 N k0 a1 a2 N I (0 : Int32) (0 : Int32)
    else
    if a1 = nI 2 then
    if a2 = (0 : Int32) then
    some ((0 : Int32), I)
    else
    letM (st I (k0 + 3) 1 a2) (fun I_13 : Mem =>
    some ((1 : Int32), I_13))
    else
    if a1 = nI 3 then
    if a2 = (0 : Int32) then
    clP (f7_isUnderWay N I (k0 + 3)) (fun (q_16 : Int32) (I_17 : Mem) =>
    if q_16 = (0 : Int32) then
    some ((0 : Int32), I_17)
    else
    clP (f7_stopIn N I_17 (k0 + 3)) (fun (q_20 : Int32) (I_21 : Mem) =>
    some ((1 : Int32), I_21)))
    else
    some ((0 : Int32), I)
    else
    if a1 = nI 4 then
    if (I (k0 + 3) 2) = a2 then
    some ((1 : Int32), I)
    else
    some ((0 : Int32), I)
    else
    if a1 = nI 5 then
    clP (f7_isUnderWay N I (k0 + 3)) (fun (q_26 : Int32) (I_27 : Mem) =>
    if q_26 = (0 : Int32) then
    some ((0 : Int32), I_27)
    else
    if (I_27 (k0 + 3) 7) = a2 then
    some ((1 : Int32), I_27)
    else
    some ((0 : Int32), I_27))
    else
    if a1 = nI 6 then
    if (10 : Int32) ≤ a2 then
    some ((0 : Int32), I)
    else
    if (I (k0 + 3) 5) = a2 then
    some ((1 : Int32), I)
    else
    some ((0 : Int32), I)
    else
    some ((0 : Int32), I)
set_option maxHeartbeats 4000000 in
set_option maxRecDepth 100000 in
theorem L7_command_58 (hG : Apart g NT) (N : Nat) (k0 : Nat) (a1 : Int32) (a2 : Int32) (t0 : tag k0 = 6) (X : Cx g p s m args c cX7_command RX7 5) (hr : meth.sig.returnType = (some .boolean)) (hlk : meth.locks = false) (r0 : Int32) (I0 : Mem) : ∀ (cnt : Nat) (I : Mem) (v3 : Int32) (v4 : Int32), f7_command_58 N k0 a1 a2 cnt I v3 v4 = some (r0, I0) → ∀ (H : Heap) (locs : List Loc) (ls : Array Slot), Wp g I H → va_S (gA g) s.heap H locs → lv_has ls 5 [(0, .ref (ga g k0)), (2, .int a2), (3, .int v3), (4, .int v4)] → W p l e rm7_command s m args below meth c H locs 0 0 (MQ below (Qg g (some (.int r0)) I0) args s 0 0 (gA g)) (F0 m 58 ls []) := by
  have hx := X.hx
  have hb := X.hb
  intro cnt
  induction cnt with
  | zero =>
    intro I v3 v4 h
    rw [f7_command_58] at h
    cases h
  | succ cnt ih =>
    intro I v3 v4 h H locs ls hP hS hl
    rw [f7_command_58] at h
    refine lv_iload hx hb dX7_command_58 (lv_at hl 3 rfl) ?_
    refine lv_iload_n hx hb dX7_command_60 rfl (lv_at hl 1 rfl) ?_
    refine lv_icmp_ge (tgt := 90) hx hb dX7_command_61 (by decide) (fun c_4 => ?_) (fun c_4 => ?_)
    · replace h := ifp c_4 h
      refine lv_iconst (v := (1 : Int32)) hx hb dX7_command_90 (by decide +kernel) ?_
      exact r_zret X hr hlk hP hS rfl dX7_command_91 h
    · replace h := ifn c_4 h
      refine lv_aload_n hx hb dX7_command_64 rfl (lv_at hl 0 rfl) ?_
      refine g7_4 X hP t0 k_555 dX7_command_65 ?_
      refine lv_iconst (v := (5 : Int32)) hx hb dX7_command_68 (by decide +kernel) ?_
      refine r_iald (n := 33) X hP (g7_4_t t0) (by decide +kernel) (j := 5) (by decide +kernel) dX7_command_69 ?_
      refine lv_if_le (tgt := 90) hx hb dX7_command_70 (by decide) (fun c_5 => ?_) (fun c_5 => ?_)
      · replace h := ifp c_5 h
        refine lv_iconst (v := (1 : Int32)) hx hb dX7_command_90 (by decide +kernel) ?_
        exact r_zret X hr hlk hP hS rfl dX7_command_91 h
      · replace h := ifn c_5 h
        refine lv_iload_n hx hb dX7_command_73 rfl (lv_at hl 2 rfl) ?_
        refine lv_aload_n hx hb dX7_command_74 rfl (lv_at hl 0 rfl) ?_
        refine lv_aload_n hx hb dX7_command_75 rfl (lv_at hl 0 rfl) ?_
        refine g7_4 X hP t0 k_555 dX7_command_76 ?_
        obtain ⟨q_6, I_7, hc_8, h⟩ := clP_e h
        refine r_callV (As := [.ref (ga g (k0 + 3))]) [.int v3] X (c7_stepIn l g hG N _ _ _ t0 (g7_4_t t0) _ _ hc_8) cal_X7_stepIn (im_X7_stepIn) (se_X7_stepIn) k_749 (tag_lt t0 (by decide)) (by rw [lay, t0]; rfl) rfl rfl ⟨rfl, rfl⟩ ⟨Nat.le_of_ble_eq_true rfl, Nat.le_of_ble_eq_true rfl⟩ hP hS hl.1 rfl (Nat.le_of_ble_eq_true rfl) dX7_command_79 ⟨Nat.zero_le _, Nat.zero_le _⟩ (fun H locs hP hS => ?_)
        show W p l e rm7_command s m args below meth c H locs 0 0 _ (F0 m 82 ls [.int q_6, .int v3])
        refine lv_iadd hx hb dX7_command_82 ?_
        obtain ⟨x_9, ex_9, h⟩ := letM_e h
        refine r_nmi ex_9 ?_
        refine lv_istore_n (lv' := [(3, .int x_9), (0, .ref (ga g k0)), (2, .int a2), (4, .int v4)]) hx hb dX7_command_83 rfl hl (by decide) rfl (fun ls hl => ?_)
        obtain ⟨x_10, ex_10, h⟩ := letM_e h
        refine lv_iinc (v := x_10) (lv' := [(4, .int x_10), (3, .int x_9), (0, .ref (ga g k0)), (2, .int a2)]) hx hb dX7_command_84 hl (k := 3) rfl (by rw [ex_10]; rfl) (by decide) rfl (fun ls hl => ?_)
        refine lv_goto (tgt := 58) hx hb dX7_command_87 (by decide) ?_
        exact ih I_7 x_9 x_10 h _ _ _ hP hS (lv_sub hl [2, 3, 1, 0] rfl)
set_option maxHeartbeats 4000000 in
set_option maxRecDepth 100000 in
theorem c7_command (l : Launch) (g : GG) (hG : Apart g NT) (N : Nat) (I : Mem) (k0 : Nat) (a1 : Int32) (a2 : Int32) (t0 : tag k0 = 6) (r0 : Int32) (I0 : Mem) (h : f7_command N I k0 a1 a2 = some (r0, I0)) : Mc l g yX7_command cX7_command 5 (some .boolean) rm7_command I [.ref (ga g k0), .int a1, .int a2] (some (.int r0)) I0 := by
  refine Mc.of hG (by decide +kernel) (Nat.le_of_ble_eq_true rfl) ?_
  intro p e s m args below meth c ls X hr hlk hP hS hl
  have X : Cx g p s m args c cX7_command RX7 5 := X
  have hx := X.hx
  have hb := X.hb
  have hl : lv_has ls 5 [(0, .ref (ga g k0)), (1, .int a1), (2, .int a2)] := hl
  have locs : List Loc := []
  unfold f7_command at h
  refine lv_iconst (v := (0 : Int32)) hx hb dX7_command_0 (by decide +kernel) ?_
  refine lv_istore_n (lv' := [(3, .int (0 : Int32)), (0, .ref (ga g k0)), (1, .int a1), (2, .int a2)]) hx hb dX7_command_1 rfl hl (by decide) rfl (fun ls hl => ?_)
  refine lv_iload_n hx hb dX7_command_2 rfl (lv_at hl 2 rfl) ?_
  by_cases c_1 : a1 = nI 1
  · replace h := ifp c_1 h
    refine lv_tableIn (off := 37) (tgt := 40) hx hb dX7_command_3 (by rw [c_1]; decide +kernel) (by rw [c_1]; decide +kernel) (by rw [c_1]; decide +kernel) (by decide) ?_
    refine lv_iload_n hx hb dX7_command_40 rfl (lv_at hl 3 rfl) ?_
    refine lv_if_eq (tgt := 53) hx hb dX7_command_41 (by decide) (fun c_2 => ?_) (fun c_2 => ?_)
    · replace h := ifp c_2 h
      refine lv_iconst (v := (0 : Int32)) hx hb dX7_command_53 (by decide +kernel) ?_
      exact r_zret X hr hlk hP hS rfl dX7_command_54 h
    · replace h := ifn c_2 h
      refine lv_aload_n hx hb dX7_command_44 rfl (lv_at hl 1 rfl) ?_
      refine g7_4 X hP t0 k_555 dX7_command_45 ?_
      refine lv_iconst (v := (5 : Int32)) hx hb dX7_command_48 (by decide +kernel) ?_
      refine r_iald (n := 33) X hP (g7_4_t t0) (by decide +kernel) (j := 5) (by decide +kernel) dX7_command_49 ?_
      refine lv_if_ne (tgt := 55) hx hb dX7_command_50 (by decide) (fun c_3 => ?_) (fun c_3 => ?_)
      · replace h := ifn c_3 h
        refine lv_iconst (v := (0 : Int32)) hx hb dX7_command_55 (by decide +kernel) ?_
        refine lv_istore (lv' := [(4, .int (0 : Int32)), (3, .int (0 : Int32)), (0, .ref (ga g k0)), (1, .int a1), (2, .int a2)]) hx hb dX7_command_56 hl (by decide) rfl (fun ls hl => ?_)
        exact L7_command_58 hG N k0 a1 a2 t0 X hr hlk r0 I0 N I (0 : Int32) (0 : Int32) h _ _ _ hP hS (lv_sub hl [2, 4, 1, 0] rfl)
      · replace h := ifp c_3 h
        refine lv_iconst (v := (0 : Int32)) hx hb dX7_command_53 (by decide +kernel) ?_
        exact r_zret X hr hlk hP hS rfl dX7_command_54 h
  · replace h := ifn c_1 h
    by_cases c_11 : a1 = nI 2
    · replace h := ifp c_11 h
      refine lv_tableIn (off := 89) (tgt := 92) hx hb dX7_command_3 (by rw [c_11]; decide +kernel) (by rw [c_11]; decide +kernel) (by rw [c_11]; decide +kernel) (by decide) ?_
      refine lv_iload_n hx hb dX7_command_92 rfl (lv_at hl 3 rfl) ?_
      refine lv_if_ne (tgt := 98) hx hb dX7_command_93 (by decide) (fun c_12 => ?_) (fun c_12 => ?_)
      · replace h := ifn c_12 h
        refine lv_aload_n hx hb dX7_command_98 rfl (lv_at hl 1 rfl) ?_
        refine g7_4 X hP t0 k_555 dX7_command_99 ?_
        refine lv_iconst (v := (1 : Int32)) hx hb dX7_command_102 (by decide +kernel) ?_
        refine lv_iload_n hx hb dX7_command_103 rfl (lv_at hl 3 rfl) ?_
        obtain ⟨I_13, eI_13, h⟩ := letM_e h
        refine r_iast (n := 33) X hP hS (g7_4_t t0) (by decide +kernel) (j := 1) (by decide +kernel) eI_13 dX7_command_104 (fun H locs hP hS => ?_)
        refine lv_iconst (v := (1 : Int32)) hx hb dX7_command_105 (by decide +kernel) ?_
        exact r_zret X hr hlk hP hS rfl dX7_command_106 h
      · replace h := ifp c_12 h
        refine lv_iconst (v := (0 : Int32)) hx hb dX7_command_96 (by decide +kernel) ?_
        exact r_zret X hr hlk hP hS rfl dX7_command_97 h
    · replace h := ifn c_11 h
      by_cases c_14 : a1 = nI 3
      · replace h := ifp c_14 h
        refine lv_tableIn (off := 104) (tgt := 107) hx hb dX7_command_3 (by rw [c_14]; decide +kernel) (by rw [c_14]; decide +kernel) (by rw [c_14]; decide +kernel) (by decide) ?_
        refine lv_iload_n hx hb dX7_command_107 rfl (lv_at hl 3 rfl) ?_
        refine lv_if_ne (tgt := 121) hx hb dX7_command_108 (by decide) (fun c_15 => ?_) (fun c_15 => ?_)
        · replace h := ifn c_15 h
          refine lv_iconst (v := (0 : Int32)) hx hb dX7_command_121 (by decide +kernel) ?_
          exact r_zret X hr hlk hP hS rfl dX7_command_122 h
        · replace h := ifp c_15 h
          refine lv_aload_n hx hb dX7_command_111 rfl (lv_at hl 1 rfl) ?_
          refine g7_4 X hP t0 k_555 dX7_command_112 ?_
          obtain ⟨q_16, I_17, hc_18, h⟩ := clP_e h
          refine r_callS (As := [.ref (ga g (k0 + 3))]) [] X (c7_isUnderWay l g hG N _ _ (g7_4_t t0) _ _ hc_18) cal_X7_isUnderWay (sc_X7_isUnderWay) k_668 rfl ⟨rfl, rfl⟩ ⟨Nat.le_of_ble_eq_true rfl, Nat.le_of_ble_eq_true rfl⟩ hP hS hl.1 rfl (Nat.le_of_ble_eq_true rfl) dX7_command_115 ⟨Nat.zero_le _, Nat.zero_le _⟩ (fun H locs hP hS => ?_)
          show W p l e rm7_command s m args below meth c H locs 0 0 _ (F0 m 118 ls [.int q_16])
          refine lv_if_ne (tgt := 123) hx hb dX7_command_118 (by decide) (fun c_19 => ?_) (fun c_19 => ?_)
          · replace h := ifn c_19 h
            refine lv_aload_n hx hb dX7_command_123 rfl (lv_at hl 1 rfl) ?_
            refine g7_4 X hP t0 k_555 dX7_command_124 ?_
            obtain ⟨q_20, I_21, hc_22, h⟩ := clP_e h
            refine r_callS (As := [.ref (ga g (k0 + 3))]) [] X (c7_stopIn l g hG N _ _ (g7_4_t t0) _ _ hc_22) cal_X7_stopIn (sc_X7_stopIn) k_786 rfl ⟨rfl, rfl⟩ ⟨Nat.le_of_ble_eq_true rfl, Nat.le_of_ble_eq_true rfl⟩ hP hS hl.1 rfl (Nat.le_of_ble_eq_true rfl) dX7_command_127 ⟨Nat.zero_le _, Nat.zero_le _⟩ (fun H locs hP hS => ?_)
            show W p l e rm7_command s m args below meth c H locs 0 0 _ (F0 m 130 ls [.int q_20])
            refine lv_istore_n (lv' := [(3, .int q_20), (0, .ref (ga g k0)), (1, .int a1), (2, .int a2)]) hx hb dX7_command_130 rfl hl (by decide) rfl (fun ls hl => ?_)
            refine lv_iconst (v := (1 : Int32)) hx hb dX7_command_131 (by decide +kernel) ?_
            exact r_zret X hr hlk hP hS rfl dX7_command_132 h
          · replace h := ifp c_19 h
            refine lv_iconst (v := (0 : Int32)) hx hb dX7_command_121 (by decide +kernel) ?_
            exact r_zret X hr hlk hP hS rfl dX7_command_122 h
      · replace h := ifn c_14 h
        by_cases c_23 : a1 = nI 4
        · replace h := ifp c_23 h
          refine lv_tableIn (off := 130) (tgt := 133) hx hb dX7_command_3 (by rw [c_23]; decide +kernel) (by rw [c_23]; decide +kernel) (by rw [c_23]; decide +kernel) (by decide) ?_
          refine lv_aload_n hx hb dX7_command_133 rfl (lv_at hl 1 rfl) ?_
          refine g7_4 X hP t0 k_555 dX7_command_134 ?_
          refine lv_iconst (v := (2 : Int32)) hx hb dX7_command_137 (by decide +kernel) ?_
          refine r_iald (n := 33) X hP (g7_4_t t0) (by decide +kernel) (j := 2) (by decide +kernel) dX7_command_138 ?_
          refine lv_iload_n hx hb dX7_command_139 rfl (lv_at hl 3 rfl) ?_
          refine lv_icmp_ne (tgt := 147) hx hb dX7_command_140 (by decide) (fun c_24 => ?_) (fun c_24 => ?_)
          · replace h := ifn c_24 h
            refine lv_iconst (v := (0 : Int32)) hx hb dX7_command_147 (by decide +kernel) ?_
            exact r_zret X hr hlk hP hS rfl dX7_command_148 h
          · replace h := ifp c_24 h
            refine lv_iconst (v := (1 : Int32)) hx hb dX7_command_143 (by decide +kernel) ?_
            refine lv_goto (tgt := 148) hx hb dX7_command_144 (by decide) ?_
            exact r_zret X hr hlk hP hS rfl dX7_command_148 h
        · replace h := ifn c_23 h
          by_cases c_25 : a1 = nI 5
          · replace h := ifp c_25 h
            refine lv_tableIn (off := 146) (tgt := 149) hx hb dX7_command_3 (by rw [c_25]; decide +kernel) (by rw [c_25]; decide +kernel) (by rw [c_25]; decide +kernel) (by decide) ?_
            refine lv_aload_n hx hb dX7_command_149 rfl (lv_at hl 1 rfl) ?_
            refine g7_4 X hP t0 k_555 dX7_command_150 ?_
            obtain ⟨q_26, I_27, hc_28, h⟩ := clP_e h
            refine r_callS (As := [.ref (ga g (k0 + 3))]) [] X (c7_isUnderWay l g hG N _ _ (g7_4_t t0) _ _ hc_28) cal_X7_isUnderWay (sc_X7_isUnderWay) k_668 rfl ⟨rfl, rfl⟩ ⟨Nat.le_of_ble_eq_true rfl, Nat.le_of_ble_eq_true rfl⟩ hP hS hl.1 rfl (Nat.le_of_ble_eq_true rfl) dX7_command_153 ⟨Nat.zero_le _, Nat.zero_le _⟩ (fun H locs hP hS => ?_)
            show W p l e rm7_command s m args below meth c H locs 0 0 _ (F0 m 156 ls [.int q_26])
            refine lv_if_eq (tgt := 174) hx hb dX7_command_156 (by decide) (fun c_29 => ?_) (fun c_29 => ?_)
            · replace h := ifp c_29 h
              refine lv_iconst (v := (0 : Int32)) hx hb dX7_command_174 (by decide +kernel) ?_
              exact r_zret X hr hlk hP hS rfl dX7_command_175 h
            · replace h := ifn c_29 h
              refine lv_aload_n hx hb dX7_command_159 rfl (lv_at hl 1 rfl) ?_
              refine g7_4 X hP t0 k_555 dX7_command_160 ?_
              refine lv_bipush (v := (7 : Int32)) hx hb dX7_command_163 (by decide +kernel) ?_
              refine r_iald (n := 33) X hP (g7_4_t t0) (by decide +kernel) (j := 7) (by decide +kernel) dX7_command_165 ?_
              refine lv_iload_n hx hb dX7_command_166 rfl (lv_at hl 3 rfl) ?_
              refine lv_icmp_ne (tgt := 174) hx hb dX7_command_167 (by decide) (fun c_30 => ?_) (fun c_30 => ?_)
              · replace h := ifn c_30 h
                refine lv_iconst (v := (0 : Int32)) hx hb dX7_command_174 (by decide +kernel) ?_
                exact r_zret X hr hlk hP hS rfl dX7_command_175 h
              · replace h := ifp c_30 h
                refine lv_iconst (v := (1 : Int32)) hx hb dX7_command_170 (by decide +kernel) ?_
                refine lv_goto (tgt := 175) hx hb dX7_command_171 (by decide) ?_
                exact r_zret X hr hlk hP hS rfl dX7_command_175 h
          · replace h := ifn c_25 h
            by_cases c_31 : a1 = nI 6
            · replace h := ifp c_31 h
              refine lv_tableIn (off := 173) (tgt := 176) hx hb dX7_command_3 (by rw [c_31]; decide +kernel) (by rw [c_31]; decide +kernel) (by rw [c_31]; decide +kernel) (by decide) ?_
              refine lv_iload_n hx hb dX7_command_176 rfl (lv_at hl 3 rfl) ?_
              refine lv_bipush (v := (10 : Int32)) hx hb dX7_command_177 (by decide +kernel) ?_
              refine lv_icmp_ge (tgt := 196) hx hb dX7_command_179 (by decide) (fun c_32 => ?_) (fun c_32 => ?_)
              · replace h := ifp c_32 h
                refine lv_iconst (v := (0 : Int32)) hx hb dX7_command_196 (by decide +kernel) ?_
                exact r_zret X hr hlk hP hS rfl dX7_command_197 h
              · replace h := ifn c_32 h
                refine lv_aload_n hx hb dX7_command_182 rfl (lv_at hl 1 rfl) ?_
                refine g7_4 X hP t0 k_555 dX7_command_183 ?_
                refine lv_iconst (v := (5 : Int32)) hx hb dX7_command_186 (by decide +kernel) ?_
                refine r_iald (n := 33) X hP (g7_4_t t0) (by decide +kernel) (j := 5) (by decide +kernel) dX7_command_187 ?_
                refine lv_iload_n hx hb dX7_command_188 rfl (lv_at hl 3 rfl) ?_
                refine lv_icmp_ne (tgt := 196) hx hb dX7_command_189 (by decide) (fun c_33 => ?_) (fun c_33 => ?_)
                · replace h := ifn c_33 h
                  refine lv_iconst (v := (0 : Int32)) hx hb dX7_command_196 (by decide +kernel) ?_
                  exact r_zret X hr hlk hP hS rfl dX7_command_197 h
                · replace h := ifp c_33 h
                  refine lv_iconst (v := (1 : Int32)) hx hb dX7_command_192 (by decide +kernel) ?_
                  refine lv_goto (tgt := 197) hx hb dX7_command_193 (by decide) ?_
                  exact r_zret X hr hlk hP hS rfl dX7_command_197 h
            · replace h := ifn c_31 h
              have hout := tsw_out (x := a1) 1 6 (fun j hj => by
                rcases (show j = 0 ∨ j = 1 ∨ j = 2 ∨ j = 3 ∨ j = 4 ∨ j = 5 by omega) with rfl | rfl | rfl | rfl | rfl | rfl <;> assumption) (by decide)
              refine lv_tableOut (tgt := 198) hx hb dX7_command_3 (hout.imp id (fun q => q)) (by decide) ?_
              refine lv_iconst (v := (0 : Int32)) hx hb dX7_command_198 (by decide +kernel) ?_
              exact r_zret X hr hlk hP hS rfl dX7_command_199 h
abbrev rm7_tenThousands : Room := { frames := 0, cells := 0, slots := 0, locals := 0 }
def f7_tenThousands_4 (N : Nat) (a0 : Int32) : Nat → Mem → Int64 → Int32 → Option (Int64 × Mem)
  | 0, _, _, _ => none
  | cnt+1, I, w1, v3 =>
    if a0 ≤ v3 then
    some (w1, I)
    else
    letM (w1 * (10000 : Int64)) (fun x_2 : Int64 =>
    letM (v3 + (1 : Int32)) (fun x_3 : Int32 =>
    f7_tenThousands_4 N a0 cnt I x_2 x_3))
def f7_tenThousands (N : Nat) (I : Mem) (a0 : Int32) : Option (Int64 × Mem) :=
    f7_tenThousands_4 N a0 N I (1 : Int64) (0 : Int32)
set_option maxHeartbeats 4000000 in
set_option maxRecDepth 100000 in
theorem L7_tenThousands_4 (hG : Apart g NT) (N : Nat) (a0 : Int32) (X : Cx g p s m args c cX7_tenThousands RX7 4) (hr : meth.sig.returnType = (some .long)) (hlk : meth.locks = false) (r0 : Int64) (I0 : Mem) : ∀ (cnt : Nat) (I : Mem) (w1 : Int64) (v3 : Int32), f7_tenThousands_4 N a0 cnt I w1 v3 = some (r0, I0) → ∀ (H : Heap) (locs : List Loc) (ls : Array Slot), Wp g I H → va_S (gA g) s.heap H locs → lv_has ls 4 [(0, .int a0), (1, .long w1), (3, .int v3)] → W p l e rm7_tenThousands s m args below meth c H locs 0 0 (MQ below (Qg g (some (.long r0)) I0) args s 0 0 (gA g)) (F0 m 4 ls []) := by
  have hx := X.hx
  have hb := X.hb
  intro cnt
  induction cnt with
  | zero =>
    intro I w1 v3 h
    rw [f7_tenThousands_4] at h
    cases h
  | succ cnt ih =>
    intro I w1 v3 h H locs ls hP hS hl
    rw [f7_tenThousands_4] at h
    refine lv_iload_n hx hb dX7_tenThousands_4 rfl (lv_at hl 2 rfl) ?_
    refine lv_iload_n hx hb dX7_tenThousands_5 rfl (lv_at hl 0 rfl) ?_
    refine lv_icmp_ge (tgt := 21) hx hb dX7_tenThousands_6 (by decide) (fun c_1 => ?_) (fun c_1 => ?_)
    · replace h := ifp c_1 h
      refine lv_lload_n hx hb dX7_tenThousands_21 rfl (lv_at hl 1 rfl) ?_
      exact r_lret X hr hlk hP hS dX7_tenThousands_22 h
    · replace h := ifn c_1 h
      refine lv_lload_n hx hb dX7_tenThousands_9 rfl (lv_at hl 1 rfl) ?_
      refine lv_ldc2 (v := (10000 : Int64)) hx hb X.ow (X.hts _ k_829) dX7_tenThousands_10 ?_
      refine lv_lmul hx hb dX7_tenThousands_13 ?_
      obtain ⟨x_2, ex_2, h⟩ := letM_e h
      refine r_nml ex_2 ?_
      refine lv_lstore_n (lv' := [(1, .long x_2), (0, .int a0), (3, .int v3)]) hx hb dX7_tenThousands_14 rfl hl (by decide) rfl (fun ls hl => ?_)
      obtain ⟨x_3, ex_3, h⟩ := letM_e h
      refine lv_iinc (v := x_3) (lv' := [(3, .int x_3), (1, .long x_2), (0, .int a0)]) hx hb dX7_tenThousands_15 hl (k := 2) rfl (by rw [ex_3]; rfl) (by decide) rfl (fun ls hl => ?_)
      refine lv_goto (tgt := 4) hx hb dX7_tenThousands_18 (by decide) ?_
      exact ih I x_2 x_3 h _ _ _ hP hS (lv_sub hl [2, 1, 0] rfl)
set_option maxHeartbeats 4000000 in
set_option maxRecDepth 100000 in
theorem c7_tenThousands (l : Launch) (g : GG) (hG : Apart g NT) (N : Nat) (I : Mem) (a0 : Int32) (r0 : Int64) (I0 : Mem) (h : f7_tenThousands N I a0 = some (r0, I0)) : Mc l g yX7_tenThousands cX7_tenThousands 4 (some .long) rm7_tenThousands I [.int a0] (some (.long r0)) I0 := by
  refine Mc.of hG (by decide +kernel) (Nat.le_of_ble_eq_true rfl) ?_
  intro p e s m args below meth c ls X hr hlk hP hS hl
  have X : Cx g p s m args c cX7_tenThousands RX7 4 := X
  have hx := X.hx
  have hb := X.hb
  have hl : lv_has ls 4 [(0, .int a0)] := hl
  have locs : List Loc := []
  unfold f7_tenThousands at h
  refine lv_lconst (v := (1 : Int64)) hx hb dX7_tenThousands_0 (by decide +kernel) ?_
  refine lv_lstore_n (lv' := [(1, .long (1 : Int64)), (0, .int a0)]) hx hb dX7_tenThousands_1 rfl hl (by decide) rfl (fun ls hl => ?_)
  refine lv_iconst (v := (0 : Int32)) hx hb dX7_tenThousands_2 (by decide +kernel) ?_
  refine lv_istore_n (lv' := [(3, .int (0 : Int32)), (1, .long (1 : Int64)), (0, .int a0)]) hx hb dX7_tenThousands_3 rfl hl (by decide) rfl (fun ls hl => ?_)
  exact L7_tenThousands_4 hG N a0 X hr hlk r0 I0 N I (1 : Int64) (0 : Int32) h _ _ _ hP hS (lv_sub hl [2, 1, 0] rfl)
abbrev rm7_runScript : Room := { frames := 9, cells := 0, slots := 0, locals := 210 }
def f7_runScript_43 (N : Nat) (k0 : Nat) (a1 : Int32) (j2 : Int64) : Nat → Mem → Int32 → Option (Int32 × Mem)
  | 0, _, _ => none
  | cnt+1, I, v4 =>
    if a1 ≤ v4 then
    some ((-9 : Int32), I)
    else
    clP (f7_tenThousands N I ((a1 - (1 : Int32)) - v4)) (fun (q_16 : Int64) (I_17 : Mem) =>
    if q_16 = (0 : Int64) then none else
    letM ((j2 / q_16) - (j2 / q_16) / (10000 : Int64) * (10000 : Int64)).toInt32 (fun x_20 : Int32 =>
    clP (f7_command N I_17 k0 (x_20 / (1000 : Int32)) (x_20 - x_20 / (1000 : Int32) * (1000 : Int32))) (fun (q_21 : Int32) (I_22 : Mem) =>
    if q_21 = (0 : Int32) then
    some (v4, I_22)
    else
    letM (v4 + (1 : Int32)) (fun x_25 : Int32 =>
    f7_runScript_43 N k0 a1 j2 cnt I_22 x_25))))
def f7_runScript (N : Nat) (I : Mem) (k0 : Nat) (a1 : Int32) (j2 : Int64) : Option (Int32 × Mem) :=
    clP (f7_in N I a1.toInt64 (1 : Int64) (4 : Int64)) (fun (q_1 : Int32) (I_2 : Mem) =>
    if q_1 = (0 : Int32) then
    some ((-2 : Int32), I_2)
    else
    clP (f7_tenThousands N I_2 a1) (fun (q_5 : Int64) (I_6 : Mem) =>
    clP (f7_in N I_6 j2 (0 : Int64) (q_5 - (1 : Int64))) (fun (q_8 : Int32) (I_9 : Mem) =>
    if q_8 = (0 : Int32) then
    some ((-2 : Int32), I_9)
    else
    clM (f7_copy N I_9 (k0 + 2) (k0 + 3)) (fun I_13 : Mem =>
    f7_runScript_43 N k0 a1 j2 N I_13 (0 : Int32)))))
set_option maxHeartbeats 4000000 in
set_option maxRecDepth 100000 in
theorem L7_runScript_43 (hG : Apart g NT) (N : Nat) (k0 : Nat) (a1 : Int32) (j2 : Int64) (t0 : tag k0 = 6) (X : Cx g p s m args c cX7_runScript RX7 6) (hr : meth.sig.returnType = (some .int)) (hlk : meth.locks = false) (r0 : Int32) (I0 : Mem) : ∀ (cnt : Nat) (I : Mem) (v4 : Int32), f7_runScript_43 N k0 a1 j2 cnt I v4 = some (r0, I0) → ∀ (H : Heap) (locs : List Loc) (ls : Array Slot), Wp g I H → va_S (gA g) s.heap H locs → lv_has ls 6 [(0, .ref (ga g k0)), (1, .int a1), (2, .long j2), (4, .int v4)] → W p l e rm7_runScript s m args below meth c H locs 0 0 (MQ below (Qg g (some (.int r0)) I0) args s 0 0 (gA g)) (F0 m 43 ls []) := by
  have hx := X.hx
  have hb := X.hb
  intro cnt
  induction cnt with
  | zero =>
    intro I v4 h
    rw [f7_runScript_43] at h
    cases h
  | succ cnt ih =>
    intro I v4 h H locs ls hP hS hl
    rw [f7_runScript_43] at h
    refine lv_iload hx hb dX7_runScript_43 (lv_at hl 3 rfl) ?_
    refine lv_iload_n hx hb dX7_runScript_45 rfl (lv_at hl 1 rfl) ?_
    refine lv_icmp_ge (tgt := 95) hx hb dX7_runScript_46 (by decide) (fun c_15 => ?_) (fun c_15 => ?_)
    · replace h := ifp c_15 h
      refine lv_bipush (v := (-9 : Int32)) hx hb dX7_runScript_95 (by decide +kernel) ?_
      exact r_iret X hr hlk hP hS dX7_runScript_97 h
    · replace h := ifn c_15 h
      refine lv_lload_n hx hb dX7_runScript_49 rfl (lv_at hl 2 rfl) ?_
      refine lv_iload_n hx hb dX7_runScript_50 rfl (lv_at hl 1 rfl) ?_
      refine lv_iconst (v := (1 : Int32)) hx hb dX7_runScript_51 (by decide +kernel) ?_
      refine lv_isub hx hb dX7_runScript_52 ?_
      refine lv_iload hx hb dX7_runScript_53 (lv_at hl 3 rfl) ?_
      refine lv_isub hx hb dX7_runScript_55 ?_
      obtain ⟨q_16, I_17, hc_18, h⟩ := clP_e h
      refine r_callS (As := [.int ((a1 - (1 : Int32)) - v4)]) [.long j2] X (c7_tenThousands l g hG N _ _ _ _ hc_18) cal_X7_tenThousands (sc_X7_tenThousands) k_826 rfl ⟨rfl, rfl⟩ ⟨Nat.le_of_ble_eq_true rfl, Nat.le_of_ble_eq_true rfl⟩ hP hS hl.1 rfl (Nat.le_of_ble_eq_true rfl) dX7_runScript_56 ⟨Nat.zero_le _, Nat.zero_le _⟩ (fun H locs hP hS => ?_)
      show W p l e rm7_runScript s m args below meth c H locs 0 0 _ (F0 m 59 ls [.long q_16, .long j2])
      obtain ⟨g_19, h⟩ := gd_e h
      refine lv_ldiv hx hb dX7_runScript_59 g_19 ?_
      refine lv_ldc2 (v := (10000 : Int64)) hx hb X.ow (X.hts _ k_829) dX7_runScript_60 ?_
      refine lv_lrem hx hb dX7_runScript_63 (by decide) ?_
      refine lv_l2i (v := ((j2 / q_16) - (j2 / q_16) / (10000 : Int64) * (10000 : Int64)).toInt32) hx hb dX7_runScript_64 (by rfl) ?_
      obtain ⟨x_20, ex_20, h⟩ := letM_e h
      refine r_nmi ex_20 ?_
      refine lv_istore (lv' := [(5, .int x_20), (0, .ref (ga g k0)), (1, .int a1), (2, .long j2), (4, .int v4)]) hx hb dX7_runScript_65 hl (by decide) rfl (fun ls hl => ?_)
      refine lv_aload_n hx hb dX7_runScript_67 rfl (lv_at hl 1 rfl) ?_
      refine lv_iload hx hb dX7_runScript_68 (lv_at hl 0 rfl) ?_
      refine lv_sipush (v := (1000 : Int32)) hx hb dX7_runScript_70 (by decide +kernel) ?_
      refine lv_idiv hx hb dX7_runScript_73 (by decide) ?_
      refine lv_iload hx hb dX7_runScript_74 (lv_at hl 0 rfl) ?_
      refine lv_sipush (v := (1000 : Int32)) hx hb dX7_runScript_76 (by decide +kernel) ?_
      refine lv_irem hx hb dX7_runScript_79 (by decide) ?_
      obtain ⟨q_21, I_22, hc_23, h⟩ := clP_e h
      refine r_callV (As := [.int (x_20 / (1000 : Int32)), .int (x_20 - x_20 / (1000 : Int32) * (1000 : Int32))]) [] X (c7_command l g hG N _ _ _ _ t0 _ _ hc_23) cal_X7_command (im_X7_command) (se_X7_command) k_830 (tag_lt t0 (by decide)) (by rw [lay, t0]; rfl) rfl rfl ⟨rfl, rfl⟩ ⟨Nat.le_of_ble_eq_true rfl, Nat.le_of_ble_eq_true rfl⟩ hP hS hl.1 rfl (Nat.le_of_ble_eq_true rfl) dX7_runScript_80 ⟨Nat.zero_le _, Nat.zero_le _⟩ (fun H locs hP hS => ?_)
      show W p l e rm7_runScript s m args below meth c H locs 0 0 _ (F0 m 83 ls [.int q_21])
      refine lv_if_ne (tgt := 89) hx hb dX7_runScript_83 (by decide) (fun c_24 => ?_) (fun c_24 => ?_)
      · replace h := ifn c_24 h
        obtain ⟨x_25, ex_25, h⟩ := letM_e h
        refine lv_iinc (v := x_25) (lv' := [(4, .int x_25), (5, .int x_20), (0, .ref (ga g k0)), (1, .int a1), (2, .long j2)]) hx hb dX7_runScript_89 hl (k := 4) rfl (by rw [ex_25]; rfl) (by decide) rfl (fun ls hl => ?_)
        refine lv_goto (tgt := 43) hx hb dX7_runScript_92 (by decide) ?_
        exact ih I_22 x_25 h _ _ _ hP hS (lv_sub hl [2, 3, 4, 0] rfl)
      · replace h := ifp c_24 h
        refine lv_iload hx hb dX7_runScript_86 (lv_at hl 4 rfl) ?_
        exact r_iret X hr hlk hP hS dX7_runScript_88 h
set_option maxHeartbeats 4000000 in
set_option maxRecDepth 100000 in
theorem c7_runScript (l : Launch) (g : GG) (hG : Apart g NT) (N : Nat) (I : Mem) (k0 : Nat) (a1 : Int32) (j2 : Int64) (t0 : tag k0 = 6) (r0 : Int32) (I0 : Mem) (h : f7_runScript N I k0 a1 j2 = some (r0, I0)) : Mc l g yX7_runScript cX7_runScript 6 (some .int) rm7_runScript I [.ref (ga g k0), .int a1, .long j2] (some (.int r0)) I0 := by
  refine Mc.of hG (by decide +kernel) (Nat.le_of_ble_eq_true rfl) ?_
  intro p e s m args below meth c ls X hr hlk hP hS hl
  have X : Cx g p s m args c cX7_runScript RX7 6 := X
  have hx := X.hx
  have hb := X.hb
  have hl : lv_has ls 6 [(0, .ref (ga g k0)), (1, .int a1), (2, .long j2)] := hl
  have locs : List Loc := []
  unfold f7_runScript at h
  refine lv_iload_n hx hb dX7_runScript_0 rfl (lv_at hl 1 rfl) ?_
  refine lv_i2l (v := a1.toInt64) hx hb dX7_runScript_1 (by rfl) ?_
  refine lv_lconst (v := (1 : Int64)) hx hb dX7_runScript_2 (by decide +kernel) ?_
  refine lv_ldc2 (v := (4 : Int64)) hx hb X.ow (X.hts _ k_825) dX7_runScript_3 ?_
  obtain ⟨q_1, I_2, hc_3, h⟩ := clP_e h
  refine r_callS (As := [.long a1.toInt64, .long (1 : Int64), .long (4 : Int64)]) [] X (c7_in l g hG N _ _ _ _ _ _ hc_3) cal_X7_in (sc_X7_in) k_609 rfl ⟨rfl, rfl⟩ ⟨Nat.le_of_ble_eq_true rfl, Nat.le_of_ble_eq_true rfl⟩ hP hS hl.1 rfl (Nat.le_of_ble_eq_true rfl) dX7_runScript_6 ⟨Nat.zero_le _, Nat.zero_le _⟩ (fun H locs hP hS => ?_)
  show W p l e rm7_runScript s m args below meth c H locs 0 0 _ (F0 m 9 ls [.int q_1])
  refine lv_if_eq (tgt := 26) hx hb dX7_runScript_9 (by decide) (fun c_4 => ?_) (fun c_4 => ?_)
  · replace h := ifp c_4 h
    refine lv_bipush (v := (-2 : Int32)) hx hb dX7_runScript_26 (by decide +kernel) ?_
    exact r_iret X hr hlk hP hS dX7_runScript_28 h
  · replace h := ifn c_4 h
    refine lv_lload_n hx hb dX7_runScript_12 rfl (lv_at hl 2 rfl) ?_
    refine lv_lconst (v := (0 : Int64)) hx hb dX7_runScript_13 (by decide +kernel) ?_
    refine lv_iload_n hx hb dX7_runScript_14 rfl (lv_at hl 1 rfl) ?_
    obtain ⟨q_5, I_6, hc_7, h⟩ := clP_e h
    refine r_callS (As := [.int a1]) [.long (0 : Int64), .long j2] X (c7_tenThousands l g hG N _ _ _ _ hc_7) cal_X7_tenThousands (sc_X7_tenThousands) k_826 rfl ⟨rfl, rfl⟩ ⟨Nat.le_of_ble_eq_true rfl, Nat.le_of_ble_eq_true rfl⟩ hP hS hl.1 rfl (Nat.le_of_ble_eq_true rfl) dX7_runScript_15 ⟨Nat.zero_le _, Nat.zero_le _⟩ (fun H locs hP hS => ?_)
    show W p l e rm7_runScript s m args below meth c H locs 0 0 _ (F0 m 18 ls [.long q_5, .long (0 : Int64), .long j2])
    refine lv_lconst (v := (1 : Int64)) hx hb dX7_runScript_18 (by decide +kernel) ?_
    refine lv_lsub hx hb dX7_runScript_19 ?_
    obtain ⟨q_8, I_9, hc_10, h⟩ := clP_e h
    refine r_callS (As := [.long j2, .long (0 : Int64), .long (q_5 - (1 : Int64))]) [] X (c7_in l g hG N _ _ _ _ _ _ hc_10) cal_X7_in (sc_X7_in) k_609 rfl ⟨rfl, rfl⟩ ⟨Nat.le_of_ble_eq_true rfl, Nat.le_of_ble_eq_true rfl⟩ hP hS hl.1 rfl (Nat.le_of_ble_eq_true rfl) dX7_runScript_20 ⟨Nat.zero_le _, Nat.zero_le _⟩ (fun H locs hP hS => ?_)
    show W p l e rm7_runScript s m args below meth c H locs 0 0 _ (F0 m 23 ls [.int q_8])
    refine lv_if_ne (tgt := 29) hx hb dX7_runScript_23 (by decide) (fun c_11 => ?_) (fun c_11 => ?_)
    · replace h := ifn c_11 h
      refine lv_aload_n hx hb dX7_runScript_29 rfl (lv_at hl 0 rfl) ?_
      refine g7_3 X hP t0 k_554 dX7_runScript_30 ?_
      refine lv_aload_n hx hb dX7_runScript_33 rfl (lv_at hl 0 rfl) ?_
      refine g7_4 X hP t0 k_555 dX7_runScript_34 ?_
      obtain ⟨I_13, hc_14, h⟩ := clM_e h
      refine r_callS (As := [.ref (ga g (k0 + 2)), .ref (ga g (k0 + 3))]) [] X (c7_copy l g hG N _ _ _ (g7_3_t t0) (g7_4_t t0) _ hc_14) cal_X7_copy (sc_X7_copy) k_648 rfl ⟨rfl, rfl⟩ ⟨Nat.le_of_ble_eq_true rfl, Nat.le_of_ble_eq_true rfl⟩ hP hS hl.1 rfl (Nat.le_of_ble_eq_true rfl) dX7_runScript_37 ⟨Nat.zero_le _, Nat.zero_le _⟩ (fun H locs hP hS => ?_)
      show W p l e rm7_runScript s m args below meth c H locs 0 0 _ (F0 m 40 ls [])
      refine lv_iconst (v := (0 : Int32)) hx hb dX7_runScript_40 (by decide +kernel) ?_
      refine lv_istore (lv' := [(4, .int (0 : Int32)), (0, .ref (ga g k0)), (1, .int a1), (2, .long j2)]) hx hb dX7_runScript_41 hl (by decide) rfl (fun ls hl => ?_)
      exact L7_runScript_43 hG N k0 a1 j2 t0 X hr hlk r0 I0 N I_13 (0 : Int32) h _ _ _ hP hS (lv_sub hl [1, 2, 3, 0] rfl)
    · replace h := ifp c_11 h
      refine lv_bipush (v := (-2 : Int32)) hx hb dX7_runScript_26 (by decide +kernel) ?_
      exact r_iret X hr hlk hP hS dX7_runScript_28 h
abbrev rm7_randomSpeeds : Room := { frames := 8, cells := 0, slots := 0, locals := 186 }
def f7_randomSpeeds_35 (N : Nat) (k0 : Nat) (j1 : Int64) (a3 : Int32) : Nat → Mem → Int64 → Int32 → Int32 → Option (Int32 × Mem)
  | 0, _, _, _, _ => none
  | cnt+1, I, w4, v6, v7 =>
    if a3 ≤ v7 then
    some (v6, I)
    else
    if (I (k0 + 3) 5) ≤ (0 : Int32) then
    some (v6, I)
    else
    letM ((w4 * (6364136223846793005 : Int64)) + (1442695040888963407 : Int64)) (fun x_10 : Int64 =>
    letM (x_10.toUInt64 >>> (((33 : Int32)).toInt64.toUInt64 &&& Int64.toUInt64 63)).toInt64.toInt32 (fun x_11 : Int32 =>
    if (x_11 - x_11 / (4 : Int32) * (4 : Int32)) = (0 : Int32) then
    letM (st I (k0 + 3) 1 (((x_11 / (4 : Int32)) - (x_11 / (4 : Int32)) / (999 : Int32) * (999 : Int32)) + (1 : Int32))) (fun I_18 : Mem =>
    clP (f7_stepIn N I_18 k0 (k0 + 3)) (fun (q_19 : Int32) (I_20 : Mem) =>
    letM (v6 + q_19) (fun x_22 : Int32 =>
    letM (v7 + (1 : Int32)) (fun x_23 : Int32 =>
    f7_randomSpeeds_35 N k0 j1 a3 cnt I_20 x_10 x_22 x_23))))
    else
    clP (f7_stepIn N I k0 (k0 + 3)) (fun (q_13 : Int32) (I_14 : Mem) =>
    letM (v6 + q_13) (fun x_16 : Int32 =>
    letM (v7 + (1 : Int32)) (fun x_17 : Int32 =>
    f7_randomSpeeds_35 N k0 j1 a3 cnt I_14 x_10 x_16 x_17)))))
def f7_randomSpeeds (N : Nat) (I : Mem) (k0 : Nat) (j1 : Int64) (a3 : Int32) : Option (Int32 × Mem) :=
    clP (f7_in N I a3.toInt64 (1 : Int64) (500 : Int64)) (fun (q_1 : Int32) (I_2 : Mem) =>
    if q_1 = (0 : Int32) then
    some ((-2 : Int32), I_2)
    else
    clM (f7_copy N I_2 (k0 + 2) (k0 + 3)) (fun I_6 : Mem =>
    f7_randomSpeeds_35 N k0 j1 a3 N I_6 j1 (0 : Int32) (0 : Int32)))
set_option maxHeartbeats 4000000 in
set_option maxRecDepth 100000 in
theorem L7_randomSpeeds_35 (hG : Apart g NT) (N : Nat) (k0 : Nat) (j1 : Int64) (a3 : Int32) (t0 : tag k0 = 6) (X : Cx g p s m args c cX7_randomSpeeds RX7 9) (hr : meth.sig.returnType = (some .int)) (hlk : meth.locks = false) (r0 : Int32) (I0 : Mem) : ∀ (cnt : Nat) (I : Mem) (w4 : Int64) (v6 : Int32) (v7 : Int32), f7_randomSpeeds_35 N k0 j1 a3 cnt I w4 v6 v7 = some (r0, I0) → ∀ (H : Heap) (locs : List Loc) (ls : Array Slot), Wp g I H → va_S (gA g) s.heap H locs → lv_has ls 9 [(0, .ref (ga g k0)), (3, .int a3), (4, .long w4), (6, .int v6), (7, .int v7)] → W p l e rm7_randomSpeeds s m args below meth c H locs 0 0 (MQ below (Qg g (some (.int r0)) I0) args s 0 0 (gA g)) (F0 m 35 ls []) := by
  have hx := X.hx
  have hb := X.hb
  intro cnt
  induction cnt with
  | zero =>
    intro I w4 v6 v7 h
    rw [f7_randomSpeeds_35] at h
    cases h
  | succ cnt ih =>
    intro I w4 v6 v7 h H locs ls hP hS hl
    rw [f7_randomSpeeds_35] at h
    refine lv_iload hx hb dX7_randomSpeeds_35 (lv_at hl 4 rfl) ?_
    refine lv_iload_n hx hb dX7_randomSpeeds_37 rfl (lv_at hl 1 rfl) ?_
    refine lv_icmp_ge (tgt := 112) hx hb dX7_randomSpeeds_38 (by decide) (fun c_8 => ?_) (fun c_8 => ?_)
    · replace h := ifp c_8 h
      refine lv_iload hx hb dX7_randomSpeeds_112 (lv_at hl 3 rfl) ?_
      exact r_iret X hr hlk hP hS dX7_randomSpeeds_114 h
    · replace h := ifn c_8 h
      refine lv_aload_n hx hb dX7_randomSpeeds_41 rfl (lv_at hl 0 rfl) ?_
      refine g7_4 X hP t0 k_555 dX7_randomSpeeds_42 ?_
      refine lv_iconst (v := (5 : Int32)) hx hb dX7_randomSpeeds_45 (by decide +kernel) ?_
      refine r_iald (n := 33) X hP (g7_4_t t0) (by decide +kernel) (j := 5) (by decide +kernel) dX7_randomSpeeds_46 ?_
      refine lv_if_le (tgt := 112) hx hb dX7_randomSpeeds_47 (by decide) (fun c_9 => ?_) (fun c_9 => ?_)
      · replace h := ifp c_9 h
        refine lv_iload hx hb dX7_randomSpeeds_112 (lv_at hl 3 rfl) ?_
        exact r_iret X hr hlk hP hS dX7_randomSpeeds_114 h
      · replace h := ifn c_9 h
        refine lv_lload hx hb dX7_randomSpeeds_50 (lv_at hl 2 rfl) ?_
        refine lv_ldc2 (v := (6364136223846793005 : Int64)) hx hb X.ow (X.hts _ k_839) dX7_randomSpeeds_52 ?_
        refine lv_lmul hx hb dX7_randomSpeeds_55 ?_
        refine lv_ldc2 (v := (1442695040888963407 : Int64)) hx hb X.ow (X.hts _ k_840) dX7_randomSpeeds_56 ?_
        refine lv_ladd hx hb dX7_randomSpeeds_59 ?_
        obtain ⟨x_10, ex_10, h⟩ := letM_e h
        refine r_nml ex_10 ?_
        refine lv_lstore (lv' := [(4, .long x_10), (0, .ref (ga g k0)), (3, .int a3), (6, .int v6), (7, .int v7)]) hx hb dX7_randomSpeeds_60 hl (by decide) rfl (fun ls hl => ?_)
        refine lv_lload hx hb dX7_randomSpeeds_62 (lv_at hl 0 rfl) ?_
        refine lv_bipush (v := (33 : Int32)) hx hb dX7_randomSpeeds_64 (by decide +kernel) ?_
        refine lv_lushr (v := (x_10.toUInt64 >>> (((33 : Int32)).toInt64.toUInt64 &&& Int64.toUInt64 63)).toInt64) hx hb dX7_randomSpeeds_66 rfl ?_
        refine lv_l2i (v := (x_10.toUInt64 >>> (((33 : Int32)).toInt64.toUInt64 &&& Int64.toUInt64 63)).toInt64.toInt32) hx hb dX7_randomSpeeds_67 (by rfl) ?_
        obtain ⟨x_11, ex_11, h⟩ := letM_e h
        refine r_nmi ex_11 ?_
        refine lv_istore (lv' := [(8, .int x_11), (4, .long x_10), (0, .ref (ga g k0)), (3, .int a3), (6, .int v6), (7, .int v7)]) hx hb dX7_randomSpeeds_68 hl (by decide) rfl (fun ls hl => ?_)
        refine lv_iload hx hb dX7_randomSpeeds_70 (lv_at hl 0 rfl) ?_
        refine lv_iconst (v := (4 : Int32)) hx hb dX7_randomSpeeds_72 (by decide +kernel) ?_
        refine lv_irem hx hb dX7_randomSpeeds_73 (by decide) ?_
        refine lv_if_ne (tgt := 93) hx hb dX7_randomSpeeds_74 (by decide) (fun c_12 => ?_) (fun c_12 => ?_)
        · replace h := ifn c_12 h
          refine lv_iload hx hb dX7_randomSpeeds_93 (lv_at hl 4 rfl) ?_
          refine lv_aload_n hx hb dX7_randomSpeeds_95 rfl (lv_at hl 2 rfl) ?_
          refine lv_aload_n hx hb dX7_randomSpeeds_96 rfl (lv_at hl 2 rfl) ?_
          refine g7_4 X hP t0 k_555 dX7_randomSpeeds_97 ?_
          obtain ⟨q_13, I_14, hc_15, h⟩ := clP_e h
          refine r_callV (As := [.ref (ga g (k0 + 3))]) [.int v6] X (c7_stepIn l g hG N _ _ _ t0 (g7_4_t t0) _ _ hc_15) cal_X7_stepIn (im_X7_stepIn) (se_X7_stepIn) k_749 (tag_lt t0 (by decide)) (by rw [lay, t0]; rfl) rfl rfl ⟨rfl, rfl⟩ ⟨Nat.le_of_ble_eq_true rfl, Nat.le_of_ble_eq_true rfl⟩ hP hS hl.1 rfl (Nat.le_of_ble_eq_true rfl) dX7_randomSpeeds_100 ⟨Nat.zero_le _, Nat.zero_le _⟩ (fun H locs hP hS => ?_)
          show W p l e rm7_randomSpeeds s m args below meth c H locs 0 0 _ (F0 m 103 ls [.int q_13, .int v6])
          refine lv_iadd hx hb dX7_randomSpeeds_103 ?_
          obtain ⟨x_16, ex_16, h⟩ := letM_e h
          refine r_nmi ex_16 ?_
          refine lv_istore (lv' := [(6, .int x_16), (8, .int x_11), (4, .long x_10), (0, .ref (ga g k0)), (3, .int a3), (7, .int v7)]) hx hb dX7_randomSpeeds_104 hl (by decide) rfl (fun ls hl => ?_)
          obtain ⟨x_17, ex_17, h⟩ := letM_e h
          refine lv_iinc (v := x_17) (lv' := [(7, .int x_17), (6, .int x_16), (8, .int x_11), (4, .long x_10), (0, .ref (ga g k0)), (3, .int a3)]) hx hb dX7_randomSpeeds_106 hl (k := 5) rfl (by rw [ex_17]; rfl) (by decide) rfl (fun ls hl => ?_)
          refine lv_goto (tgt := 35) hx hb dX7_randomSpeeds_109 (by decide) ?_
          exact ih I_14 x_10 x_16 x_17 h _ _ _ hP hS (lv_sub hl [4, 5, 3, 1, 0] rfl)
        · replace h := ifp c_12 h
          refine lv_aload_n hx hb dX7_randomSpeeds_77 rfl (lv_at hl 2 rfl) ?_
          refine g7_4 X hP t0 k_555 dX7_randomSpeeds_78 ?_
          refine lv_iconst (v := (1 : Int32)) hx hb dX7_randomSpeeds_81 (by decide +kernel) ?_
          refine lv_iload hx hb dX7_randomSpeeds_82 (lv_at hl 0 rfl) ?_
          refine lv_iconst (v := (4 : Int32)) hx hb dX7_randomSpeeds_84 (by decide +kernel) ?_
          refine lv_idiv hx hb dX7_randomSpeeds_85 (by decide) ?_
          refine lv_sipush (v := (999 : Int32)) hx hb dX7_randomSpeeds_86 (by decide +kernel) ?_
          refine lv_irem hx hb dX7_randomSpeeds_89 (by decide) ?_
          refine lv_iconst (v := (1 : Int32)) hx hb dX7_randomSpeeds_90 (by decide +kernel) ?_
          refine lv_iadd hx hb dX7_randomSpeeds_91 ?_
          obtain ⟨I_18, eI_18, h⟩ := letM_e h
          refine r_iast (n := 33) X hP hS (g7_4_t t0) (by decide +kernel) (j := 1) (by decide +kernel) eI_18 dX7_randomSpeeds_92 (fun H locs hP hS => ?_)
          refine lv_iload hx hb dX7_randomSpeeds_93 (lv_at hl 4 rfl) ?_
          refine lv_aload_n hx hb dX7_randomSpeeds_95 rfl (lv_at hl 2 rfl) ?_
          refine lv_aload_n hx hb dX7_randomSpeeds_96 rfl (lv_at hl 2 rfl) ?_
          refine g7_4 X hP t0 k_555 dX7_randomSpeeds_97 ?_
          obtain ⟨q_19, I_20, hc_21, h⟩ := clP_e h
          refine r_callV (As := [.ref (ga g (k0 + 3))]) [.int v6] X (c7_stepIn l g hG N _ _ _ t0 (g7_4_t t0) _ _ hc_21) cal_X7_stepIn (im_X7_stepIn) (se_X7_stepIn) k_749 (tag_lt t0 (by decide)) (by rw [lay, t0]; rfl) rfl rfl ⟨rfl, rfl⟩ ⟨Nat.le_of_ble_eq_true rfl, Nat.le_of_ble_eq_true rfl⟩ hP hS hl.1 rfl (Nat.le_of_ble_eq_true rfl) dX7_randomSpeeds_100 ⟨Nat.zero_le _, Nat.zero_le _⟩ (fun H locs hP hS => ?_)
          show W p l e rm7_randomSpeeds s m args below meth c H locs 0 0 _ (F0 m 103 ls [.int q_19, .int v6])
          refine lv_iadd hx hb dX7_randomSpeeds_103 ?_
          obtain ⟨x_22, ex_22, h⟩ := letM_e h
          refine r_nmi ex_22 ?_
          refine lv_istore (lv' := [(6, .int x_22), (8, .int x_11), (4, .long x_10), (0, .ref (ga g k0)), (3, .int a3), (7, .int v7)]) hx hb dX7_randomSpeeds_104 hl (by decide) rfl (fun ls hl => ?_)
          obtain ⟨x_23, ex_23, h⟩ := letM_e h
          refine lv_iinc (v := x_23) (lv' := [(7, .int x_23), (6, .int x_22), (8, .int x_11), (4, .long x_10), (0, .ref (ga g k0)), (3, .int a3)]) hx hb dX7_randomSpeeds_106 hl (k := 5) rfl (by rw [ex_23]; rfl) (by decide) rfl (fun ls hl => ?_)
          refine lv_goto (tgt := 35) hx hb dX7_randomSpeeds_109 (by decide) ?_
          exact ih I_20 x_10 x_22 x_23 h _ _ _ hP hS (lv_sub hl [4, 5, 3, 1, 0] rfl)
set_option maxHeartbeats 4000000 in
set_option maxRecDepth 100000 in
theorem c7_randomSpeeds (l : Launch) (g : GG) (hG : Apart g NT) (N : Nat) (I : Mem) (k0 : Nat) (j1 : Int64) (a3 : Int32) (t0 : tag k0 = 6) (r0 : Int32) (I0 : Mem) (h : f7_randomSpeeds N I k0 j1 a3 = some (r0, I0)) : Mc l g yX7_randomSpeeds cX7_randomSpeeds 9 (some .int) rm7_randomSpeeds I [.ref (ga g k0), .long j1, .int a3] (some (.int r0)) I0 := by
  refine Mc.of hG (by decide +kernel) (Nat.le_of_ble_eq_true rfl) ?_
  intro p e s m args below meth c ls X hr hlk hP hS hl
  have X : Cx g p s m args c cX7_randomSpeeds RX7 9 := X
  have hx := X.hx
  have hb := X.hb
  have hl : lv_has ls 9 [(0, .ref (ga g k0)), (1, .long j1), (3, .int a3)] := hl
  have locs : List Loc := []
  unfold f7_randomSpeeds at h
  refine lv_iload_n hx hb dX7_randomSpeeds_0 rfl (lv_at hl 2 rfl) ?_
  refine lv_i2l (v := a3.toInt64) hx hb dX7_randomSpeeds_1 (by rfl) ?_
  refine lv_lconst (v := (1 : Int64)) hx hb dX7_randomSpeeds_2 (by decide +kernel) ?_
  refine lv_ldc2 (v := (500 : Int64)) hx hb X.ow (X.hts _ k_838) dX7_randomSpeeds_3 ?_
  obtain ⟨q_1, I_2, hc_3, h⟩ := clP_e h
  refine r_callS (As := [.long a3.toInt64, .long (1 : Int64), .long (500 : Int64)]) [] X (c7_in l g hG N _ _ _ _ _ _ hc_3) cal_X7_in (sc_X7_in) k_609 rfl ⟨rfl, rfl⟩ ⟨Nat.le_of_ble_eq_true rfl, Nat.le_of_ble_eq_true rfl⟩ hP hS hl.1 rfl (Nat.le_of_ble_eq_true rfl) dX7_randomSpeeds_6 ⟨Nat.zero_le _, Nat.zero_le _⟩ (fun H locs hP hS => ?_)
  show W p l e rm7_randomSpeeds s m args below meth c H locs 0 0 _ (F0 m 9 ls [.int q_1])
  refine lv_if_ne (tgt := 15) hx hb dX7_randomSpeeds_9 (by decide) (fun c_4 => ?_) (fun c_4 => ?_)
  · replace h := ifn c_4 h
    refine lv_aload_n hx hb dX7_randomSpeeds_15 rfl (lv_at hl 0 rfl) ?_
    refine g7_3 X hP t0 k_554 dX7_randomSpeeds_16 ?_
    refine lv_aload_n hx hb dX7_randomSpeeds_19 rfl (lv_at hl 0 rfl) ?_
    refine g7_4 X hP t0 k_555 dX7_randomSpeeds_20 ?_
    obtain ⟨I_6, hc_7, h⟩ := clM_e h
    refine r_callS (As := [.ref (ga g (k0 + 2)), .ref (ga g (k0 + 3))]) [] X (c7_copy l g hG N _ _ _ (g7_3_t t0) (g7_4_t t0) _ hc_7) cal_X7_copy (sc_X7_copy) k_648 rfl ⟨rfl, rfl⟩ ⟨Nat.le_of_ble_eq_true rfl, Nat.le_of_ble_eq_true rfl⟩ hP hS hl.1 rfl (Nat.le_of_ble_eq_true rfl) dX7_randomSpeeds_23 ⟨Nat.zero_le _, Nat.zero_le _⟩ (fun H locs hP hS => ?_)
    show W p l e rm7_randomSpeeds s m args below meth c H locs 0 0 _ (F0 m 26 ls [])
    refine lv_lload_n hx hb dX7_randomSpeeds_26 rfl (lv_at hl 1 rfl) ?_
    refine lv_lstore (lv' := [(4, .long j1), (0, .ref (ga g k0)), (1, .long j1), (3, .int a3)]) hx hb dX7_randomSpeeds_27 hl (by decide) rfl (fun ls hl => ?_)
    refine lv_iconst (v := (0 : Int32)) hx hb dX7_randomSpeeds_29 (by decide +kernel) ?_
    refine lv_istore (lv' := [(6, .int (0 : Int32)), (4, .long j1), (0, .ref (ga g k0)), (1, .long j1), (3, .int a3)]) hx hb dX7_randomSpeeds_30 hl (by decide) rfl (fun ls hl => ?_)
    refine lv_iconst (v := (0 : Int32)) hx hb dX7_randomSpeeds_32 (by decide +kernel) ?_
    refine lv_istore (lv' := [(7, .int (0 : Int32)), (6, .int (0 : Int32)), (4, .long j1), (0, .ref (ga g k0)), (1, .long j1), (3, .int a3)]) hx hb dX7_randomSpeeds_33 hl (by decide) rfl (fun ls hl => ?_)
    exact L7_randomSpeeds_35 hG N k0 j1 a3 t0 X hr hlk r0 I0 N I_6 j1 (0 : Int32) (0 : Int32) h _ _ _ hP hS (lv_sub hl [3, 5, 2, 1, 0] rfl)
  · replace h := ifp c_4 h
    refine lv_bipush (v := (-2 : Int32)) hx hb dX7_randomSpeeds_12 (by decide +kernel) ?_
    exact r_iret X hr hlk hP hS dX7_randomSpeeds_14 h
abbrev rm7_save : Room := { frames := 1, cells := 0, slots := 0, locals := 25 }
def f7_save_21 (N : Nat) (k0 : Nat) (a1 : Int32) : Nat → Mem → Int32 → Option (Int32 × Mem)
  | 0, _, _ => none
  | cnt+1, I, v2 =>
    if (33 : Int32) ≤ v2 then
    some ((I (k0 + 2) 5), I)
    else
    if (v2 < (0 : Int32) ∨ 33 ≤ v2.toNatClampNeg) then none else
    if ((((33 : Int32) * a1) + v2) < (0 : Int32) ∨ 66 ≤ (((33 : Int32) * a1) + v2).toNatClampNeg) then none else
    letM (st I (k0 + 6) ((((33 : Int32) * a1) + v2).toNatClampNeg) (I (k0 + 2) (v2.toNatClampNeg))) (fun I_10 : Mem =>
    letM (v2 + (1 : Int32)) (fun x_11 : Int32 =>
    f7_save_21 N k0 a1 cnt I_10 x_11))
def f7_save (N : Nat) (I : Mem) (k0 : Nat) (a1 : Int32) : Option (Int32 × Mem) :=
    clP (f7_in N I a1.toInt64 (0 : Int64) (1 : Int64)) (fun (q_1 : Int32) (I_2 : Mem) =>
    if q_1 = (0 : Int32) then
    some ((-1 : Int32), I_2)
    else
    if (a1 < (0 : Int32) ∨ 2 ≤ a1.toNatClampNeg) then none else
    letM (st I_2 (k0 + 7) (a1.toNatClampNeg) (1 : Int32)) (fun I_6 : Mem =>
    f7_save_21 N k0 a1 N I_6 (0 : Int32)))
set_option maxHeartbeats 4000000 in
set_option maxRecDepth 100000 in
theorem L7_save_21 (hG : Apart g NT) (N : Nat) (k0 : Nat) (a1 : Int32) (t0 : tag k0 = 6) (X : Cx g p s m args c cX7_save RX7 3) (hr : meth.sig.returnType = (some .int)) (hlk : meth.locks = false) (r0 : Int32) (I0 : Mem) : ∀ (cnt : Nat) (I : Mem) (v2 : Int32), f7_save_21 N k0 a1 cnt I v2 = some (r0, I0) → ∀ (H : Heap) (locs : List Loc) (ls : Array Slot), Wp g I H → va_S (gA g) s.heap H locs → lv_has ls 3 [(0, .ref (ga g k0)), (1, .int a1), (2, .int v2)] → W p l e rm7_save s m args below meth c H locs 0 0 (MQ below (Qg g (some (.int r0)) I0) args s 0 0 (gA g)) (F0 m 21 ls []) := by
  have hx := X.hx
  have hb := X.hb
  intro cnt
  induction cnt with
  | zero =>
    intro I v2 h
    rw [f7_save_21] at h
    cases h
  | succ cnt ih =>
    intro I v2 h H locs ls hP hS hl
    rw [f7_save_21] at h
    refine lv_iload_n hx hb dX7_save_21 rfl (lv_at hl 2 rfl) ?_
    refine lv_bipush (v := (33 : Int32)) hx hb dX7_save_22 (by decide +kernel) ?_
    refine lv_icmp_ge (tgt := 50) hx hb dX7_save_24 (by decide) (fun c_7 => ?_) (fun c_7 => ?_)
    · replace h := ifp c_7 h
      refine lv_aload_n hx hb dX7_save_50 rfl (lv_at hl 0 rfl) ?_
      refine g7_3 X hP t0 k_554 dX7_save_51 ?_
      refine lv_iconst (v := (5 : Int32)) hx hb dX7_save_54 (by decide +kernel) ?_
      refine r_iald (n := 33) X hP (g7_3_t t0) (by decide +kernel) (j := 5) (by decide +kernel) dX7_save_55 ?_
      exact r_iret X hr hlk hP hS dX7_save_56 h
    · replace h := ifn c_7 h
      refine lv_aload_n hx hb dX7_save_27 rfl (lv_at hl 0 rfl) ?_
      refine g7_9 X hP t0 k_560 dX7_save_28 ?_
      refine lv_bipush (v := (33 : Int32)) hx hb dX7_save_31 (by decide +kernel) ?_
      refine lv_iload_n hx hb dX7_save_33 rfl (lv_at hl 1 rfl) ?_
      refine lv_imul hx hb dX7_save_34 ?_
      refine lv_iload_n hx hb dX7_save_35 rfl (lv_at hl 2 rfl) ?_
      refine lv_iadd hx hb dX7_save_36 ?_
      refine lv_aload_n hx hb dX7_save_37 rfl (lv_at hl 0 rfl) ?_
      refine g7_3 X hP t0 k_554 dX7_save_38 ?_
      refine lv_iload_n hx hb dX7_save_41 rfl (lv_at hl 2 rfl) ?_
      obtain ⟨g_8, h⟩ := gd_e h
      refine r_iald (n := 33) X hP (g7_3_t t0) g_8 (j := v2.toNatClampNeg) rfl dX7_save_42 ?_
      obtain ⟨g_9, h⟩ := gd_e h
      obtain ⟨I_10, eI_10, h⟩ := letM_e h
      refine r_iast (n := 66) X hP hS (g7_9_t t0) g_9 (j := (((33 : Int32) * a1) + v2).toNatClampNeg) rfl eI_10 dX7_save_43 (fun H locs hP hS => ?_)
      obtain ⟨x_11, ex_11, h⟩ := letM_e h
      refine lv_iinc (v := x_11) (lv' := [(2, .int x_11), (0, .ref (ga g k0)), (1, .int a1)]) hx hb dX7_save_44 hl (k := 2) rfl (by rw [ex_11]; rfl) (by decide) rfl (fun ls hl => ?_)
      refine lv_goto (tgt := 21) hx hb dX7_save_47 (by decide) ?_
      exact ih I_10 x_11 h _ _ _ hP hS (lv_sub hl [1, 2, 0] rfl)
set_option maxHeartbeats 4000000 in
set_option maxRecDepth 100000 in
theorem c7_save (l : Launch) (g : GG) (hG : Apart g NT) (N : Nat) (I : Mem) (k0 : Nat) (a1 : Int32) (t0 : tag k0 = 6) (r0 : Int32) (I0 : Mem) (h : f7_save N I k0 a1 = some (r0, I0)) : Mc l g yX7_save cX7_save 3 (some .int) rm7_save I [.ref (ga g k0), .int a1] (some (.int r0)) I0 := by
  refine Mc.of hG (by decide +kernel) (Nat.le_of_ble_eq_true rfl) ?_
  intro p e s m args below meth c ls X hr hlk hP hS hl
  have X : Cx g p s m args c cX7_save RX7 3 := X
  have hx := X.hx
  have hb := X.hb
  have hl : lv_has ls 3 [(0, .ref (ga g k0)), (1, .int a1)] := hl
  have locs : List Loc := []
  unfold f7_save at h
  refine lv_iload_n hx hb dX7_save_0 rfl (lv_at hl 1 rfl) ?_
  refine lv_i2l (v := a1.toInt64) hx hb dX7_save_1 (by rfl) ?_
  refine lv_lconst (v := (0 : Int64)) hx hb dX7_save_2 (by decide +kernel) ?_
  refine lv_lconst (v := (1 : Int64)) hx hb dX7_save_3 (by decide +kernel) ?_
  obtain ⟨q_1, I_2, hc_3, h⟩ := clP_e h
  refine r_callS (As := [.long a1.toInt64, .long (0 : Int64), .long (1 : Int64)]) [] X (c7_in l g hG N _ _ _ _ _ _ hc_3) cal_X7_in (sc_X7_in) k_609 rfl ⟨rfl, rfl⟩ ⟨Nat.le_of_ble_eq_true rfl, Nat.le_of_ble_eq_true rfl⟩ hP hS hl.1 rfl (Nat.le_of_ble_eq_true rfl) dX7_save_4 ⟨Nat.zero_le _, Nat.zero_le _⟩ (fun H locs hP hS => ?_)
  show W p l e rm7_save s m args below meth c H locs 0 0 _ (F0 m 7 ls [.int q_1])
  refine lv_if_ne (tgt := 12) hx hb dX7_save_7 (by decide) (fun c_4 => ?_) (fun c_4 => ?_)
  · replace h := ifn c_4 h
    refine lv_aload_n hx hb dX7_save_12 rfl (lv_at hl 0 rfl) ?_
    refine g7_10 X hP t0 k_561 dX7_save_13 ?_
    refine lv_iload_n hx hb dX7_save_16 rfl (lv_at hl 1 rfl) ?_
    refine lv_iconst (v := (1 : Int32)) hx hb dX7_save_17 (by decide +kernel) ?_
    obtain ⟨g_5, h⟩ := gd_e h
    obtain ⟨I_6, eI_6, h⟩ := letM_e h
    refine r_bast X hP hS (g7_10_t t0) g_5 rfl (j := a1.toNatClampNeg) rfl eI_6 dX7_save_18 (fun H locs hP hS => ?_)
    refine lv_iconst (v := (0 : Int32)) hx hb dX7_save_19 (by decide +kernel) ?_
    refine lv_istore_n (lv' := [(2, .int (0 : Int32)), (0, .ref (ga g k0)), (1, .int a1)]) hx hb dX7_save_20 rfl hl (by decide) rfl (fun ls hl => ?_)
    exact L7_save_21 hG N k0 a1 t0 X hr hlk r0 I0 N I_6 (0 : Int32) h _ _ _ hP hS (lv_sub hl [1, 2, 0] rfl)
  · replace h := ifp c_4 h
    refine lv_iconst (v := (-1 : Int32)) hx hb dX7_save_10 (by decide +kernel) ?_
    exact r_iret X hr hlk hP hS dX7_save_11 h
abbrev rm7_restore : Room := { frames := 1, cells := 0, slots := 0, locals := 25 }
def f7_restore_26 (N : Nat) (k0 : Nat) (a1 : Int32) : Nat → Mem → Int32 → Option (Int32 × Mem)
  | 0, _, _ => none
  | cnt+1, I, v2 =>
    if (33 : Int32) ≤ v2 then
    letM (st I k0 7 (0 : Int32)) (fun I_8 : Mem =>
    some ((I_8 (k0 + 2) 5), I_8))
    else
    if ((((33 : Int32) * a1) + v2) < (0 : Int32) ∨ 66 ≤ (((33 : Int32) * a1) + v2).toNatClampNeg) then none else
    if (v2 < (0 : Int32) ∨ 33 ≤ v2.toNatClampNeg) then none else
    letM (st I (k0 + 2) (v2.toNatClampNeg) (I (k0 + 6) ((((33 : Int32) * a1) + v2).toNatClampNeg))) (fun I_11 : Mem =>
    letM (v2 + (1 : Int32)) (fun x_12 : Int32 =>
    f7_restore_26 N k0 a1 cnt I_11 x_12))
def f7_restore (N : Nat) (I : Mem) (k0 : Nat) (a1 : Int32) : Option (Int32 × Mem) :=
    clP (f7_in N I a1.toInt64 (0 : Int64) (1 : Int64)) (fun (q_1 : Int32) (I_2 : Mem) =>
    if q_1 = (0 : Int32) then
    some ((-1 : Int32), I_2)
    else
    if (a1 < (0 : Int32) ∨ 2 ≤ a1.toNatClampNeg) then none else
    if (I_2 (k0 + 7) (a1.toNatClampNeg)) = (0 : Int32) then
    some ((-3 : Int32), I_2)
    else
    f7_restore_26 N k0 a1 N I_2 (0 : Int32))
set_option maxHeartbeats 4000000 in
set_option maxRecDepth 100000 in
theorem L7_restore_26 (hG : Apart g NT) (N : Nat) (k0 : Nat) (a1 : Int32) (t0 : tag k0 = 6) (X : Cx g p s m args c cX7_restore RX7 3) (hr : meth.sig.returnType = (some .int)) (hlk : meth.locks = false) (r0 : Int32) (I0 : Mem) : ∀ (cnt : Nat) (I : Mem) (v2 : Int32), f7_restore_26 N k0 a1 cnt I v2 = some (r0, I0) → ∀ (H : Heap) (locs : List Loc) (ls : Array Slot), Wp g I H → va_S (gA g) s.heap H locs → lv_has ls 3 [(0, .ref (ga g k0)), (1, .int a1), (2, .int v2)] → W p l e rm7_restore s m args below meth c H locs 0 0 (MQ below (Qg g (some (.int r0)) I0) args s 0 0 (gA g)) (F0 m 26 ls []) := by
  have hx := X.hx
  have hb := X.hb
  intro cnt
  induction cnt with
  | zero =>
    intro I v2 h
    rw [f7_restore_26] at h
    cases h
  | succ cnt ih =>
    intro I v2 h H locs ls hP hS hl
    rw [f7_restore_26] at h
    refine lv_iload_n hx hb dX7_restore_26 rfl (lv_at hl 2 rfl) ?_
    refine lv_bipush (v := (33 : Int32)) hx hb dX7_restore_27 (by decide +kernel) ?_
    refine lv_icmp_ge (tgt := 55) hx hb dX7_restore_29 (by decide) (fun c_7 => ?_) (fun c_7 => ?_)
    · replace h := ifp c_7 h
      refine lv_aload_n hx hb dX7_restore_55 rfl (lv_at hl 0 rfl) ?_
      refine lv_iconst (v := (0 : Int32)) hx hb dX7_restore_56 (by decide +kernel) ?_
      obtain ⟨I_8, eI_8, h⟩ := letM_e h
      refine p7_7 X hP hS t0 k_558 eI_8 dX7_restore_57 (fun H locs hP hS => ?_)
      refine lv_aload_n hx hb dX7_restore_60 rfl (lv_at hl 0 rfl) ?_
      refine g7_3 X hP t0 k_554 dX7_restore_61 ?_
      refine lv_iconst (v := (5 : Int32)) hx hb dX7_restore_64 (by decide +kernel) ?_
      refine r_iald (n := 33) X hP (g7_3_t t0) (by decide +kernel) (j := 5) (by decide +kernel) dX7_restore_65 ?_
      exact r_iret X hr hlk hP hS dX7_restore_66 h
    · replace h := ifn c_7 h
      refine lv_aload_n hx hb dX7_restore_32 rfl (lv_at hl 0 rfl) ?_
      refine g7_3 X hP t0 k_554 dX7_restore_33 ?_
      refine lv_iload_n hx hb dX7_restore_36 rfl (lv_at hl 2 rfl) ?_
      refine lv_aload_n hx hb dX7_restore_37 rfl (lv_at hl 0 rfl) ?_
      refine g7_9 X hP t0 k_560 dX7_restore_38 ?_
      refine lv_bipush (v := (33 : Int32)) hx hb dX7_restore_41 (by decide +kernel) ?_
      refine lv_iload_n hx hb dX7_restore_43 rfl (lv_at hl 1 rfl) ?_
      refine lv_imul hx hb dX7_restore_44 ?_
      refine lv_iload_n hx hb dX7_restore_45 rfl (lv_at hl 2 rfl) ?_
      refine lv_iadd hx hb dX7_restore_46 ?_
      obtain ⟨g_9, h⟩ := gd_e h
      refine r_iald (n := 66) X hP (g7_9_t t0) g_9 (j := (((33 : Int32) * a1) + v2).toNatClampNeg) rfl dX7_restore_47 ?_
      obtain ⟨g_10, h⟩ := gd_e h
      obtain ⟨I_11, eI_11, h⟩ := letM_e h
      refine r_iast (n := 33) X hP hS (g7_3_t t0) g_10 (j := v2.toNatClampNeg) rfl eI_11 dX7_restore_48 (fun H locs hP hS => ?_)
      obtain ⟨x_12, ex_12, h⟩ := letM_e h
      refine lv_iinc (v := x_12) (lv' := [(2, .int x_12), (0, .ref (ga g k0)), (1, .int a1)]) hx hb dX7_restore_49 hl (k := 2) rfl (by rw [ex_12]; rfl) (by decide) rfl (fun ls hl => ?_)
      refine lv_goto (tgt := 26) hx hb dX7_restore_52 (by decide) ?_
      exact ih I_11 x_12 h _ _ _ hP hS (lv_sub hl [1, 2, 0] rfl)
set_option maxHeartbeats 4000000 in
set_option maxRecDepth 100000 in
theorem c7_restore (l : Launch) (g : GG) (hG : Apart g NT) (N : Nat) (I : Mem) (k0 : Nat) (a1 : Int32) (t0 : tag k0 = 6) (r0 : Int32) (I0 : Mem) (h : f7_restore N I k0 a1 = some (r0, I0)) : Mc l g yX7_restore cX7_restore 3 (some .int) rm7_restore I [.ref (ga g k0), .int a1] (some (.int r0)) I0 := by
  refine Mc.of hG (by decide +kernel) (Nat.le_of_ble_eq_true rfl) ?_
  intro p e s m args below meth c ls X hr hlk hP hS hl
  have X : Cx g p s m args c cX7_restore RX7 3 := X
  have hx := X.hx
  have hb := X.hb
  have hl : lv_has ls 3 [(0, .ref (ga g k0)), (1, .int a1)] := hl
  have locs : List Loc := []
  unfold f7_restore at h
  refine lv_iload_n hx hb dX7_restore_0 rfl (lv_at hl 1 rfl) ?_
  refine lv_i2l (v := a1.toInt64) hx hb dX7_restore_1 (by rfl) ?_
  refine lv_lconst (v := (0 : Int64)) hx hb dX7_restore_2 (by decide +kernel) ?_
  refine lv_lconst (v := (1 : Int64)) hx hb dX7_restore_3 (by decide +kernel) ?_
  obtain ⟨q_1, I_2, hc_3, h⟩ := clP_e h
  refine r_callS (As := [.long a1.toInt64, .long (0 : Int64), .long (1 : Int64)]) [] X (c7_in l g hG N _ _ _ _ _ _ hc_3) cal_X7_in (sc_X7_in) k_609 rfl ⟨rfl, rfl⟩ ⟨Nat.le_of_ble_eq_true rfl, Nat.le_of_ble_eq_true rfl⟩ hP hS hl.1 rfl (Nat.le_of_ble_eq_true rfl) dX7_restore_4 ⟨Nat.zero_le _, Nat.zero_le _⟩ (fun H locs hP hS => ?_)
  show W p l e rm7_restore s m args below meth c H locs 0 0 _ (F0 m 7 ls [.int q_1])
  refine lv_if_ne (tgt := 12) hx hb dX7_restore_7 (by decide) (fun c_4 => ?_) (fun c_4 => ?_)
  · replace h := ifn c_4 h
    refine lv_aload_n hx hb dX7_restore_12 rfl (lv_at hl 0 rfl) ?_
    refine g7_10 X hP t0 k_561 dX7_restore_13 ?_
    refine lv_iload_n hx hb dX7_restore_16 rfl (lv_at hl 1 rfl) ?_
    obtain ⟨g_5, h⟩ := gd_e h
    refine r_bald X hP (g7_10_t t0) g_5 (j := a1.toNatClampNeg) rfl dX7_restore_17 ?_
    refine lv_if_ne (tgt := 24) hx hb dX7_restore_18 (by decide) (fun c_6 => ?_) (fun c_6 => ?_)
    · replace h := ifn c_6 h
      refine lv_iconst (v := (0 : Int32)) hx hb dX7_restore_24 (by decide +kernel) ?_
      refine lv_istore_n (lv' := [(2, .int (0 : Int32)), (0, .ref (ga g k0)), (1, .int a1)]) hx hb dX7_restore_25 rfl hl (by decide) rfl (fun ls hl => ?_)
      exact L7_restore_26 hG N k0 a1 t0 X hr hlk r0 I0 N I_2 (0 : Int32) h _ _ _ hP hS (lv_sub hl [1, 2, 0] rfl)
    · replace h := ifp c_6 h
      refine lv_bipush (v := (-3 : Int32)) hx hb dX7_restore_21 (by decide +kernel) ?_
      exact r_iret X hr hlk hP hS dX7_restore_23 h
  · replace h := ifp c_4 h
    refine lv_iconst (v := (-1 : Int32)) hx hb dX7_restore_10 (by decide +kernel) ?_
    exact r_iret X hr hlk hP hS dX7_restore_11 h
end WALKS
