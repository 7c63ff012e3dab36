section WALKS
variable {p : Program} {l : Launch} {e : Env} {s : State} {m : MethodId} {args : Array Value} {below : List Frame} {meth : Method} {c : Code} {g : GG}
abbrev rm7_in : Room := { frames := 0, cells := 0, slots := 0, locals := 0 }
def f7_in (N : Nat) (I : Mem) (j0 : Int64) (j2 : Int64) (j4 : Int64) : Option (Int32 × Mem) :=
    if (lg_cmp j0 j2) < (0 : Int32) then
    some ((0 : Int32), I)
    else
    if (0 : Int32) < (lg_cmp j0 j4) then
    some ((0 : Int32), I)
    else
    some ((1 : Int32), I)
set_option maxHeartbeats 4000000 in
set_option maxRecDepth 100000 in
theorem c7_in (l : Launch) (g : GG) (hG : Apart g NT) (N : Nat) (I : Mem) (j0 : Int64) (j2 : Int64) (j4 : Int64) (r0 : Int32) (I0 : Mem) (h : f7_in N I j0 j2 j4 = some (r0, I0)) : Mc l g yX7_in cX7_in 6 (some .boolean) rm7_in I [.long j0, .long j2, .long j4] (some (.int r0)) I0 := by
  refine Mc.of hG (by decide +kernel) (Nat.le_of_ble_eq_true rfl) ?_
  intro p e s m args below meth c ls X hr hlk hP hS hl
  have X : Cx g p s m args c cX7_in RX7 6 := X
  have hx := X.hx
  have hb := X.hb
  have hl : lv_has ls 6 [(0, .long j0), (2, .long j2), (4, .long j4)] := hl
  have locs : List Loc := []
  unfold f7_in at h
  refine lv_lload_n hx hb dX7_in_0 rfl (lv_at hl 0 rfl) ?_
  refine lv_lload_n hx hb dX7_in_1 rfl (lv_at hl 1 rfl) ?_
  refine W.lcmp hx hb dX7_in_2 ?_
  refine lv_if_lt (tgt := 17) hx hb dX7_in_3 (by decide) (fun c_1 => ?_) (fun c_1 => ?_)
  · replace h := ifp c_1 h
    refine lv_iconst (v := (0 : Int32)) hx hb dX7_in_17 (by decide +kernel) ?_
    exact r_zret X hr hlk hP hS rfl dX7_in_18 h
  · replace h := ifn c_1 h
    refine lv_lload_n hx hb dX7_in_6 rfl (lv_at hl 0 rfl) ?_
    refine lv_lload hx hb dX7_in_7 (lv_at hl 2 rfl) ?_
    refine W.lcmp hx hb dX7_in_9 ?_
    refine lv_if_gt (tgt := 17) hx hb dX7_in_10 (by decide) (fun c_2 => ?_) (fun c_2 => ?_)
    · replace h := ifp c_2 h
      refine lv_iconst (v := (0 : Int32)) hx hb dX7_in_17 (by decide +kernel) ?_
      exact r_zret X hr hlk hP hS rfl dX7_in_18 h
    · replace h := ifn c_2 h
      refine lv_iconst (v := (1 : Int32)) hx hb dX7_in_13 (by decide +kernel) ?_
      refine lv_goto (tgt := 18) hx hb dX7_in_14 (by decide) ?_
      exact r_zret X hr hlk hP hS rfl dX7_in_18 h
abbrev rm7_copy : Room := { frames := 0, cells := 0, slots := 0, locals := 0 }
def f7_copy_2 (N : Nat) (k0 : Nat) (k1 : Nat) : Nat → Mem → Int32 → Option (Mem)
  | 0, _, _ => none
  | cnt+1, I, v2 =>
    if (33 : Int32) ≤ v2 then
    some I
    else
    if (v2 < (0 : Int32) ∨ 33 ≤ v2.toNatClampNeg) then none else
    if (v2 < (0 : Int32) ∨ 33 ≤ v2.toNatClampNeg) then none else
    letM (st I k1 (v2.toNatClampNeg) (I k0 (v2.toNatClampNeg))) (fun I_4 : Mem =>
    letM (v2 + (1 : Int32)) (fun x_5 : Int32 =>
    f7_copy_2 N k0 k1 cnt I_4 x_5))
def f7_copy (N : Nat) (I : Mem) (k0 : Nat) (k1 : Nat) : Option (Mem) :=
    f7_copy_2 N k0 k1 N I (0 : Int32)
set_option maxHeartbeats 4000000 in
set_option maxRecDepth 100000 in
theorem L7_copy_2 (hG : Apart g NT) (N : Nat) (k0 : Nat) (k1 : Nat) (t0 : tag k0 = 43) (t1 : tag k1 = 43) (X : Cx g p s m args c cX7_copy RX7 3) (hr : meth.sig.returnType = none) (hlk : meth.locks = false) (I0 : Mem) : ∀ (cnt : Nat) (I : Mem) (v2 : Int32), f7_copy_2 N k0 k1 cnt I v2 = some I0 → ∀ (H : Heap) (locs : List Loc) (ls : Array Slot), Wp g I H → va_S (gA g) s.heap H locs → lv_has ls 3 [(0, .ref (ga g k0)), (1, .ref (ga g k1)), (2, .int v2)] → W p l e rm7_copy s m args below meth c H locs 0 0 (MQ below (Qg g none I0) args s 0 0 (gA g)) (F0 m 2 ls []) := by
  have hx := X.hx
  have hb := X.hb
  intro cnt
  induction cnt with
  | zero =>
    intro I v2 h
    rw [f7_copy_2] at h
    cases h
  | succ cnt ih =>
    intro I v2 h H locs ls hP hS hl
    rw [f7_copy_2] at h
    refine lv_iload_n hx hb dX7_copy_2 rfl (lv_at hl 2 rfl) ?_
    refine lv_bipush (v := (33 : Int32)) hx hb dX7_copy_3 (by decide +kernel) ?_
    refine lv_icmp_ge (tgt := 20) hx hb dX7_copy_5 (by decide) (fun c_1 => ?_) (fun c_1 => ?_)
    · replace h := ifp c_1 h
      exact r_vret X hr hlk hP hS dX7_copy_20 h
    · replace h := ifn c_1 h
      refine lv_aload_n hx hb dX7_copy_8 rfl (lv_at hl 1 rfl) ?_
      refine lv_iload_n hx hb dX7_copy_9 rfl (lv_at hl 2 rfl) ?_
      refine lv_aload_n hx hb dX7_copy_10 rfl (lv_at hl 0 rfl) ?_
      refine lv_iload_n hx hb dX7_copy_11 rfl (lv_at hl 2 rfl) ?_
      obtain ⟨g_2, h⟩ := gd_e h
      refine r_iald (n := 33) X hP t0 g_2 (j := v2.toNatClampNeg) rfl dX7_copy_12 ?_
      obtain ⟨g_3, h⟩ := gd_e h
      obtain ⟨I_4, eI_4, h⟩ := letM_e h
      refine r_iast (n := 33) X hP hS t1 g_3 (j := v2.toNatClampNeg) rfl eI_4 dX7_copy_13 (fun H locs hP hS => ?_)
      obtain ⟨x_5, ex_5, h⟩ := letM_e h
      refine lv_iinc (v := x_5) (lv' := [(2, .int x_5), (0, .ref (ga g k0)), (1, .ref (ga g k1))]) hx hb dX7_copy_14 hl (k := 2) rfl (by rw [ex_5]; rfl) (by decide) rfl (fun ls hl => ?_)
      refine lv_goto (tgt := 2) hx hb dX7_copy_17 (by decide) ?_
      exact ih I_4 x_5 h _ _ _ hP hS (lv_sub hl [1, 2, 0] rfl)
set_option maxHeartbeats 4000000 in
set_option maxRecDepth 100000 in
theorem c7_copy (l : Launch) (g : GG) (hG : Apart g NT) (N : Nat) (I : Mem) (k0 : Nat) (k1 : Nat) (t0 : tag k0 = 43) (t1 : tag k1 = 43) (I0 : Mem) (h : f7_copy N I k0 k1 = some I0) : Mc l g yX7_copy cX7_copy 3 none rm7_copy I [.ref (ga g k0), .ref (ga g k1)] none I0 := by
  refine Mc.of hG (by decide +kernel) (Nat.le_of_ble_eq_true rfl) ?_
  intro p e s m args below meth c ls X hr hlk hP hS hl
  have X : Cx g p s m args c cX7_copy RX7 3 := X
  have hx := X.hx
  have hb := X.hb
  have hl : lv_has ls 3 [(0, .ref (ga g k0)), (1, .ref (ga g k1))] := hl
  have locs : List Loc := []
  unfold f7_copy at h
  refine lv_iconst (v := (0 : Int32)) hx hb dX7_copy_0 (by decide +kernel) ?_
  refine lv_istore_n (lv' := [(2, .int (0 : Int32)), (0, .ref (ga g k0)), (1, .ref (ga g k1))]) hx hb dX7_copy_1 rfl hl (by decide) rfl (fun ls hl => ?_)
  exact L7_copy_2 hG N k0 k1 t0 t1 X hr hlk I0 N I (0 : Int32) h _ _ _ hP hS (lv_sub hl [1, 2, 0] rfl)
abbrev rm7_abs : Room := { frames := 0, cells := 0, slots := 0, locals := 0 }
def f7_abs (N : Nat) (I : Mem) (a0 : Int32) : Option (Int32 × Mem) :=
    if (0 : Int32) ≤ a0 then
    some (a0, I)
    else
    some ((-a0), I)
set_option maxHeartbeats 4000000 in
set_option maxRecDepth 100000 in
theorem c7_abs (l : Launch) (g : GG) (hG : Apart g NT) (N : Nat) (I : Mem) (a0 : Int32) (r0 : Int32) (I0 : Mem) (h : f7_abs N I a0 = some (r0, I0)) : Mc l g yX7_abs cX7_abs 1 (some .int) rm7_abs I [.int a0] (some (.int r0)) I0 := by
  refine Mc.of hG (by decide +kernel) (Nat.le_of_ble_eq_true rfl) ?_
  intro p e s m args below meth c ls X hr hlk hP hS hl
  have X : Cx g p s m args c cX7_abs RX7 1 := X
  have hx := X.hx
  have hb := X.hb
  have hl : lv_has ls 1 [(0, .int a0)] := hl
  have locs : List Loc := []
  unfold f7_abs at h
  refine lv_iload_n hx hb dX7_abs_0 rfl (lv_at hl 0 rfl) ?_
  refine lv_if_ge (tgt := 9) hx hb dX7_abs_1 (by decide) (fun c_1 => ?_) (fun c_1 => ?_)
  · replace h := ifp c_1 h
    refine lv_iload_n hx hb dX7_abs_9 rfl (lv_at hl 0 rfl) ?_
    exact r_iret X hr hlk hP hS dX7_abs_10 h
  · replace h := ifn c_1 h
    refine lv_iload_n hx hb dX7_abs_4 rfl (lv_at hl 0 rfl) ?_
    refine lv_ineg hx hb dX7_abs_5 ?_
    refine lv_goto (tgt := 10) hx hb dX7_abs_6 (by decide) ?_
    exact r_iret X hr hlk hP hS dX7_abs_10 h
abbrev rm7_squareRoot : Room := { frames := 0, cells := 0, slots := 0, locals := 0 }
def f7_squareRoot_6 (N : Nat) (j0 : Int64) : Nat → Mem → Int64 → Int32 → Option (Int32 × Mem)
  | 0, _, _, _ => none
  | cnt+1, I, w2, v4 =>
    if v4 < (0 : Int32) then
    some (w2.toInt32, I)
    else
    letM (w2 ||| ((1 : Int64) <<< ((v4).toInt64 &&& 63))) (fun x_2 : Int64 =>
    if (0 : Int32) < (lg_cmp (x_2 * x_2) j0) then
    letM (v4 + (-1 : Int32)) (fun x_4 : Int32 =>
    f7_squareRoot_6 N j0 cnt I w2 x_4)
    else
    letM (v4 + (-1 : Int32)) (fun x_5 : Int32 =>
    f7_squareRoot_6 N j0 cnt I x_2 x_5))
def f7_squareRoot (N : Nat) (I : Mem) (j0 : Int64) : Option (Int32 × Mem) :=
    f7_squareRoot_6 N j0 N I (0 : Int64) (18 : Int32)
set_option maxHeartbeats 4000000 in
set_option maxRecDepth 100000 in
theorem L7_squareRoot_6 (hG : Apart g NT) (N : Nat) (j0 : Int64) (X : Cx g p s m args c cX7_squareRoot RX7 7) (hr : meth.sig.returnType = (some .int)) (hlk : meth.locks = false) (r0 : Int32) (I0 : Mem) : ∀ (cnt : Nat) (I : Mem) (w2 : Int64) (v4 : Int32), f7_squareRoot_6 N j0 cnt I w2 v4 = some (r0, I0) → ∀ (H : Heap) (locs : List Loc) (ls : Array Slot), Wp g I H → va_S (gA g) s.heap H locs → lv_has ls 7 [(0, .long j0), (2, .long w2), (4, .int v4)] → W p l e rm7_squareRoot s m args below meth c H locs 0 0 (MQ below (Qg g (some (.int r0)) I0) args s 0 0 (gA g)) (F0 m 6 ls []) := by
  have hx := X.hx
  have hb := X.hb
  intro cnt
  induction cnt with
  | zero =>
    intro I w2 v4 h
    rw [f7_squareRoot_6] at h
    cases h
  | succ cnt ih =>
    intro I w2 v4 h H locs ls hP hS hl
    rw [f7_squareRoot_6] at h
    refine lv_iload hx hb dX7_squareRoot_6 (lv_at hl 2 rfl) ?_
    refine lv_if_lt (tgt := 42) hx hb dX7_squareRoot_8 (by decide) (fun c_1 => ?_) (fun c_1 => ?_)
    · replace h := ifp c_1 h
      refine lv_lload_n hx hb dX7_squareRoot_42 rfl (lv_at hl 1 rfl) ?_
      refine lv_l2i (v := w2.toInt32) hx hb dX7_squareRoot_43 (by rfl) ?_
      exact r_iret X hr hlk hP hS dX7_squareRoot_44 h
    · replace h := ifn c_1 h
      refine lv_lload_n hx hb dX7_squareRoot_11 rfl (lv_at hl 1 rfl) ?_
      refine lv_lconst (v := (1 : Int64)) hx hb dX7_squareRoot_12 (by decide +kernel) ?_
      refine lv_iload hx hb dX7_squareRoot_13 (lv_at hl 2 rfl) ?_
      refine lv_lshl (v := ((1 : Int64) <<< ((v4).toInt64 &&& 63))) hx hb dX7_squareRoot_15 rfl ?_
      refine lv_lor hx hb dX7_squareRoot_16 ?_
      obtain ⟨x_2, ex_2, h⟩ := letM_e h
      refine r_nml ex_2 ?_
      refine lv_lstore (lv' := [(5, .long x_2), (0, .long j0), (2, .long w2), (4, .int v4)]) hx hb dX7_squareRoot_17 hl (by decide) rfl (fun ls hl => ?_)
      refine lv_lload hx hb dX7_squareRoot_19 (lv_at hl 0 rfl) ?_
      refine lv_lload hx hb dX7_squareRoot_21 (lv_at hl 0 rfl) ?_
      refine lv_lmul hx hb dX7_squareRoot_23 ?_
      refine lv_lload_n hx hb dX7_squareRoot_24 rfl (lv_at hl 1 rfl) ?_
      refine W.lcmp hx hb dX7_squareRoot_25 ?_
      refine lv_if_gt (tgt := 34) hx hb dX7_squareRoot_26 (by decide) (fun c_3 => ?_) (fun c_3 => ?_)
      · replace h := ifp c_3 h
        refine lv_lload_n hx hb dX7_squareRoot_34 rfl (lv_at hl 2 rfl) ?_
        refine lv_lstore_n (lv' := [(2, .long w2), (5, .long x_2), (0, .long j0), (4, .int v4)]) hx hb dX7_squareRoot_35 rfl hl (by decide) rfl (fun ls hl => ?_)
        obtain ⟨x_4, ex_4, h⟩ := letM_e h
        refine lv_iinc (v := x_4) (lv' := [(4, .int x_4), (2, .long w2), (5, .long x_2), (0, .long j0)]) hx hb dX7_squareRoot_36 hl (k := 3) rfl (by rw [ex_4]; rfl) (by decide) rfl (fun ls hl => ?_)
        refine lv_goto (tgt := 6) hx hb dX7_squareRoot_39 (by decide) ?_
        exact ih I w2 x_4 h _ _ _ hP hS (lv_sub hl [3, 1, 0] rfl)
      · replace h := ifn c_3 h
        refine lv_lload hx hb dX7_squareRoot_29 (lv_at hl 0 rfl) ?_
        refine lv_goto (tgt := 35) hx hb dX7_squareRoot_31 (by decide) ?_
        refine lv_lstore_n (lv' := [(2, .long x_2), (5, .long x_2), (0, .long j0), (4, .int v4)]) hx hb dX7_squareRoot_35 rfl hl (by decide) rfl (fun ls hl => ?_)
        obtain ⟨x_5, ex_5, h⟩ := letM_e h
        refine lv_iinc (v := x_5) (lv' := [(4, .int x_5), (2, .long x_2), (5, .long x_2), (0, .long j0)]) hx hb dX7_squareRoot_36 hl (k := 3) rfl (by rw [ex_5]; rfl) (by decide) rfl (fun ls hl => ?_)
        refine lv_goto (tgt := 6) hx hb dX7_squareRoot_39 (by decide) ?_
        exact ih I x_2 x_5 h _ _ _ hP hS (lv_sub hl [3, 1, 0] rfl)
set_option maxHeartbeats 4000000 in
set_option maxRecDepth 100000 in
theorem c7_squareRoot (l : Launch) (g : GG) (hG : Apart g NT) (N : Nat) (I : Mem) (j0 : Int64) (r0 : Int32) (I0 : Mem) (h : f7_squareRoot N I j0 = some (r0, I0)) : Mc l g yX7_squareRoot cX7_squareRoot 7 (some .int) rm7_squareRoot I [.long j0] (some (.int r0)) I0 := by
  refine Mc.of hG (by decide +kernel) (Nat.le_of_ble_eq_true rfl) ?_
  intro p e s m args below meth c ls X hr hlk hP hS hl
  have X : Cx g p s m args c cX7_squareRoot RX7 7 := X
  have hx := X.hx
  have hb := X.hb
  have hl : lv_has ls 7 [(0, .long j0)] := hl
  have locs : List Loc := []
  unfold f7_squareRoot at h
  refine lv_lconst (v := (0 : Int64)) hx hb dX7_squareRoot_0 (by decide +kernel) ?_
  refine lv_lstore_n (lv' := [(2, .long (0 : Int64)), (0, .long j0)]) hx hb dX7_squareRoot_1 rfl hl (by decide) rfl (fun ls hl => ?_)
  refine lv_bipush (v := (18 : Int32)) hx hb dX7_squareRoot_2 (by decide +kernel) ?_
  refine lv_istore (lv' := [(4, .int (18 : Int32)), (2, .long (0 : Int64)), (0, .long j0)]) hx hb dX7_squareRoot_4 hl (by decide) rfl (fun ls hl => ?_)
  exact L7_squareRoot_6 hG N j0 X hr hlk r0 I0 N I (0 : Int64) (18 : Int32) h _ _ _ hP hS (lv_sub hl [2, 1, 0] rfl)
abbrev rm7_layRoots : Room := { frames := 1, cells := 0, slots := 0, locals := 26 }
def f7_layRoots_18 (N : Nat) (k0 : Nat) (a1 : Int32) (a2 : Int32) : Nat → Mem → Option (Mem)
  | 0, _ => none
  | cnt+1, I =>
    if a2 ≤ (I k0 13) then
    some I
    else
    if a1.toInt64 = (0 : Int64) then none else
    clP (f7_squareRoot N I (((200000000 : Int64) * (I k0 13).toInt64) / a1.toInt64)) (fun (q_4 : Int32) (I_5 : Mem) =>
    if ((I k0 13) < (0 : Int32) ∨ 1001 ≤ (I k0 13).toNatClampNeg) then none else
    letM (st I_5 (k0 + 8) ((I k0 13).toNatClampNeg) q_4) (fun I_8 : Mem =>
    letM (st I_8 k0 13 ((I_8 k0 13) + (1 : Int32))) (fun I_9 : Mem =>
    f7_layRoots_18 N k0 a1 a2 cnt I_9)))
def f7_layRoots (N : Nat) (I : Mem) (k0 : Nat) (a1 : Int32) (a2 : Int32) : Option (Mem) :=
    if (I k0 12) = a1 then
    f7_layRoots_18 N k0 a1 a2 N I
    else
    letM (st I k0 12 a1) (fun I_10 : Mem =>
    letM (st I_10 k0 13 (0 : Int32)) (fun I_11 : Mem =>
    f7_layRoots_18 N k0 a1 a2 N I_11))
set_option maxHeartbeats 4000000 in
set_option maxRecDepth 100000 in
theorem L7_layRoots_18 (hG : Apart g NT) (N : Nat) (k0 : Nat) (a1 : Int32) (a2 : Int32) (t0 : tag k0 = 6) (X : Cx g p s m args c cX7_layRoots RX7 3) (hr : meth.sig.returnType = none) (hlk : meth.locks = false) (I0 : Mem) : ∀ (cnt : Nat) (I : Mem), f7_layRoots_18 N k0 a1 a2 cnt I = some I0 → ∀ (H : Heap) (locs : List Loc) (ls : Array Slot), Wp g I H → va_S (gA g) s.heap H locs → lv_has ls 3 [(0, .ref (ga g k0)), (1, .int a1), (2, .int a2)] → W p l e rm7_layRoots s m args below meth c H locs 0 0 (MQ below (Qg g none I0) args s 0 0 (gA g)) (F0 m 18 ls []) := by
  have hx := X.hx
  have hb := X.hb
  intro cnt
  induction cnt with
  | zero =>
    intro I h
    rw [f7_layRoots_18] at h
    cases h
  | succ cnt ih =>
    intro I h H locs ls hP hS hl
    rw [f7_layRoots_18] at h
    refine lv_aload_n hx hb dX7_layRoots_18 rfl (lv_at hl 0 rfl) ?_
    refine g7_13 X hP t0 k_564 dX7_layRoots_19 ?_
    refine lv_iload_n hx hb dX7_layRoots_22 rfl (lv_at hl 2 rfl) ?_
    refine lv_icmp_ge (tgt := 63) hx hb dX7_layRoots_23 (by decide) (fun c_2 => ?_) (fun c_2 => ?_)
    · replace h := ifp c_2 h
      exact r_vret X hr hlk hP hS dX7_layRoots_63 h
    · replace h := ifn c_2 h
      refine lv_aload_n hx hb dX7_layRoots_26 rfl (lv_at hl 0 rfl) ?_
      refine g7_11 X hP t0 k_562 dX7_layRoots_27 ?_
      refine lv_aload_n hx hb dX7_layRoots_30 rfl (lv_at hl 0 rfl) ?_
      refine g7_13 X hP t0 k_564 dX7_layRoots_31 ?_
      refine lv_ldc2 (v := (200000000 : Int64)) hx hb X.ow (X.hts _ k_701) dX7_layRoots_34 ?_
      refine lv_aload_n hx hb dX7_layRoots_37 rfl (lv_at hl 0 rfl) ?_
      refine g7_13 X hP t0 k_564 dX7_layRoots_38 ?_
      refine lv_i2l (v := (I k0 13).toInt64) hx hb dX7_layRoots_41 (by rfl) ?_
      refine lv_lmul hx hb dX7_layRoots_42 ?_
      refine lv_iload_n hx hb dX7_layRoots_43 rfl (lv_at hl 1 rfl) ?_
      refine lv_i2l (v := a1.toInt64) hx hb dX7_layRoots_44 (by rfl) ?_
      obtain ⟨g_3, h⟩ := gd_e h
      refine lv_ldiv hx hb dX7_layRoots_45 g_3 ?_
      obtain ⟨q_4, I_5, hc_6, h⟩ := clP_e h
      refine r_callS (As := [.long (((200000000 : Int64) * (I k0 13).toInt64) / a1.toInt64)]) [.int (I k0 13), .ref (ga g (k0 + 8))] X (c7_squareRoot l g hG N _ _ _ _ hc_6) cal_X7_squareRoot (sc_X7_squareRoot) k_702 rfl ⟨rfl, rfl⟩ ⟨Nat.le_of_ble_eq_true rfl, Nat.le_of_ble_eq_true rfl⟩ hP hS hl.1 rfl (Nat.le_of_ble_eq_true rfl) dX7_layRoots_46 ⟨Nat.zero_le _, Nat.zero_le _⟩ (fun H locs hP hS => ?_)
      show W p l e rm7_layRoots s m args below meth c H locs 0 0 _ (F0 m 49 ls [.int q_4, .int (I k0 13), .ref (ga g (k0 + 8))])
      obtain ⟨g_7, h⟩ := gd_e h
      obtain ⟨I_8, eI_8, h⟩ := letM_e h
      refine r_iast (n := 1001) X hP hS (g7_11_t t0) g_7 (j := (I k0 13).toNatClampNeg) rfl eI_8 dX7_layRoots_49 (fun H locs hP hS => ?_)
      refine lv_aload_n hx hb dX7_layRoots_50 rfl (lv_at hl 0 rfl) ?_
      refine lv_dup hx hb dX7_layRoots_51 rfl ?_
      refine g7_13 X hP t0 k_564 dX7_layRoots_52 ?_
      refine lv_iconst (v := (1 : Int32)) hx hb dX7_layRoots_55 (by decide +kernel) ?_
      refine lv_iadd hx hb dX7_layRoots_56 ?_
      obtain ⟨I_9, eI_9, h⟩ := letM_e h
      refine p7_13 X hP hS t0 k_564 eI_9 dX7_layRoots_57 (fun H locs hP hS => ?_)
      refine lv_goto (tgt := 18) hx hb dX7_layRoots_60 (by decide) ?_
      exact ih I_9 h _ _ _ hP hS (lv_sub hl [0, 1, 2] rfl)
set_option maxHeartbeats 4000000 in
set_option maxRecDepth 100000 in
theorem c7_layRoots (l : Launch) (g : GG) (hG : Apart g NT) (N : Nat) (I : Mem) (k0 : Nat) (a1 : Int32) (a2 : Int32) (t0 : tag k0 = 6) (I0 : Mem) (h : f7_layRoots N I k0 a1 a2 = some I0) : Mc l g yX7_layRoots cX7_layRoots 3 none rm7_layRoots I [.ref (ga g k0), .int a1, .int a2] none I0 := by
  refine Mc.of hG (by decide +kernel) (Nat.le_of_ble_eq_true rfl) ?_
  intro p e s m args below meth c ls X hr hlk hP hS hl
  have X : Cx g p s m args c cX7_layRoots RX7 3 := X
  have hx := X.hx
  have hb := X.hb
  have hl : lv_has ls 3 [(0, .ref (ga g k0)), (1, .int a1), (2, .int a2)] := hl
  have locs : List Loc := []
  unfold f7_layRoots at h
  refine lv_aload_n hx hb dX7_layRoots_0 rfl (lv_at hl 0 rfl) ?_
  refine g7_12 X hP t0 k_563 dX7_layRoots_1 ?_
  refine lv_iload_n hx hb dX7_layRoots_4 rfl (lv_at hl 1 rfl) ?_
  refine lv_icmp_eq (tgt := 18) hx hb dX7_layRoots_5 (by decide) (fun c_1 => ?_) (fun c_1 => ?_)
  · replace h := ifp c_1 h
    exact L7_layRoots_18 hG N k0 a1 a2 t0 X hr hlk I0 N I h _ _ _ hP hS (lv_sub hl [0, 1, 2] rfl)
  · replace h := ifn c_1 h
    refine lv_aload_n hx hb dX7_layRoots_8 rfl (lv_at hl 0 rfl) ?_
    refine lv_iload_n hx hb dX7_layRoots_9 rfl (lv_at hl 1 rfl) ?_
    obtain ⟨I_10, eI_10, h⟩ := letM_e h
    refine p7_12 X hP hS t0 k_563 eI_10 dX7_layRoots_10 (fun H locs hP hS => ?_)
    refine lv_aload_n hx hb dX7_layRoots_13 rfl (lv_at hl 0 rfl) ?_
    refine lv_iconst (v := (0 : Int32)) hx hb dX7_layRoots_14 (by decide +kernel) ?_
    obtain ⟨I_11, eI_11, h⟩ := letM_e h
    refine p7_13 X hP hS t0 k_564 eI_11 dX7_layRoots_15 (fun H locs hP hS => ?_)
    exact L7_layRoots_18 hG N k0 a1 a2 t0 X hr hlk I0 N I_11 h _ _ _ hP hS (lv_sub hl [0, 1, 2] rfl)
abbrev rm7_rampOf : Room := { frames := 2, cells := 0, slots := 0, locals := 48 }
def f7_rampOf (N : Nat) (I : Mem) (k0 : Nat) (a1 : Int32) (a2 : Int32) : Option (Int32 × Mem) :=
    clM (f7_layRoots N I k0 a1 (a2 + (2 : Int32))) (fun I_2 : Mem =>
    if ((a2 + (1 : Int32)) < (0 : Int32) ∨ 1001 ≤ (a2 + (1 : Int32)).toNatClampNeg) then none else
    if (a2 < (0 : Int32) ∨ 1001 ≤ a2.toNatClampNeg) then none else
    some (((I_2 (k0 + 8) ((a2 + (1 : Int32)).toNatClampNeg)) - (I_2 (k0 + 8) (a2.toNatClampNeg))), I_2))
set_option maxHeartbeats 4000000 in
set_option maxRecDepth 100000 in
theorem c7_rampOf (l : Launch) (g : GG) (hG : Apart g NT) (N : Nat) (I : Mem) (k0 : Nat) (a1 : Int32) (a2 : Int32) (t0 : tag k0 = 6) (r0 : Int32) (I0 : Mem) (h : f7_rampOf N I k0 a1 a2 = some (r0, I0)) : Mc l g yX7_rampOf cX7_rampOf 3 (some .int) rm7_rampOf I [.ref (ga g k0), .int a1, .int a2] (some (.int r0)) I0 := by
  refine Mc.of hG (by decide +kernel) (Nat.le_of_ble_eq_true rfl) ?_
  intro p e s m args below meth c ls X hr hlk hP hS hl
  have X : Cx g p s m args c cX7_rampOf RX7 3 := X
  have hx := X.hx
  have hb := X.hb
  have hl : lv_has ls 3 [(0, .ref (ga g k0)), (1, .int a1), (2, .int a2)] := hl
  have locs : List Loc := []
  unfold f7_rampOf at h
  refine lv_aload_n hx hb dX7_rampOf_0 rfl (lv_at hl 0 rfl) ?_
  refine lv_iload_n hx hb dX7_rampOf_1 rfl (lv_at hl 1 rfl) ?_
  refine lv_iload_n hx hb dX7_rampOf_2 rfl (lv_at hl 2 rfl) ?_
  refine lv_iconst (v := (2 : Int32)) hx hb dX7_rampOf_3 (by decide +kernel) ?_
  refine lv_iadd hx hb dX7_rampOf_4 ?_
  obtain ⟨I_2, hc_3, h⟩ := clM_e h
  refine r_callV (As := [.int a1, .int (a2 + (2 : Int32))]) [] X (c7_layRoots l g hG N _ _ _ _ t0 _ hc_3) cal_X7_layRoots (im_X7_layRoots) (se_X7_layRoots) k_697 (tag_lt t0 (by decide)) (by rw [lay, t0]; rfl) rfl rfl ⟨rfl, rfl⟩ ⟨Nat.le_of_ble_eq_true rfl, Nat.le_of_ble_eq_true rfl⟩ hP hS hl.1 rfl (Nat.le_of_ble_eq_true rfl) dX7_rampOf_5 ⟨Nat.zero_le _, Nat.zero_le _⟩ (fun H locs hP hS => ?_)
  show W p l e rm7_rampOf s m args below meth c H locs 0 0 _ (F0 m 8 ls [])
  refine lv_aload_n hx hb dX7_rampOf_8 rfl (lv_at hl 0 rfl) ?_
  refine g7_11 X hP t0 k_562 dX7_rampOf_9 ?_
  refine lv_iload_n hx hb dX7_rampOf_12 rfl (lv_at hl 2 rfl) ?_
  refine lv_iconst (v := (1 : Int32)) hx hb dX7_rampOf_13 (by decide +kernel) ?_
  refine lv_iadd hx hb dX7_rampOf_14 ?_
  obtain ⟨g_4, h⟩ := gd_e h
  refine r_iald (n := 1001) X hP (g7_11_t t0) g_4 (j := (a2 + (1 : Int32)).toNatClampNeg) rfl dX7_rampOf_15 ?_
  refine lv_aload_n hx hb dX7_rampOf_16 rfl (lv_at hl 0 rfl) ?_
  refine g7_11 X hP t0 k_562 dX7_rampOf_17 ?_
  refine lv_iload_n hx hb dX7_rampOf_20 rfl (lv_at hl 2 rfl) ?_
  obtain ⟨g_5, h⟩ := gd_e h
  refine r_iald (n := 1001) X hP (g7_11_t t0) g_5 (j := a2.toNatClampNeg) rfl dX7_rampOf_21 ?_
  refine lv_isub hx hb dX7_rampOf_22 ?_
  exact r_iret X hr hlk hP hS dX7_rampOf_23 h
abbrev rm7_cruiseOf : Room := { frames := 0, cells := 0, slots := 0, locals := 0 }
def f7_cruiseOf (N : Nat) (I : Mem) (a0 : Int32) : Option (Int32 × Mem) :=
    if a0 = (0 : Int32) then none else
    some (((((10000 : Int32) + a0) - (1 : Int32)) / a0), I)
set_option maxHeartbeats 4000000 in
set_option maxRecDepth 100000 in
theorem c7_cruiseOf (l : Launch) (g : GG) (hG : Apart g NT) (N : Nat) (I : Mem) (a0 : Int32) (r0 : Int32) (I0 : Mem) (h : f7_cruiseOf N I a0 = some (r0, I0)) : Mc l g yX7_cruiseOf cX7_cruiseOf 1 (some .int) rm7_cruiseOf I [.int a0] (some (.int r0)) I0 := by
  refine Mc.of hG (by decide +kernel) (Nat.le_of_ble_eq_true rfl) ?_
  intro p e s m args below meth c ls X hr hlk hP hS hl
  have X : Cx g p s m args c cX7_cruiseOf RX7 1 := X
  have hx := X.hx
  have hb := X.hb
  have hl : lv_has ls 1 [(0, .int a0)] := hl
  have locs : List Loc := []
  unfold f7_cruiseOf at h
  refine lv_sipush (v := (10000 : Int32)) hx hb dX7_cruiseOf_0 (by decide +kernel) ?_
  refine lv_iload_n hx hb dX7_cruiseOf_3 rfl (lv_at hl 0 rfl) ?_
  refine lv_iadd hx hb dX7_cruiseOf_4 ?_
  refine lv_iconst (v := (1 : Int32)) hx hb dX7_cruiseOf_5 (by decide +kernel) ?_
  refine lv_isub hx hb dX7_cruiseOf_6 ?_
  refine lv_iload_n hx hb dX7_cruiseOf_7 rfl (lv_at hl 0 rfl) ?_
  obtain ⟨g_1, h⟩ := gd_e h
  refine lv_idiv hx hb dX7_cruiseOf_8 g_1 ?_
  exact r_iret X hr hlk hP hS dX7_cruiseOf_9 h
abbrev rm7_topOf : Room := { frames := 3, cells := 0, slots := 0, locals := 70 }
def f7_topOf_3 (N : Nat) (k0 : Nat) (a1 : Int32) (a2 : Int32) (a3 : Int32) : Nat → Mem → Int32 → Option (Int32 × Mem)
  | 0, _, _ => none
  | cnt+1, I, v4 =>
    if a3 ≤ v4 then
    some (v4, I)
    else
    clP (f7_rampOf N I k0 a1 v4) (fun (q_2 : Int32) (I_3 : Mem) =>
    clP (f7_cruiseOf N I_3 a2) (fun (q_5 : Int32) (I_6 : Mem) =>
    if q_2 ≤ q_5 then
    some (v4, I_6)
    else
    letM (v4 + (1 : Int32)) (fun x_9 : Int32 =>
    f7_topOf_3 N k0 a1 a2 a3 cnt I_6 x_9)))
def f7_topOf (N : Nat) (I : Mem) (k0 : Nat) (a1 : Int32) (a2 : Int32) (a3 : Int32) : Option (Int32 × Mem) :=
    f7_topOf_3 N k0 a1 a2 a3 N I (0 : Int32)
set_option maxHeartbeats 4000000 in
set_option maxRecDepth 100000 in
theorem L7_topOf_3 (hG : Apart g NT) (N : Nat) (k0 : Nat) (a1 : Int32) (a2 : Int32) (a3 : Int32) (t0 : tag k0 = 6) (X : Cx g p s m args c cX7_topOf RX7 5) (hr : meth.sig.returnType = (some .int)) (hlk : meth.locks = false) (r0 : Int32) (I0 : Mem) : ∀ (cnt : Nat) (I : Mem) (v4 : Int32), f7_topOf_3 N k0 a1 a2 a3 cnt I v4 = some (r0, I0) → ∀ (H : Heap) (locs : List Loc) (ls : Array Slot), Wp g I H → va_S (gA g) s.heap H locs → lv_has ls 5 [(0, .ref (ga g k0)), (1, .int a1), (2, .int a2), (3, .int a3), (4, .int v4)] → W p l e rm7_topOf s m args below meth c H locs 0 0 (MQ below (Qg g (some (.int r0)) I0) args s 0 0 (gA g)) (F0 m 3 ls []) := by
  have hx := X.hx
  have hb := X.hb
  intro cnt
  induction cnt with
  | zero =>
    intro I v4 h
    rw [f7_topOf_3] at h
    cases h
  | succ cnt ih =>
    intro I v4 h H locs ls hP hS hl
    rw [f7_topOf_3] at h
    refine lv_iload hx hb dX7_topOf_3 (lv_at hl 4 rfl) ?_
    refine lv_iload_n hx hb dX7_topOf_5 rfl (lv_at hl 3 rfl) ?_
    refine lv_icmp_ge (tgt := 29) hx hb dX7_topOf_6 (by decide) (fun c_1 => ?_) (fun c_1 => ?_)
    · replace h := ifp c_1 h
      refine lv_iload hx hb dX7_topOf_29 (lv_at hl 4 rfl) ?_
      exact r_iret X hr hlk hP hS dX7_topOf_31 h
    · replace h := ifn c_1 h
      refine lv_aload_n hx hb dX7_topOf_9 rfl (lv_at hl 0 rfl) ?_
      refine lv_iload_n hx hb dX7_topOf_10 rfl (lv_at hl 1 rfl) ?_
      refine lv_iload hx hb dX7_topOf_11 (lv_at hl 4 rfl) ?_
      obtain ⟨q_2, I_3, hc_4, h⟩ := clP_e h
      refine r_callV (As := [.int a1, .int v4]) [] X (c7_rampOf l g hG N _ _ _ _ t0 _ _ hc_4) cal_X7_rampOf (im_X7_rampOf) (se_X7_rampOf) k_693 (tag_lt t0 (by decide)) (by rw [lay, t0]; rfl) rfl rfl ⟨rfl, rfl⟩ ⟨Nat.le_of_ble_eq_true rfl, Nat.le_of_ble_eq_true rfl⟩ hP hS hl.1 rfl (Nat.le_of_ble_eq_true rfl) dX7_topOf_13 ⟨Nat.zero_le _, Nat.zero_le _⟩ (fun H locs hP hS => ?_)
      show W p l e rm7_topOf s m args below meth c H locs 0 0 _ (F0 m 16 ls [.int q_2])
      refine lv_iload_n hx hb dX7_topOf_16 rfl (lv_at hl 2 rfl) ?_
      obtain ⟨q_5, I_6, hc_7, h⟩ := clP_e h
      refine r_callS (As := [.int a2]) [.int q_2] X (c7_cruiseOf l g hG N _ _ _ _ hc_7) cal_X7_cruiseOf (sc_X7_cruiseOf) k_705 rfl ⟨rfl, rfl⟩ ⟨Nat.le_of_ble_eq_true rfl, Nat.le_of_ble_eq_true rfl⟩ hP hS hl.1 rfl (Nat.le_of_ble_eq_true rfl) dX7_topOf_17 ⟨Nat.zero_le _, Nat.zero_le _⟩ (fun H locs hP hS => ?_)
      show W p l e rm7_topOf s m args below meth c H locs 0 0 _ (F0 m 20 ls [.int q_5, .int q_2])
      refine lv_icmp_le (tgt := 29) hx hb dX7_topOf_20 (by decide) (fun c_8 => ?_) (fun c_8 => ?_)
      · replace h := ifp c_8 h
        refine lv_iload hx hb dX7_topOf_29 (lv_at hl 4 rfl) ?_
        exact r_iret X hr hlk hP hS dX7_topOf_31 h
      · replace h := ifn c_8 h
        obtain ⟨x_9, ex_9, h⟩ := letM_e h
        refine lv_iinc (v := x_9) (lv' := [(4, .int x_9), (0, .ref (ga g k0)), (1, .int a1), (2, .int a2), (3, .int a3)]) hx hb dX7_topOf_23 hl (k := 4) rfl (by rw [ex_9]; rfl) (by decide) rfl (fun ls hl => ?_)
        refine lv_goto (tgt := 3) hx hb dX7_topOf_26 (by decide) ?_
        exact ih I_6 x_9 h _ _ _ hP hS (lv_sub hl [1, 2, 3, 4, 0] rfl)
set_option maxHeartbeats 4000000 in
set_option maxRecDepth 100000 in
theorem c7_topOf (l : Launch) (g : GG) (hG : Apart g NT) (N : Nat) (I : Mem) (k0 : Nat) (a1 : Int32) (a2 : Int32) (a3 : Int32) (t0 : tag k0 = 6) (r0 : Int32) (I0 : Mem) (h : f7_topOf N I k0 a1 a2 a3 = some (r0, I0)) : Mc l g yX7_topOf cX7_topOf 5 (some .int) rm7_topOf I [.ref (ga g k0), .int a1, .int a2, .int a3] (some (.int r0)) I0 := by
  refine Mc.of hG (by decide +kernel) (Nat.le_of_ble_eq_true rfl) ?_
  intro p e s m args below meth c ls X hr hlk hP hS hl
  have X : Cx g p s m args c cX7_topOf RX7 5 := X
  have hx := X.hx
  have hb := X.hb
  have hl : lv_has ls 5 [(0, .ref (ga g k0)), (1, .int a1), (2, .int a2), (3, .int a3)] := hl
  have locs : List Loc := []
  unfold f7_topOf at h
  refine lv_iconst (v := (0 : Int32)) hx hb dX7_topOf_0 (by decide +kernel) ?_
  refine lv_istore (lv' := [(4, .int (0 : Int32)), (0, .ref (ga g k0)), (1, .int a1), (2, .int a2), (3, .int a3)]) hx hb dX7_topOf_1 hl (by decide) rfl (fun ls hl => ?_)
  exact L7_topOf_3 hG N k0 a1 a2 a3 t0 X hr hlk r0 I0 N I (0 : Int32) h _ _ _ hP hS (lv_sub hl [1, 2, 3, 4, 0] rfl)
abbrev rm7_fullTop : Room := { frames := 4, cells := 0, slots := 0, locals := 94 }
def f7_fullTop_16 (N : Nat) (k0 : Nat) (a1 : Int32) (a2 : Int32) (I : Mem) : Option (Int32 × Mem) :=
    clP (f7_topOf N I k0 a1 a2 (999 : Int32)) (fun (q_2 : Int32) (I_3 : Mem) =>
    letM (st I_3 k0 16 q_2) (fun I_5 : Mem =>
    letM (st I_5 k0 14 a1) (fun I_6 : Mem =>
    letM (st I_6 k0 15 a2) (fun I_7 : Mem =>
    some ((I_7 k0 16), I_7)))))
def f7_fullTop (N : Nat) (I : Mem) (k0 : Nat) (a1 : Int32) (a2 : Int32) : Option (Int32 × Mem) :=
    if (I k0 14) = a1 then
    if (I k0 15) = a2 then
    some ((I k0 16), I)
    else
    f7_fullTop_16 N k0 a1 a2 I
    else
    f7_fullTop_16 N k0 a1 a2 I
set_option maxHeartbeats 4000000 in
set_option maxRecDepth 100000 in
theorem L7_fullTop_16 (hG : Apart g NT) (N : Nat) (k0 : Nat) (a1 : Int32) (a2 : Int32) (t0 : tag k0 = 6) (X : Cx g p s m args c cX7_fullTop RX7 3) (hr : meth.sig.returnType = (some .int)) (hlk : meth.locks = false) (r0 : Int32) (I0 : Mem) : ∀ (I : Mem), f7_fullTop_16 N k0 a1 a2 I = some (r0, I0) → ∀ (H : Heap) (locs : List Loc) (ls : Array Slot), Wp g I H → va_S (gA g) s.heap H locs → lv_has ls 3 [(0, .ref (ga g k0)), (1, .int a1), (2, .int a2)] → W p l e rm7_fullTop s m args below meth c H locs 0 0 (MQ below (Qg g (some (.int r0)) I0) args s 0 0 (gA g)) (F0 m 16 ls []) := by
  have hx := X.hx
  have hb := X.hb
  intro I h H locs ls hP hS hl
  unfold f7_fullTop_16 at h
  refine lv_aload_n hx hb dX7_fullTop_16 rfl (lv_at hl 0 rfl) ?_
  refine lv_aload_n hx hb dX7_fullTop_17 rfl (lv_at hl 0 rfl) ?_
  refine lv_iload_n hx hb dX7_fullTop_18 rfl (lv_at hl 1 rfl) ?_
  refine lv_iload_n hx hb dX7_fullTop_19 rfl (lv_at hl 2 rfl) ?_
  refine lv_sipush (v := (999 : Int32)) hx hb dX7_fullTop_20 (by decide +kernel) ?_
  obtain ⟨q_2, I_3, hc_4, h⟩ := clP_e h
  refine r_callV (As := [.int a1, .int a2, .int (999 : Int32)]) [.ref (ga g k0)] X (c7_topOf l g hG N _ _ _ _ _ t0 _ _ hc_4) cal_X7_topOf (im_X7_topOf) (se_X7_topOf) k_689 (tag_lt t0 (by decide)) (by rw [lay, t0]; rfl) rfl rfl ⟨rfl, rfl⟩ ⟨Nat.le_of_ble_eq_true rfl, Nat.le_of_ble_eq_true rfl⟩ hP hS hl.1 rfl (Nat.le_of_ble_eq_true rfl) dX7_fullTop_23 ⟨Nat.zero_le _, Nat.zero_le _⟩ (fun H locs hP hS => ?_)
  show W p l e rm7_fullTop s m args below meth c H locs 0 0 _ (F0 m 26 ls [.int q_2, .ref (ga g k0)])
  obtain ⟨I_5, eI_5, h⟩ := letM_e h
  refine p7_16 X hP hS t0 k_567 eI_5 dX7_fullTop_26 (fun H locs hP hS => ?_)
  refine lv_aload_n hx hb dX7_fullTop_29 rfl (lv_at hl 0 rfl) ?_
  refine lv_iload_n hx hb dX7_fullTop_30 rfl (lv_at hl 1 rfl) ?_
  obtain ⟨I_6, eI_6, h⟩ := letM_e h
  refine p7_14 X hP hS t0 k_565 eI_6 dX7_fullTop_31 (fun H locs hP hS => ?_)
  refine lv_aload_n hx hb dX7_fullTop_34 rfl (lv_at hl 0 rfl) ?_
  refine lv_iload_n hx hb dX7_fullTop_35 rfl (lv_at hl 2 rfl) ?_
  obtain ⟨I_7, eI_7, h⟩ := letM_e h
  refine p7_15 X hP hS t0 k_566 eI_7 dX7_fullTop_36 (fun H locs hP hS => ?_)
  refine lv_aload_n hx hb dX7_fullTop_39 rfl (lv_at hl 0 rfl) ?_
  refine g7_16 X hP t0 k_567 dX7_fullTop_40 ?_
  exact r_iret X hr hlk hP hS dX7_fullTop_43 h
set_option maxHeartbeats 4000000 in
set_option maxRecDepth 100000 in
theorem c7_fullTop (l : Launch) (g : GG) (hG : Apart g NT) (N : Nat) (I : Mem) (k0 : Nat) (a1 : Int32) (a2 : Int32) (t0 : tag k0 = 6) (r0 : Int32) (I0 : Mem) (h : f7_fullTop N I k0 a1 a2 = some (r0, I0)) : Mc l g yX7_fullTop cX7_fullTop 3 (some .int) rm7_fullTop I [.ref (ga g k0), .int a1, .int a2] (some (.int r0)) I0 := by
  refine Mc.of hG (by decide +kernel) (Nat.le_of_ble_eq_true rfl) ?_
  intro p e s m args below meth c ls X hr hlk hP hS hl
  have X : Cx g p s m args c cX7_fullTop RX7 3 := X
  have hx := X.hx
  have hb := X.hb
  have hl : lv_has ls 3 [(0, .ref (ga g k0)), (1, .int a1), (2, .int a2)] := hl
  have locs : List Loc := []
  unfold f7_fullTop at h
  refine lv_aload_n hx hb dX7_fullTop_0 rfl (lv_at hl 0 rfl) ?_
  refine g7_14 X hP t0 k_565 dX7_fullTop_1 ?_
  refine lv_iload_n hx hb dX7_fullTop_4 rfl (lv_at hl 1 rfl) ?_
  refine lv_icmp_ne (tgt := 16) hx hb dX7_fullTop_5 (by decide) (fun c_1 => ?_) (fun c_1 => ?_)
  · replace h := ifn c_1 h
    exact L7_fullTop_16 hG N k0 a1 a2 t0 X hr hlk r0 I0 I h _ _ _ hP hS (lv_sub hl [0, 1, 2] rfl)
  · replace h := ifp c_1 h
    refine lv_aload_n hx hb dX7_fullTop_8 rfl (lv_at hl 0 rfl) ?_
    refine g7_15 X hP t0 k_566 dX7_fullTop_9 ?_
    refine lv_iload_n hx hb dX7_fullTop_12 rfl (lv_at hl 2 rfl) ?_
    refine lv_icmp_eq (tgt := 39) hx hb dX7_fullTop_13 (by decide) (fun c_8 => ?_) (fun c_8 => ?_)
    · replace h := ifp c_8 h
      refine lv_aload_n hx hb dX7_fullTop_39 rfl (lv_at hl 0 rfl) ?_
      refine g7_16 X hP t0 k_567 dX7_fullTop_40 ?_
      exact r_iret X hr hlk hP hS dX7_fullTop_43 h
    · replace h := ifn c_8 h
      exact L7_fullTop_16 hG N k0 a1 a2 t0 X hr hlk r0 I0 I h _ _ _ hP hS (lv_sub hl [0, 1, 2] rfl)
abbrev rm7_intervalOf : Room := { frames := 3, cells := 0, slots := 0, locals := 70 }
def f7_intervalOf (N : Nat) (I : Mem) (k0 : Nat) (a1 : Int32) (a2 : Int32) (a3 : Int32) : Option (Int32 × Mem) :=
    clP (f7_rampOf N I k0 a1 a3) (fun (q_1 : Int32) (I_2 : Mem) =>
    clP (f7_cruiseOf N I_2 a2) (fun (q_4 : Int32) (I_5 : Mem) =>
    if q_1 ≤ q_4 then
    clP (f7_cruiseOf N I_5 a2) (fun (q_8 : Int32) (I_9 : Mem) =>
    some (q_8, I_9))
    else
    some (q_1, I_5)))
set_option maxHeartbeats 4000000 in
set_option maxRecDepth 100000 in
theorem c7_intervalOf (l : Launch) (g : GG) (hG : Apart g NT) (N : Nat) (I : Mem) (k0 : Nat) (a1 : Int32) (a2 : Int32) (a3 : Int32) (t0 : tag k0 = 6) (r0 : Int32) (I0 : Mem) (h : f7_intervalOf N I k0 a1 a2 a3 = some (r0, I0)) : Mc l g yX7_intervalOf cX7_intervalOf 5 (some .int) rm7_intervalOf I [.ref (ga g k0), .int a1, .int a2, .int a3] (some (.int r0)) I0 := by
  refine Mc.of hG (by decide +kernel) (Nat.le_of_ble_eq_true rfl) ?_
  intro p e s m args below meth c ls X hr hlk hP hS hl
  have X : Cx g p s m args c cX7_intervalOf RX7 5 := X
  have hx := X.hx
  have hb := X.hb
  have hl : lv_has ls 5 [(0, .ref (ga g k0)), (1, .int a1), (2, .int a2), (3, .int a3)] := hl
  have locs : List Loc := []
  unfold f7_intervalOf at h
  refine lv_aload_n hx hb dX7_intervalOf_0 rfl (lv_at hl 0 rfl) ?_
  refine lv_iload_n hx hb dX7_intervalOf_1 rfl (lv_at hl 1 rfl) ?_
  refine lv_iload_n hx hb dX7_intervalOf_2 rfl (lv_at hl 3 rfl) ?_
  obtain ⟨q_1, I_2, hc_3, h⟩ := clP_e h
  refine r_callV (As := [.int a1, .int a3]) [] X (c7_rampOf l g hG N _ _ _ _ t0 _ _ hc_3) cal_X7_rampOf (im_X7_rampOf) (se_X7_rampOf) k_693 (tag_lt t0 (by decide)) (by rw [lay, t0]; rfl) rfl rfl ⟨rfl, rfl⟩ ⟨Nat.le_of_ble_eq_true rfl, Nat.le_of_ble_eq_true rfl⟩ hP hS hl.1 rfl (Nat.le_of_ble_eq_true rfl) dX7_intervalOf_3 ⟨Nat.zero_le _, Nat.zero_le _⟩ (fun H locs hP hS => ?_)
  show W p l e rm7_intervalOf s m args below meth c H locs 0 0 _ (F0 m 6 ls [.int q_1])
  refine lv_istore (lv' := [(4, .int q_1), (0, .ref (ga g k0)), (1, .int a1), (2, .int a2), (3, .int a3)]) hx hb dX7_intervalOf_6 hl (by decide) rfl (fun ls hl => ?_)
  refine lv_iload hx hb dX7_intervalOf_8 (lv_at hl 0 rfl) ?_
  refine lv_iload_n hx hb dX7_intervalOf_10 rfl (lv_at hl 3 rfl) ?_
  obtain ⟨q_4, I_5, hc_6, h⟩ := clP_e h
  refine r_callS (As := [.int a2]) [.int q_1] X (c7_cruiseOf l g hG N _ _ _ _ hc_6) cal_X7_cruiseOf (sc_X7_cruiseOf) k_705 rfl ⟨rfl, rfl⟩ ⟨Nat.le_of_ble_eq_true rfl, Nat.le_of_ble_eq_true rfl⟩ hP hS hl.1 rfl (Nat.le_of_ble_eq_true rfl) dX7_intervalOf_11 ⟨Nat.zero_le _, Nat.zero_le _⟩ (fun H locs hP hS => ?_)
  show W p l e rm7_intervalOf s m args below meth c H locs 0 0 _ (F0 m 14 ls [.int q_4, .int q_1])
  refine lv_icmp_le (tgt := 22) hx hb dX7_intervalOf_14 (by decide) (fun c_7 => ?_) (fun c_7 => ?_)
  · replace h := ifp c_7 h
    refine lv_iload_n hx hb dX7_intervalOf_22 rfl (lv_at hl 3 rfl) ?_
    obtain ⟨q_8, I_9, hc_10, h⟩ := clP_e h
    refine r_callS (As := [.int a2]) [] X (c7_cruiseOf l g hG N _ _ _ _ hc_10) cal_X7_cruiseOf (sc_X7_cruiseOf) k_705 rfl ⟨rfl, rfl⟩ ⟨Nat.le_of_ble_eq_true rfl, Nat.le_of_ble_eq_true rfl⟩ hP hS hl.1 rfl (Nat.le_of_ble_eq_true rfl) dX7_intervalOf_23 ⟨Nat.zero_le _, Nat.zero_le _⟩ (fun H locs hP hS => ?_)
    show W p l e rm7_intervalOf s m args below meth c H locs 0 0 _ (F0 m 26 ls [.int q_8])
    exact r_iret X hr hlk hP hS dX7_intervalOf_26 h
  · replace h := ifn c_7 h
    refine lv_iload hx hb dX7_intervalOf_17 (lv_at hl 0 rfl) ?_
    refine lv_goto (tgt := 26) hx hb dX7_intervalOf_19 (by decide) ?_
    exact r_iret X hr hlk hP hS dX7_intervalOf_26 h
abbrev rm7_indexAfter : Room := { frames := 0, cells := 0, slots := 0, locals := 0 }
def f7_indexAfter_14 (N : Nat) (a0 : Int32) (a1 : Int32) (a2 : Int32) (I : Mem) (s0 : Int32) : Option (Int32 × Mem) :=
    if s0 < (a0 + (1 : Int32)) then
    if s0 < a0 then
    some ((a0 - (1 : Int32)), I)
    else
    some (a0, I)
    else
    some ((a0 + (1 : Int32)), I)
def f7_indexAfter (N : Nat) (I : Mem) (a0 : Int32) (a1 : Int32) (a2 : Int32) : Option (Int32 × Mem) :=
    if a2 ≤ (a1 - (1 : Int32)) then
    f7_indexAfter_14 N a0 a1 a2 I a2
    else
    f7_indexAfter_14 N a0 a1 a2 I (a1 - (1 : Int32))
set_option maxHeartbeats 4000000 in
set_option maxRecDepth 100000 in
theorem L7_indexAfter_14 (hG : Apart g NT) (N : Nat) (a0 : Int32) (a1 : Int32) (a2 : Int32) (X : Cx g p s m args c cX7_indexAfter RX7 4) (hr : meth.sig.returnType = (some .int)) (hlk : meth.locks = false) (r0 : Int32) (I0 : Mem) : ∀ (I : Mem) (s0 : Int32), f7_indexAfter_14 N a0 a1 a2 I s0 = some (r0, I0) → ∀ (H : Heap) (locs : List Loc) (ls : Array Slot), Wp g I H → va_S (gA g) s.heap H locs → lv_has ls 4 [(0, .int a0)] → W p l e rm7_indexAfter s m args below meth c H locs 0 0 (MQ below (Qg g (some (.int r0)) I0) args s 0 0 (gA g)) (F0 m 14 ls [.int s0]) := by
  have hx := X.hx
  have hb := X.hb
  intro I s0 h H locs ls hP hS hl
  unfold f7_indexAfter_14 at h
  refine lv_istore_n (lv' := [(3, .int s0), (0, .int a0)]) hx hb dX7_indexAfter_14 rfl hl (by decide) rfl (fun ls hl => ?_)
  refine lv_iload_n hx hb dX7_indexAfter_15 rfl (lv_at hl 1 rfl) ?_
  refine lv_iconst (v := (1 : Int32)) hx hb dX7_indexAfter_16 (by decide +kernel) ?_
  refine lv_iadd hx hb dX7_indexAfter_17 ?_
  refine lv_iload_n hx hb dX7_indexAfter_18 rfl (lv_at hl 0 rfl) ?_
  refine lv_icmp_gt (tgt := 28) hx hb dX7_indexAfter_19 (by decide) (fun c_2 => ?_) (fun c_2 => ?_)
  · replace h := ifp c_2 h
    refine lv_iload_n hx hb dX7_indexAfter_28 rfl (lv_at hl 1 rfl) ?_
    refine lv_iload_n hx hb dX7_indexAfter_29 rfl (lv_at hl 0 rfl) ?_
    refine lv_icmp_gt (tgt := 37) hx hb dX7_indexAfter_30 (by decide) (fun c_3 => ?_) (fun c_3 => ?_)
    · replace h := ifp c_3 h
      refine lv_iload_n hx hb dX7_indexAfter_37 rfl (lv_at hl 1 rfl) ?_
      refine lv_iconst (v := (1 : Int32)) hx hb dX7_indexAfter_38 (by decide +kernel) ?_
      refine lv_isub hx hb dX7_indexAfter_39 ?_
      exact r_iret X hr hlk hP hS dX7_indexAfter_40 h
    · replace h := ifn c_3 h
      refine lv_iload_n hx hb dX7_indexAfter_33 rfl (lv_at hl 1 rfl) ?_
      refine lv_goto (tgt := 40) hx hb dX7_indexAfter_34 (by decide) ?_
      exact r_iret X hr hlk hP hS dX7_indexAfter_40 h
  · replace h := ifn c_2 h
    refine lv_iload_n hx hb dX7_indexAfter_22 rfl (lv_at hl 1 rfl) ?_
    refine lv_iconst (v := (1 : Int32)) hx hb dX7_indexAfter_23 (by decide +kernel) ?_
    refine lv_iadd hx hb dX7_indexAfter_24 ?_
    refine lv_goto (tgt := 40) hx hb dX7_indexAfter_25 (by decide) ?_
    exact r_iret X hr hlk hP hS dX7_indexAfter_40 h
set_option maxHeartbeats 4000000 in
set_option maxRecDepth 100000 in
theorem c7_indexAfter (l : Launch) (g : GG) (hG : Apart g NT) (N : Nat) (I : Mem) (a0 : Int32) (a1 : Int32) (a2 : Int32) (r0 : Int32) (I0 : Mem) (h : f7_indexAfter N I a0 a1 a2 = some (r0, I0)) : Mc l g yX7_indexAfter cX7_indexAfter 4 (some .int) rm7_indexAfter I [.int a0, .int a1, .int a2] (some (.int r0)) I0 := by
  refine Mc.of hG (by decide +kernel) (Nat.le_of_ble_eq_true rfl) ?_
  intro p e s m args below meth c ls X hr hlk hP hS hl
  have X : Cx g p s m args c cX7_indexAfter RX7 4 := X
  have hx := X.hx
  have hb := X.hb
  have hl : lv_has ls 4 [(0, .int a0), (1, .int a1), (2, .int a2)] := hl
  have locs : List Loc := []
  unfold f7_indexAfter at h
  refine lv_iload_n hx hb dX7_indexAfter_0 rfl (lv_at hl 1 rfl) ?_
  refine lv_iconst (v := (1 : Int32)) hx hb dX7_indexAfter_1 (by decide +kernel) ?_
  refine lv_isub hx hb dX7_indexAfter_2 ?_
  refine lv_iload_n hx hb dX7_indexAfter_3 rfl (lv_at hl 2 rfl) ?_
  refine lv_icmp_ge (tgt := 13) hx hb dX7_indexAfter_4 (by decide) (fun c_1 => ?_) (fun c_1 => ?_)
  · replace h := ifp c_1 h
    refine lv_iload_n hx hb dX7_indexAfter_13 rfl (lv_at hl 2 rfl) ?_
    exact L7_indexAfter_14 hG N a0 a1 a2 X hr hlk r0 I0 I a2 h _ _ _ hP hS (lv_sub hl [0] rfl)
  · replace h := ifn c_1 h
    refine lv_iload_n hx hb dX7_indexAfter_7 rfl (lv_at hl 1 rfl) ?_
    refine lv_iconst (v := (1 : Int32)) hx hb dX7_indexAfter_8 (by decide +kernel) ?_
    refine lv_isub hx hb dX7_indexAfter_9 ?_
    refine lv_goto (tgt := 14) hx hb dX7_indexAfter_10 (by decide) ?_
    exact L7_indexAfter_14 hG N a0 a1 a2 X hr hlk r0 I0 I (a1 - (1 : Int32)) h _ _ _ hP hS (lv_sub hl [0] rfl)
abbrev rm7_ticksOf : Room := { frames := 4, cells := 0, slots := 0, locals := 94 }
def f7_ticksOf_47 (N : Nat) (k0 : Nat) (a1 : Int32) (a2 : Int32) (a3 : Int32) : Nat → Mem → Int32 → Int32 → Int32 → Int32 → Option (Int32 × Mem)
  | 0, _, _, _, _, _ => none
  | cnt+1, I, v4, v5, v6, v7 =>
    if v7 ≤ (0 : Int32) then
    some (v6, I)
    else
    clP (f7_indexAfter N I v5 v7 v4) (fun (q_10 : Int32) (I_11 : Mem) =>
    clP (f7_intervalOf N I_11 k0 a1 a2 q_10) (fun (q_13 : Int32) (I_14 : Mem) =>
    letM (v6 + q_13) (fun x_16 : Int32 =>
    letM (v7 + (-1 : Int32)) (fun x_17 : Int32 =>
    f7_ticksOf_47 N k0 a1 a2 a3 cnt I_14 v4 q_10 x_16 x_17))))
def f7_ticksOf_25 (N : Nat) (k0 : Nat) (a1 : Int32) (a2 : Int32) (a3 : Int32) (I : Mem) (s0 : Int32) (s1 : Int32) (s2 : Int32) : Option (Int32 × Mem) :=
    clP (f7_topOf N I k0 s2 s1 s0) (fun (q_2 : Int32) (I_3 : Mem) =>
    clP (f7_intervalOf N I_3 k0 a1 a2 (0 : Int32)) (fun (q_5 : Int32) (I_6 : Mem) =>
    letM (a3 - (1 : Int32)) (fun x_8 : Int32 =>
    f7_ticksOf_47 N k0 a1 a2 a3 N I_6 q_2 (0 : Int32) q_5 x_8)))
def f7_ticksOf (N : Nat) (I : Mem) (k0 : Nat) (a1 : Int32) (a2 : Int32) (a3 : Int32) : Option (Int32 × Mem) :=
    if (999 : Int32) ≤ ((a3 / (2 : Int32)) + (1 : Int32)) then
    f7_ticksOf_25 N k0 a1 a2 a3 I (999 : Int32) a2 a1
    else
    f7_ticksOf_25 N k0 a1 a2 a3 I ((a3 / (2 : Int32)) + (1 : Int32)) a2 a1
set_option maxHeartbeats 4000000 in
set_option maxRecDepth 100000 in
theorem L7_ticksOf_47 (hG : Apart g NT) (N : Nat) (k0 : Nat) (a1 : Int32) (a2 : Int32) (a3 : Int32) (t0 : tag k0 = 6) (X : Cx g p s m args c cX7_ticksOf RX7 8) (hr : meth.sig.returnType = (some .int)) (hlk : meth.locks = false) (r0 : Int32) (I0 : Mem) : ∀ (cnt : Nat) (I : Mem) (v4 : Int32) (v5 : Int32) (v6 : Int32) (v7 : Int32), f7_ticksOf_47 N k0 a1 a2 a3 cnt I v4 v5 v6 v7 = some (r0, I0) → ∀ (H : Heap) (locs : List Loc) (ls : Array Slot), Wp g I H → va_S (gA g) s.heap H locs → lv_has ls 8 [(0, .ref (ga g k0)), (1, .int a1), (2, .int a2), (4, .int v4), (5, .int v5), (6, .int v6), (7, .int v7)] → W p l e rm7_ticksOf s m args below meth c H locs 0 0 (MQ below (Qg g (some (.int r0)) I0) args s 0 0 (gA g)) (F0 m 47 ls []) := by
  have hx := X.hx
  have hb := X.hb
  intro cnt
  induction cnt with
  | zero =>
    intro I v4 v5 v6 v7 h
    rw [f7_ticksOf_47] at h
    cases h
  | succ cnt ih =>
    intro I v4 v5 v6 v7 h H locs ls hP hS hl
    rw [f7_ticksOf_47] at h
    refine lv_iload hx hb dX7_ticksOf_47 (lv_at hl 6 rfl) ?_
    refine lv_if_le (tgt := 82) hx hb dX7_ticksOf_49 (by decide) (fun c_9 => ?_) (fun c_9 => ?_)
    · replace h := ifp c_9 h
      refine lv_iload hx hb dX7_ticksOf_82 (lv_at hl 5 rfl) ?_
      exact r_iret X hr hlk hP hS dX7_ticksOf_84 h
    · replace h := ifn c_9 h
      refine lv_iload hx hb dX7_ticksOf_52 (lv_at hl 4 rfl) ?_
      refine lv_iload hx hb dX7_ticksOf_54 (lv_at hl 6 rfl) ?_
      refine lv_iload hx hb dX7_ticksOf_56 (lv_at hl 3 rfl) ?_
      obtain ⟨q_10, I_11, hc_12, h⟩ := clP_e h
      refine r_callS (As := [.int v5, .int v7, .int v4]) [] X (c7_indexAfter l g hG N _ _ _ _ _ _ hc_12) cal_X7_indexAfter (sc_X7_indexAfter) k_761 rfl ⟨rfl, rfl⟩ ⟨Nat.le_of_ble_eq_true rfl, Nat.le_of_ble_eq_true rfl⟩ hP hS hl.1 rfl (Nat.le_of_ble_eq_true rfl) dX7_ticksOf_58 ⟨Nat.zero_le _, Nat.zero_le _⟩ (fun H locs hP hS => ?_)
      show W p l e rm7_ticksOf s m args below meth c H locs 0 0 _ (F0 m 61 ls [.int q_10])
      refine lv_istore (lv' := [(5, .int q_10), (0, .ref (ga g k0)), (1, .int a1), (2, .int a2), (4, .int v4), (6, .int v6), (7, .int v7)]) hx hb dX7_ticksOf_61 hl (by decide) rfl (fun ls hl => ?_)
      refine lv_iload hx hb dX7_ticksOf_63 (lv_at hl 5 rfl) ?_
      refine lv_aload_n hx hb dX7_ticksOf_65 rfl (lv_at hl 1 rfl) ?_
      refine lv_iload_n hx hb dX7_ticksOf_66 rfl (lv_at hl 2 rfl) ?_
      refine lv_iload_n hx hb dX7_ticksOf_67 rfl (lv_at hl 3 rfl) ?_
      refine lv_iload hx hb dX7_ticksOf_68 (lv_at hl 0 rfl) ?_
      obtain ⟨q_13, I_14, hc_15, h⟩ := clP_e h
      refine r_callV (As := [.int a1, .int a2, .int q_10]) [.int v6] X (c7_intervalOf l g hG N _ _ _ _ _ t0 _ _ hc_15) cal_X7_intervalOf (im_X7_intervalOf) (se_X7_intervalOf) k_712 (tag_lt t0 (by decide)) (by rw [lay, t0]; rfl) rfl rfl ⟨rfl, rfl⟩ ⟨Nat.le_of_ble_eq_true rfl, Nat.le_of_ble_eq_true rfl⟩ hP hS hl.1 rfl (Nat.le_of_ble_eq_true rfl) dX7_ticksOf_70 ⟨Nat.zero_le _, Nat.zero_le _⟩ (fun H locs hP hS => ?_)
      show W p l e rm7_ticksOf s m args below meth c H locs 0 0 _ (F0 m 73 ls [.int q_13, .int v6])
      refine lv_iadd hx hb dX7_ticksOf_73 ?_
      obtain ⟨x_16, ex_16, h⟩ := letM_e h
      refine r_nmi ex_16 ?_
      refine lv_istore (lv' := [(6, .int x_16), (5, .int q_10), (0, .ref (ga g k0)), (1, .int a1), (2, .int a2), (4, .int v4), (7, .int v7)]) hx hb dX7_ticksOf_74 hl (by decide) rfl (fun ls hl => ?_)
      obtain ⟨x_17, ex_17, h⟩ := letM_e h
      refine lv_iinc (v := x_17) (lv' := [(7, .int x_17), (6, .int x_16), (5, .int q_10), (0, .ref (ga g k0)), (1, .int a1), (2, .int a2), (4, .int v4)]) hx hb dX7_ticksOf_76 hl (k := 6) rfl (by rw [ex_17]; rfl) (by decide) rfl (fun ls hl => ?_)
      refine lv_goto (tgt := 47) hx hb dX7_ticksOf_79 (by decide) ?_
      exact ih I_14 v4 q_10 x_16 x_17 h _ _ _ hP hS (lv_sub hl [3, 4, 5, 6, 2, 1, 0] rfl)
set_option maxHeartbeats 4000000 in
set_option maxRecDepth 100000 in
theorem L7_ticksOf_25 (hG : Apart g NT) (N : Nat) (k0 : Nat) (a1 : Int32) (a2 : Int32) (a3 : Int32) (t0 : tag k0 = 6) (X : Cx g p s m args c cX7_ticksOf RX7 8) (hr : meth.sig.returnType = (some .int)) (hlk : meth.locks = false) (r0 : Int32) (I0 : Mem) : ∀ (I : Mem) (s0 : Int32) (s1 : Int32) (s2 : Int32), f7_ticksOf_25 N k0 a1 a2 a3 I s0 s1 s2 = some (r0, I0) → ∀ (H : Heap) (locs : List Loc) (ls : Array Slot), Wp g I H → va_S (gA g) s.heap H locs → lv_has ls 8 [(0, .ref (ga g k0)), (1, .int a1), (2, .int a2), (3, .int a3)] → W p l e rm7_ticksOf s m args below meth c H locs 0 0 (MQ below (Qg g (some (.int r0)) I0) args s 0 0 (gA g)) (F0 m 25 ls [.int s0, .int s1, .int s2, .ref (ga g k0)]) := by
  have hx := X.hx
  have hb := X.hb
  intro I s0 s1 s2 h H locs ls hP hS hl
  unfold f7_ticksOf_25 at h
  obtain ⟨q_2, I_3, hc_4, h⟩ := clP_e h
  refine r_callV (As := [.int s2, .int s1, .int s0]) [] X (c7_topOf l g hG N _ _ _ _ _ t0 _ _ hc_4) cal_X7_topOf (im_X7_topOf) (se_X7_topOf) k_689 (tag_lt t0 (by decide)) (by rw [lay, t0]; rfl) rfl rfl ⟨rfl, rfl⟩ ⟨Nat.le_of_ble_eq_true rfl, Nat.le_of_ble_eq_true rfl⟩ hP hS hl.1 rfl (Nat.le_of_ble_eq_true rfl) dX7_ticksOf_25 ⟨Nat.zero_le _, Nat.zero_le _⟩ (fun H locs hP hS => ?_)
  show W p l e rm7_ticksOf s m args below meth c H locs 0 0 _ (F0 m 28 ls [.int q_2])
  refine lv_istore (lv' := [(4, .int q_2), (0, .ref (ga g k0)), (1, .int a1), (2, .int a2), (3, .int a3)]) hx hb dX7_ticksOf_28 hl (by decide) rfl (fun ls hl => ?_)
  refine lv_iconst (v := (0 : Int32)) hx hb dX7_ticksOf_30 (by decide +kernel) ?_
  refine lv_istore (lv' := [(5, .int (0 : Int32)), (4, .int q_2), (0, .ref (ga g k0)), (1, .int a1), (2, .int a2), (3, .int a3)]) hx hb dX7_ticksOf_31 hl (by decide) rfl (fun ls hl => ?_)
  refine lv_aload_n hx hb dX7_ticksOf_33 rfl (lv_at hl 2 rfl) ?_
  refine lv_iload_n hx hb dX7_ticksOf_34 rfl (lv_at hl 3 rfl) ?_
  refine lv_iload_n hx hb dX7_ticksOf_35 rfl (lv_at hl 4 rfl) ?_
  refine lv_iconst (v := (0 : Int32)) hx hb dX7_ticksOf_36 (by decide +kernel) ?_
  obtain ⟨q_5, I_6, hc_7, h⟩ := clP_e h
  refine r_callV (As := [.int a1, .int a2, .int (0 : Int32)]) [] X (c7_intervalOf l g hG N _ _ _ _ _ t0 _ _ hc_7) cal_X7_intervalOf (im_X7_intervalOf) (se_X7_intervalOf) k_712 (tag_lt t0 (by decide)) (by rw [lay, t0]; rfl) rfl rfl ⟨rfl, rfl⟩ ⟨Nat.le_of_ble_eq_true rfl, Nat.le_of_ble_eq_true rfl⟩ hP hS hl.1 rfl (Nat.le_of_ble_eq_true rfl) dX7_ticksOf_37 ⟨Nat.zero_le _, Nat.zero_le _⟩ (fun H locs hP hS => ?_)
  show W p l e rm7_ticksOf s m args below meth c H locs 0 0 _ (F0 m 40 ls [.int q_5])
  refine lv_istore (lv' := [(6, .int q_5), (5, .int (0 : Int32)), (4, .int q_2), (0, .ref (ga g k0)), (1, .int a1), (2, .int a2), (3, .int a3)]) hx hb dX7_ticksOf_40 hl (by decide) rfl (fun ls hl => ?_)
  refine lv_iload_n hx hb dX7_ticksOf_42 rfl (lv_at hl 6 rfl) ?_
  refine lv_iconst (v := (1 : Int32)) hx hb dX7_ticksOf_43 (by decide +kernel) ?_
  refine lv_isub hx hb dX7_ticksOf_44 ?_
  obtain ⟨x_8, ex_8, h⟩ := letM_e h
  refine r_nmi ex_8 ?_
  refine lv_istore (lv' := [(7, .int x_8), (6, .int q_5), (5, .int (0 : Int32)), (4, .int q_2), (0, .ref (ga g k0)), (1, .int a1), (2, .int a2), (3, .int a3)]) hx hb dX7_ticksOf_45 hl (by decide) rfl (fun ls hl => ?_)
  exact L7_ticksOf_47 hG N k0 a1 a2 a3 t0 X hr hlk r0 I0 N I_6 q_2 (0 : Int32) q_5 x_8 h _ _ _ hP hS (lv_sub hl [4, 5, 6, 3, 2, 1, 0] rfl)
set_option maxHeartbeats 4000000 in
set_option maxRecDepth 100000 in
theorem c7_ticksOf (l : Launch) (g : GG) (hG : Apart g NT) (N : Nat) (I : Mem) (k0 : Nat) (a1 : Int32) (a2 : Int32) (a3 : Int32) (t0 : tag k0 = 6) (r0 : Int32) (I0 : Mem) (h : f7_ticksOf N I k0 a1 a2 a3 = some (r0, I0)) : Mc l g yX7_ticksOf cX7_ticksOf 8 (some .int) rm7_ticksOf I [.ref (ga g k0), .int a1, .int a2, .int a3] (some (.int r0)) I0 := by
  refine Mc.of hG (by decide +kernel) (Nat.le_of_ble_eq_true rfl) ?_
  intro p e s m args below meth c ls X hr hlk hP hS hl
  have X : Cx g p s m args c cX7_ticksOf RX7 8 := X
  have hx := X.hx
  have hb := X.hb
  have hl : lv_has ls 8 [(0, .ref (ga g k0)), (1, .int a1), (2, .int a2), (3, .int a3)] := hl
  have locs : List Loc := []
  unfold f7_ticksOf at h
  refine lv_aload_n hx hb dX7_ticksOf_0 rfl (lv_at hl 0 rfl) ?_
  refine lv_iload_n hx hb dX7_ticksOf_1 rfl (lv_at hl 1 rfl) ?_
  refine lv_iload_n hx hb dX7_ticksOf_2 rfl (lv_at hl 2 rfl) ?_
  refine lv_iload_n hx hb dX7_ticksOf_3 rfl (lv_at hl 3 rfl) ?_
  refine lv_iconst (v := (2 : Int32)) hx hb dX7_ticksOf_4 (by decide +kernel) ?_
  refine lv_idiv hx hb dX7_ticksOf_5 (by decide) ?_
  refine lv_iconst (v := (1 : Int32)) hx hb dX7_ticksOf_6 (by decide +kernel) ?_
  refine lv_iadd hx hb dX7_ticksOf_7 ?_
  refine lv_sipush (v := (999 : Int32)) hx hb dX7_ticksOf_8 (by decide +kernel) ?_
  refine lv_icmp_ge (tgt := 22) hx hb dX7_ticksOf_11 (by decide) (fun c_1 => ?_) (fun c_1 => ?_)
  · replace h := ifp c_1 h
    refine lv_sipush (v := (999 : Int32)) hx hb dX7_ticksOf_22 (by decide +kernel) ?_
    exact L7_ticksOf_25 hG N k0 a1 a2 a3 t0 X hr hlk r0 I0 I (999 : Int32) a2 a1 h _ _ _ hP hS (lv_sub hl [0, 1, 2, 3] rfl)
  · replace h := ifn c_1 h
    refine lv_iload_n hx hb dX7_ticksOf_14 rfl (lv_at hl 3 rfl) ?_
    refine lv_iconst (v := (2 : Int32)) hx hb dX7_ticksOf_15 (by decide +kernel) ?_
    refine lv_idiv hx hb dX7_ticksOf_16 (by decide) ?_
    refine lv_iconst (v := (1 : Int32)) hx hb dX7_ticksOf_17 (by decide +kernel) ?_
    refine lv_iadd hx hb dX7_ticksOf_18 ?_
    refine lv_goto (tgt := 25) hx hb dX7_ticksOf_19 (by decide) ?_
    exact L7_ticksOf_25 hG N k0 a1 a2 a3 t0 X hr hlk r0 I0 I ((a3 / (2 : Int32)) + (1 : Int32)) a2 a1 h _ _ _ hP hS (lv_sub hl [0, 1, 2, 3] rfl)
abbrev rm7_append : Room := { frames := 1, cells := 0, slots := 0, locals := 25 }
def f7_append (N : Nat) (I : Mem) (k0 : Nat) (a1 : Int32) : Option (Int32 × Mem) :=
    clP (f7_in N I a1.toInt64 (0 : Int64) (255 : Int64)) (fun (q_1 : Int32) (I_2 : Mem) =>
    if q_1 = (0 : Int32) then
    some ((-2 : Int32), I_2)
    else
    if (I_2 k0 1) = (80 : Int32) then
    some ((-4 : Int32), I_2)
    else
    if ((I_2 k0 1) < (0 : Int32) ∨ 80 ≤ (I_2 k0 1).toNatClampNeg) then none else
    letM (st I_2 (k0 + 1) ((I_2 k0 1).toNatClampNeg) a1) (fun I_7 : Mem =>
    letM (st I_7 k0 1 ((I_7 k0 1) + (1 : Int32))) (fun I_8 : Mem =>
    some ((I_8 k0 1), I_8))))
set_option maxHeartbeats 4000000 in
set_option maxRecDepth 100000 in
theorem c7_append (l : Launch) (g : GG) (hG : Apart g NT) (N : Nat) (I : Mem) (k0 : Nat) (a1 : Int32) (t0 : tag k0 = 6) (r0 : Int32) (I0 : Mem) (h : f7_append N I k0 a1 = some (r0, I0)) : Mc l g yX7_append cX7_append 2 (some .int) rm7_append I [.ref (ga g k0), .int a1] (some (.int r0)) I0 := by
  refine Mc.of hG (by decide +kernel) (Nat.le_of_ble_eq_true rfl) ?_
  intro p e s m args below meth c ls X hr hlk hP hS hl
  have X : Cx g p s m args c cX7_append RX7 2 := X
  have hx := X.hx
  have hb := X.hb
  have hl : lv_has ls 2 [(0, .ref (ga g k0)), (1, .int a1)] := hl
  have locs : List Loc := []
  unfold f7_append at h
  refine lv_iload_n hx hb dX7_append_0 rfl (lv_at hl 1 rfl) ?_
  refine lv_i2l (v := a1.toInt64) hx hb dX7_append_1 (by rfl) ?_
  refine lv_lconst (v := (0 : Int64)) hx hb dX7_append_2 (by decide +kernel) ?_
  refine lv_ldc2 (v := (255 : Int64)) hx hb X.ow (X.hts _ k_608) dX7_append_3 ?_
  obtain ⟨q_1, I_2, hc_3, h⟩ := clP_e h
  refine r_callS (As := [.long a1.toInt64, .long (0 : Int64), .long (255 : Int64)]) [] X (c7_in l g hG N _ _ _ _ _ _ hc_3) cal_X7_in (sc_X7_in) k_609 rfl ⟨rfl, rfl⟩ ⟨Nat.le_of_ble_eq_true rfl, Nat.le_of_ble_eq_true rfl⟩ hP hS hl.1 rfl (Nat.le_of_ble_eq_true rfl) dX7_append_6 ⟨Nat.zero_le _, Nat.zero_le _⟩ (fun H locs hP hS => ?_)
  show W p l e rm7_append s m args below meth c H locs 0 0 _ (F0 m 9 ls [.int q_1])
  refine lv_if_ne (tgt := 15) hx hb dX7_append_9 (by decide) (fun c_4 => ?_) (fun c_4 => ?_)
  · replace h := ifn c_4 h
    refine lv_aload_n hx hb dX7_append_15 rfl (lv_at hl 0 rfl) ?_
    refine g7_1 X hP t0 k_552 dX7_append_16 ?_
    refine lv_bipush (v := (80 : Int32)) hx hb dX7_append_19 (by decide +kernel) ?_
    refine lv_icmp_ne (tgt := 27) hx hb dX7_append_21 (by decide) (fun c_5 => ?_) (fun c_5 => ?_)
    · replace h := ifn c_5 h
      refine lv_aload_n hx hb dX7_append_27 rfl (lv_at hl 0 rfl) ?_
      refine g7_0 X hP t0 k_551 dX7_append_28 ?_
      refine lv_aload_n hx hb dX7_append_31 rfl (lv_at hl 0 rfl) ?_
      refine g7_1 X hP t0 k_552 dX7_append_32 ?_
      refine lv_iload_n hx hb dX7_append_35 rfl (lv_at hl 1 rfl) ?_
      obtain ⟨g_6, h⟩ := gd_e h
      obtain ⟨I_7, eI_7, h⟩ := letM_e h
      refine r_iast (n := 80) X hP hS (g7_0_t t0) g_6 (j := (I_2 k0 1).toNatClampNeg) rfl eI_7 dX7_append_36 (fun H locs hP hS => ?_)
      refine lv_aload_n hx hb dX7_append_37 rfl (lv_at hl 0 rfl) ?_
      refine lv_dup hx hb dX7_append_38 rfl ?_
      refine g7_1 X hP t0 k_552 dX7_append_39 ?_
      refine lv_iconst (v := (1 : Int32)) hx hb dX7_append_42 (by decide +kernel) ?_
      refine lv_iadd hx hb dX7_append_43 ?_
      obtain ⟨I_8, eI_8, h⟩ := letM_e h
      refine p7_1 X hP hS t0 k_552 eI_8 dX7_append_44 (fun H locs hP hS => ?_)
      refine lv_aload_n hx hb dX7_append_47 rfl (lv_at hl 0 rfl) ?_
      refine g7_1 X hP t0 k_552 dX7_append_48 ?_
      exact r_iret X hr hlk hP hS dX7_append_51 h
    · replace h := ifp c_5 h
      refine lv_bipush (v := (-4 : Int32)) hx hb dX7_append_24 (by decide +kernel) ?_
      exact r_iret X hr hlk hP hS dX7_append_26 h
  · replace h := ifp c_4 h
    refine lv_bipush (v := (-2 : Int32)) hx hb dX7_append_12 (by decide +kernel) ?_
    exact r_iret X hr hlk hP hS dX7_append_14 h
abbrev rm7_clearText : Room := { frames := 0, cells := 0, slots := 0, locals := 0 }
def f7_clearText (N : Nat) (I : Mem) (k0 : Nat) : Option (Int32 × Mem) :=
    letM (I k0 1) (fun x_1 : Int32 =>
    letM (st I k0 1 (0 : Int32)) (fun I_2 : Mem =>
    some (x_1, I_2)))
set_option maxHeartbeats 4000000 in
set_option maxRecDepth 100000 in
theorem c7_clearText (l : Launch) (g : GG) (hG : Apart g NT) (N : Nat) (I : Mem) (k0 : Nat) (t0 : tag k0 = 6) (r0 : Int32) (I0 : Mem) (h : f7_clearText N I k0 = some (r0, I0)) : Mc l g yX7_clearText cX7_clearText 2 (some .int) rm7_clearText I [.ref (ga g k0)] (some (.int r0)) I0 := by
  refine Mc.of hG (by decide +kernel) (Nat.le_of_ble_eq_true rfl) ?_
  intro p e s m args below meth c ls X hr hlk hP hS hl
  have X : Cx g p s m args c cX7_clearText RX7 2 := X
  have hx := X.hx
  have hb := X.hb
  have hl : lv_has ls 2 [(0, .ref (ga g k0))] := hl
  have locs : List Loc := []
  unfold f7_clearText at h
  refine lv_aload_n hx hb dX7_clearText_0 rfl (lv_at hl 0 rfl) ?_
  refine g7_1 X hP t0 k_552 dX7_clearText_1 ?_
  obtain ⟨x_1, ex_1, h⟩ := letM_e h
  refine r_nmi ex_1 ?_
  refine lv_istore_n (lv' := [(1, .int x_1), (0, .ref (ga g k0))]) hx hb dX7_clearText_4 rfl hl (by decide) rfl (fun ls hl => ?_)
  refine lv_aload_n hx hb dX7_clearText_5 rfl (lv_at hl 1 rfl) ?_
  refine lv_iconst (v := (0 : Int32)) hx hb dX7_clearText_6 (by decide +kernel) ?_
  obtain ⟨I_2, eI_2, h⟩ := letM_e h
  refine p7_1 X hP hS t0 k_552 eI_2 dX7_clearText_7 (fun H locs hP hS => ?_)
  refine lv_iload_n hx hb dX7_clearText_10 rfl (lv_at hl 0 rfl) ?_
  exact r_iret X hr hlk hP hS dX7_clearText_11 h
abbrev rm7_takes : Room := { frames := 0, cells := 0, slots := 0, locals := 0 }
def f7_takes_29 (N : Nat) (k0 : Nat) (a1 : Int32) (I : Mem) (s0 : Int32) : Option (Int32 × Mem) :=
    if s0 = (0 : Int32) then
    letM (st I k0 2 ((I k0 2) + (0 : Int32))) (fun I_3 : Mem =>
    if ¬ (s0 = 0 ∨ s0 = 1) then none else
    some (s0, I_3))
    else
    letM (st I k0 2 ((I k0 2) + (1 : Int32))) (fun I_5 : Mem =>
    if ¬ (s0 = 0 ∨ s0 = 1) then none else
    some (s0, I_5))
def f7_takes_28 (N : Nat) (k0 : Nat) (a1 : Int32) (I : Mem) : Option (Int32 × Mem) :=
    f7_takes_29 N k0 a1 I (0 : Int32)
def f7_takes (N : Nat) (I : Mem) (k0 : Nat) (a1 : Int32) : Option (Int32 × Mem) :=
    if (I k0 1) ≤ (I k0 2) then
    f7_takes_28 N k0 a1 I
    else
    if ((I k0 2) < (0 : Int32) ∨ 80 ≤ (I k0 2).toNatClampNeg) then none else
    if (I (k0 + 1) ((I k0 2).toNatClampNeg)) = a1 then
    f7_takes_29 N k0 a1 I (1 : Int32)
    else
    f7_takes_28 N k0 a1 I
set_option maxHeartbeats 4000000 in
set_option maxRecDepth 100000 in
theorem L7_takes_29 (hG : Apart g NT) (N : Nat) (k0 : Nat) (a1 : Int32) (t0 : tag k0 = 6) (X : Cx g p s m args c cX7_takes RX7 3) (hr : meth.sig.returnType = (some .boolean)) (hlk : meth.locks = false) (r0 : Int32) (I0 : Mem) : ∀ (I : Mem) (s0 : Int32), f7_takes_29 N k0 a1 I s0 = some (r0, I0) → ∀ (H : Heap) (locs : List Loc) (ls : Array Slot), Wp g I H → va_S (gA g) s.heap H locs → lv_has ls 3 [(0, .ref (ga g k0))] → W p l e rm7_takes s m args below meth c H locs 0 0 (MQ below (Qg g (some (.int r0)) I0) args s 0 0 (gA g)) (F0 m 29 ls [.int s0]) := by
  have hx := X.hx
  have hb := X.hb
  intro I s0 h H locs ls hP hS hl
  unfold f7_takes_29 at h
  refine lv_istore_n (lv' := [(2, .int s0), (0, .ref (ga g k0))]) hx hb dX7_takes_29 rfl hl (by decide) rfl (fun ls hl => ?_)
  refine lv_aload_n hx hb dX7_takes_30 rfl (lv_at hl 1 rfl) ?_
  refine lv_dup hx hb dX7_takes_31 rfl ?_
  refine g7_2 X hP t0 k_553 dX7_takes_32 ?_
  refine lv_iload_n hx hb dX7_takes_35 rfl (lv_at hl 0 rfl) ?_
  refine lv_if_eq (tgt := 43) hx hb dX7_takes_36 (by decide) (fun c_2 => ?_) (fun c_2 => ?_)
  · replace h := ifp c_2 h
    refine lv_iconst (v := (0 : Int32)) hx hb dX7_takes_43 (by decide +kernel) ?_
    refine lv_iadd hx hb dX7_takes_44 ?_
    obtain ⟨I_3, eI_3, h⟩ := letM_e h
    refine p7_2 X hP hS t0 k_553 eI_3 dX7_takes_45 (fun H locs hP hS => ?_)
    refine lv_iload_n hx hb dX7_takes_48 rfl (lv_at hl 0 rfl) ?_
    obtain ⟨g_4, h⟩ := gd_e h
    exact r_zret X hr hlk hP hS (bool_nar g_4) dX7_takes_49 h
  · replace h := ifn c_2 h
    refine lv_iconst (v := (1 : Int32)) hx hb dX7_takes_39 (by decide +kernel) ?_
    refine lv_goto (tgt := 44) hx hb dX7_takes_40 (by decide) ?_
    refine lv_iadd hx hb dX7_takes_44 ?_
    obtain ⟨I_5, eI_5, h⟩ := letM_e h
    refine p7_2 X hP hS t0 k_553 eI_5 dX7_takes_45 (fun H locs hP hS => ?_)
    refine lv_iload_n hx hb dX7_takes_48 rfl (lv_at hl 0 rfl) ?_
    obtain ⟨g_6, h⟩ := gd_e h
    exact r_zret X hr hlk hP hS (bool_nar g_6) dX7_takes_49 h
set_option maxHeartbeats 4000000 in
set_option maxRecDepth 100000 in
theorem L7_takes_28 (hG : Apart g NT) (N : Nat) (k0 : Nat) (a1 : Int32) (t0 : tag k0 = 6) (X : Cx g p s m args c cX7_takes RX7 3) (hr : meth.sig.returnType = (some .boolean)) (hlk : meth.locks = false) (r0 : Int32) (I0 : Mem) : ∀ (I : Mem), f7_takes_28 N k0 a1 I = some (r0, I0) → ∀ (H : Heap) (locs : List Loc) (ls : Array Slot), Wp g I H → va_S (gA g) s.heap H locs → lv_has ls 3 [(0, .ref (ga g k0))] → W p l e rm7_takes s m args below meth c H locs 0 0 (MQ below (Qg g (some (.int r0)) I0) args s 0 0 (gA g)) (F0 m 28 ls []) := by
  have hx := X.hx
  have hb := X.hb
  intro I h H locs ls hP hS hl
  unfold f7_takes_28 at h
  refine lv_iconst (v := (0 : Int32)) hx hb dX7_takes_28 (by decide +kernel) ?_
  exact L7_takes_29 hG N k0 a1 t0 X hr hlk r0 I0 I (0 : Int32) h _ _ _ hP hS (lv_sub hl [0] rfl)
set_option maxHeartbeats 4000000 in
set_option maxRecDepth 100000 in
theorem c7_takes (l : Launch) (g : GG) (hG : Apart g NT) (N : Nat) (I : Mem) (k0 : Nat) (a1 : Int32) (t0 : tag k0 = 6) (r0 : Int32) (I0 : Mem) (h : f7_takes N I k0 a1 = some (r0, I0)) : Mc l g yX7_takes cX7_takes 3 (some .boolean) rm7_takes I [.ref (ga g k0), .int a1] (some (.int r0)) I0 := by
  refine Mc.of hG (by decide +kernel) (Nat.le_of_ble_eq_true rfl) ?_
  intro p e s m args below meth c ls X hr hlk hP hS hl
  have X : Cx g p s m args c cX7_takes RX7 3 := X
  have hx := X.hx
  have hb := X.hb
  have hl : lv_has ls 3 [(0, .ref (ga g k0)), (1, .int a1)] := hl
  have locs : List Loc := []
  unfold f7_takes at h
  refine lv_aload_n hx hb dX7_takes_0 rfl (lv_at hl 0 rfl) ?_
  refine g7_2 X hP t0 k_553 dX7_takes_1 ?_
  refine lv_aload_n hx hb dX7_takes_4 rfl (lv_at hl 0 rfl) ?_
  refine g7_1 X hP t0 k_552 dX7_takes_5 ?_
  refine lv_icmp_ge (tgt := 28) hx hb dX7_takes_8 (by decide) (fun c_1 => ?_) (fun c_1 => ?_)
  · replace h := ifp c_1 h
    exact L7_takes_28 hG N k0 a1 t0 X hr hlk r0 I0 I h _ _ _ hP hS (lv_sub hl [0] rfl)
  · replace h := ifn c_1 h
    refine lv_aload_n hx hb dX7_takes_11 rfl (lv_at hl 0 rfl) ?_
    refine g7_0 X hP t0 k_551 dX7_takes_12 ?_
    refine lv_aload_n hx hb dX7_takes_15 rfl (lv_at hl 0 rfl) ?_
    refine g7_2 X hP t0 k_553 dX7_takes_16 ?_
    obtain ⟨g_7, h⟩ := gd_e h
    refine r_iald (n := 80) X hP (g7_0_t t0) g_7 (j := (I k0 2).toNatClampNeg) rfl dX7_takes_19 ?_
    refine lv_iload_n hx hb dX7_takes_20 rfl (lv_at hl 1 rfl) ?_
    refine lv_icmp_ne (tgt := 28) hx hb dX7_takes_21 (by decide) (fun c_8 => ?_) (fun c_8 => ?_)
    · replace h := ifn c_8 h
      exact L7_takes_28 hG N k0 a1 t0 X hr hlk r0 I0 I h _ _ _ hP hS (lv_sub hl [0] rfl)
    · replace h := ifp c_8 h
      refine lv_iconst (v := (1 : Int32)) hx hb dX7_takes_24 (by decide +kernel) ?_
      refine lv_goto (tgt := 29) hx hb dX7_takes_25 (by decide) ?_
      exact L7_takes_29 hG N k0 a1 t0 X hr hlk r0 I0 I (1 : Int32) h _ _ _ hP hS (lv_sub hl [0] rfl)
abbrev rm7_number : Room := { frames := 1, cells := 0, slots := 0, locals := 25 }
def f7_number_5 (N : Nat) (k0 : Nat) (a1 : Int32) (a2 : Int32) : Nat → Mem → Int32 → Int32 → Option (Int32 × Mem)
  | 0, _, _, _ => none
  | cnt+1, I, v3, v4 =>
    if a1 ≤ v4 then
    some (v3, I)
    else
    if (I k0 1) ≤ (I k0 2) then
    clP (f7_in N I (-9 : Int64) (0 : Int64) (9 : Int64)) (fun (q_3 : Int32) (I_4 : Mem) =>
    if q_3 = (0 : Int32) then
    some ((-9 : Int32), I_4)
    else
    if v4 = (a1 - (1 : Int32)) then
    if a2 ≤ (((10 : Int32) * v3) + (-9 : Int32)) then
    letM (((10 : Int32) * v3) + (-9 : Int32)) (fun x_12 : Int32 =>
    letM (st I_4 k0 2 ((I_4 k0 2) + (1 : Int32))) (fun I_13 : Mem =>
    letM (v4 + (1 : Int32)) (fun x_14 : Int32 =>
    f7_number_5 N k0 a1 a2 cnt I_13 x_12 x_14)))
    else
    some ((-9 : Int32), I_4)
    else
    letM (((10 : Int32) * v3) + (-9 : Int32)) (fun x_8 : Int32 =>
    letM (st I_4 k0 2 ((I_4 k0 2) + (1 : Int32))) (fun I_9 : Mem =>
    letM (v4 + (1 : Int32)) (fun x_10 : Int32 =>
    f7_number_5 N k0 a1 a2 cnt I_9 x_8 x_10))))
    else
    if ((I k0 2) < (0 : Int32) ∨ 80 ≤ (I k0 2).toNatClampNeg) then none else
    letM ((I (k0 + 1) ((I k0 2).toNatClampNeg)) - (48 : Int32)) (fun x_16 : Int32 =>
    clP (f7_in N I x_16.toInt64 (0 : Int64) (9 : Int64)) (fun (q_17 : Int32) (I_18 : Mem) =>
    if q_17 = (0 : Int32) then
    some ((-9 : Int32), I_18)
    else
    if v4 = (a1 - (1 : Int32)) then
    if a2 ≤ (((10 : Int32) * v3) + x_16) then
    letM (((10 : Int32) * v3) + x_16) (fun x_26 : Int32 =>
    letM (st I_18 k0 2 ((I_18 k0 2) + (1 : Int32))) (fun I_27 : Mem =>
    letM (v4 + (1 : Int32)) (fun x_28 : Int32 =>
    f7_number_5 N k0 a1 a2 cnt I_27 x_26 x_28)))
    else
    some ((-9 : Int32), I_18)
    else
    letM (((10 : Int32) * v3) + x_16) (fun x_22 : Int32 =>
    letM (st I_18 k0 2 ((I_18 k0 2) + (1 : Int32))) (fun I_23 : Mem =>
    letM (v4 + (1 : Int32)) (fun x_24 : Int32 =>
    f7_number_5 N k0 a1 a2 cnt I_23 x_22 x_24)))))
def f7_number (N : Nat) (I : Mem) (k0 : Nat) (a1 : Int32) (a2 : Int32) : Option (Int32 × Mem) :=
    f7_number_5 N k0 a1 a2 N I (0 : Int32) (0 : Int32)
set_option maxHeartbeats 4000000 in
set_option maxRecDepth 100000 in
theorem L7_number_5 (hG : Apart g NT) (N : Nat) (k0 : Nat) (a1 : Int32) (a2 : Int32) (t0 : tag k0 = 6) (X : Cx g p s m args c cX7_number RX7 6) (hr : meth.sig.returnType = (some .int)) (hlk : meth.locks = false) (r0 : Int32) (I0 : Mem) : ∀ (cnt : Nat) (I : Mem) (v3 : Int32) (v4 : Int32), f7_number_5 N k0 a1 a2 cnt I v3 v4 = some (r0, I0) → ∀ (H : Heap) (locs : List Loc) (ls : Array Slot), Wp g I H → va_S (gA g) s.heap H locs → lv_has ls 6 [(0, .ref (ga g k0)), (1, .int a1), (2, .int a2), (3, .int v3), (4, .int v4)] → W p l e rm7_number s m args below meth c H locs 0 0 (MQ below (Qg g (some (.int r0)) I0) args s 0 0 (gA g)) (F0 m 5 ls []) := by
  have hx := X.hx
  have hb := X.hb
  intro cnt
  induction cnt with
  | zero =>
    intro I v3 v4 h
    rw [f7_number_5] at h
    cases h
  | succ cnt ih =>
    intro I v3 v4 h H locs ls hP hS hl
    rw [f7_number_5] at h
    refine lv_iload hx hb dX7_number_5 (lv_at hl 4 rfl) ?_
    refine lv_iload_n hx hb dX7_number_7 rfl (lv_at hl 1 rfl) ?_
    refine lv_icmp_ge (tgt := 100) hx hb dX7_number_8 (by decide) (fun c_1 => ?_) (fun c_1 => ?_)
    · replace h := ifp c_1 h
      refine lv_iload_n hx hb dX7_number_100 rfl (lv_at hl 3 rfl) ?_
      exact r_iret X hr hlk hP hS dX7_number_101 h
    · replace h := ifn c_1 h
      refine lv_aload_n hx hb dX7_number_11 rfl (lv_at hl 0 rfl) ?_
      refine g7_2 X hP t0 k_553 dX7_number_12 ?_
      refine lv_aload_n hx hb dX7_number_15 rfl (lv_at hl 0 rfl) ?_
      refine g7_1 X hP t0 k_552 dX7_number_16 ?_
      refine lv_icmp_ge (tgt := 37) hx hb dX7_number_19 (by decide) (fun c_2 => ?_) (fun c_2 => ?_)
      · replace h := ifp c_2 h
        refine lv_bipush (v := (-9 : Int32)) hx hb dX7_number_37 (by decide +kernel) ?_
        refine lv_istore (lv' := [(5, .int (-9 : Int32)), (0, .ref (ga g k0)), (1, .int a1), (2, .int a2), (3, .int v3), (4, .int v4)]) hx hb dX7_number_39 hl (by decide) rfl (fun ls hl => ?_)
        refine lv_iload hx hb dX7_number_41 (lv_at hl 0 rfl) ?_
        refine lv_i2l (v := (-9 : Int64)) hx hb dX7_number_43 (by decide +kernel) ?_
        refine lv_lconst (v := (0 : Int64)) hx hb dX7_number_44 (by decide +kernel) ?_
        refine lv_ldc2 (v := (9 : Int64)) hx hb X.ow (X.hts _ k_632) dX7_number_45 ?_
        obtain ⟨q_3, I_4, hc_5, h⟩ := clP_e h
        refine r_callS (As := [.long (-9 : Int64), .long (0 : Int64), .long (9 : Int64)]) [] X (c7_in l g hG N _ _ _ _ _ _ hc_5) cal_X7_in (sc_X7_in) k_609 rfl ⟨rfl, rfl⟩ ⟨Nat.le_of_ble_eq_true rfl, Nat.le_of_ble_eq_true rfl⟩ hP hS hl.1 rfl (Nat.le_of_ble_eq_true rfl) dX7_number_48 ⟨Nat.zero_le _, Nat.zero_le _⟩ (fun H locs hP hS => ?_)
        show W p l e rm7_number s m args below meth c H locs 0 0 _ (F0 m 51 ls [.int q_3])
        refine lv_if_eq (tgt := 73) hx hb dX7_number_51 (by decide) (fun c_6 => ?_) (fun c_6 => ?_)
        · replace h := ifp c_6 h
          refine lv_bipush (v := (-9 : Int32)) hx hb dX7_number_73 (by decide +kernel) ?_
          exact r_iret X hr hlk hP hS dX7_number_75 h
        · replace h := ifn c_6 h
          refine lv_iload hx hb dX7_number_54 (lv_at hl 5 rfl) ?_
          refine lv_iload_n hx hb dX7_number_56 rfl (lv_at hl 2 rfl) ?_
          refine lv_iconst (v := (1 : Int32)) hx hb dX7_number_57 (by decide +kernel) ?_
          refine lv_isub hx hb dX7_number_58 ?_
          refine lv_icmp_ne (tgt := 76) hx hb dX7_number_59 (by decide) (fun c_7 => ?_) (fun c_7 => ?_)
          · replace h := ifn c_7 h
            refine lv_bipush (v := (10 : Int32)) hx hb dX7_number_76 (by decide +kernel) ?_
            refine lv_iload_n hx hb dX7_number_78 rfl (lv_at hl 4 rfl) ?_
            refine lv_imul hx hb dX7_number_79 ?_
            refine lv_iload hx hb dX7_number_80 (lv_at hl 0 rfl) ?_
            refine lv_iadd hx hb dX7_number_82 ?_
            obtain ⟨x_8, ex_8, h⟩ := letM_e h
            refine r_nmi ex_8 ?_
            refine lv_istore_n (lv' := [(3, .int x_8), (5, .int (-9 : Int32)), (0, .ref (ga g k0)), (1, .int a1), (2, .int a2), (4, .int v4)]) hx hb dX7_number_83 rfl hl (by decide) rfl (fun ls hl => ?_)
            refine lv_aload_n hx hb dX7_number_84 rfl (lv_at hl 2 rfl) ?_
            refine lv_dup hx hb dX7_number_85 rfl ?_
            refine g7_2 X hP t0 k_553 dX7_number_86 ?_
            refine lv_iconst (v := (1 : Int32)) hx hb dX7_number_89 (by decide +kernel) ?_
            refine lv_iadd hx hb dX7_number_90 ?_
            obtain ⟨I_9, eI_9, h⟩ := letM_e h
            refine p7_2 X hP hS t0 k_553 eI_9 dX7_number_91 (fun H locs hP hS => ?_)
            obtain ⟨x_10, ex_10, h⟩ := letM_e h
            refine lv_iinc (v := x_10) (lv' := [(4, .int x_10), (3, .int x_8), (5, .int (-9 : Int32)), (0, .ref (ga g k0)), (1, .int a1), (2, .int a2)]) hx hb dX7_number_94 hl (k := 5) rfl (by rw [ex_10]; rfl) (by decide) rfl (fun ls hl => ?_)
            refine lv_goto (tgt := 5) hx hb dX7_number_97 (by decide) ?_
            exact ih I_9 x_8 x_10 h _ _ _ hP hS (lv_sub hl [3, 4, 5, 1, 0] rfl)
          · replace h := ifp c_7 h
            refine lv_bipush (v := (10 : Int32)) hx hb dX7_number_62 (by decide +kernel) ?_
            refine lv_iload_n hx hb dX7_number_64 rfl (lv_at hl 4 rfl) ?_
            refine lv_imul hx hb dX7_number_65 ?_
            refine lv_iload hx hb dX7_number_66 (lv_at hl 0 rfl) ?_
            refine lv_iadd hx hb dX7_number_68 ?_
            refine lv_iload_n hx hb dX7_number_69 rfl (lv_at hl 3 rfl) ?_
            refine lv_icmp_ge (tgt := 76) hx hb dX7_number_70 (by decide) (fun c_11 => ?_) (fun c_11 => ?_)
            · replace h := ifp c_11 h
              refine lv_bipush (v := (10 : Int32)) hx hb dX7_number_76 (by decide +kernel) ?_
              refine lv_iload_n hx hb dX7_number_78 rfl (lv_at hl 4 rfl) ?_
              refine lv_imul hx hb dX7_number_79 ?_
              refine lv_iload hx hb dX7_number_80 (lv_at hl 0 rfl) ?_
              refine lv_iadd hx hb dX7_number_82 ?_
              obtain ⟨x_12, ex_12, h⟩ := letM_e h
              refine r_nmi ex_12 ?_
              refine lv_istore_n (lv' := [(3, .int x_12), (5, .int (-9 : Int32)), (0, .ref (ga g k0)), (1, .int a1), (2, .int a2), (4, .int v4)]) hx hb dX7_number_83 rfl hl (by decide) rfl (fun ls hl => ?_)
              refine lv_aload_n hx hb dX7_number_84 rfl (lv_at hl 2 rfl) ?_
              refine lv_dup hx hb dX7_number_85 rfl ?_
              refine g7_2 X hP t0 k_553 dX7_number_86 ?_
              refine lv_iconst (v := (1 : Int32)) hx hb dX7_number_89 (by decide +kernel) ?_
              refine lv_iadd hx hb dX7_number_90 ?_
              obtain ⟨I_13, eI_13, h⟩ := letM_e h
              refine p7_2 X hP hS t0 k_553 eI_13 dX7_number_91 (fun H locs hP hS => ?_)
              obtain ⟨x_14, ex_14, h⟩ := letM_e h
              refine lv_iinc (v := x_14) (lv' := [(4, .int x_14), (3, .int x_12), (5, .int (-9 : Int32)), (0, .ref (ga g k0)), (1, .int a1), (2, .int a2)]) hx hb dX7_number_94 hl (k := 5) rfl (by rw [ex_14]; rfl) (by decide) rfl (fun ls hl => ?_)
              refine lv_goto (tgt := 5) hx hb dX7_number_97 (by decide) ?_
              exact ih I_13 x_12 x_14 h _ _ _ hP hS (lv_sub hl [3, 4, 5, 1, 0] rfl)
            · replace h := ifn c_11 h
              refine lv_bipush (v := (-9 : Int32)) hx hb dX7_number_73 (by decide +kernel) ?_
              exact r_iret X hr hlk hP hS dX7_number_75 h
      · replace h := ifn c_2 h
        refine lv_aload_n hx hb dX7_number_22 rfl (lv_at hl 0 rfl) ?_
        refine g7_0 X hP t0 k_551 dX7_number_23 ?_
        refine lv_aload_n hx hb dX7_number_26 rfl (lv_at hl 0 rfl) ?_
        refine g7_2 X hP t0 k_553 dX7_number_27 ?_
        obtain ⟨g_15, h⟩ := gd_e h
        refine r_iald (n := 80) X hP (g7_0_t t0) g_15 (j := (I k0 2).toNatClampNeg) rfl dX7_number_30 ?_
        refine lv_bipush (v := (48 : Int32)) hx hb dX7_number_31 (by decide +kernel) ?_
        refine lv_isub hx hb dX7_number_33 ?_
        refine lv_goto (tgt := 39) hx hb dX7_number_34 (by decide) ?_
        obtain ⟨x_16, ex_16, h⟩ := letM_e h
        refine r_nmi ex_16 ?_
        refine lv_istore (lv' := [(5, .int x_16), (0, .ref (ga g k0)), (1, .int a1), (2, .int a2), (3, .int v3), (4, .int v4)]) hx hb dX7_number_39 hl (by decide) rfl (fun ls hl => ?_)
        refine lv_iload hx hb dX7_number_41 (lv_at hl 0 rfl) ?_
        refine lv_i2l (v := x_16.toInt64) hx hb dX7_number_43 (by rfl) ?_
        refine lv_lconst (v := (0 : Int64)) hx hb dX7_number_44 (by decide +kernel) ?_
        refine lv_ldc2 (v := (9 : Int64)) hx hb X.ow (X.hts _ k_632) dX7_number_45 ?_
        obtain ⟨q_17, I_18, hc_19, h⟩ := clP_e h
        refine r_callS (As := [.long x_16.toInt64, .long (0 : Int64), .long (9 : Int64)]) [] X (c7_in l g hG N _ _ _ _ _ _ hc_19) cal_X7_in (sc_X7_in) k_609 rfl ⟨rfl, rfl⟩ ⟨Nat.le_of_ble_eq_true rfl, Nat.le_of_ble_eq_true rfl⟩ hP hS hl.1 rfl (Nat.le_of_ble_eq_true rfl) dX7_number_48 ⟨Nat.zero_le _, Nat.zero_le _⟩ (fun H locs hP hS => ?_)
        show W p l e rm7_number s m args below meth c H locs 0 0 _ (F0 m 51 ls [.int q_17])
        refine lv_if_eq (tgt := 73) hx hb dX7_number_51 (by decide) (fun c_20 => ?_) (fun c_20 => ?_)
        · replace h := ifp c_20 h
          refine lv_bipush (v := (-9 : Int32)) hx hb dX7_number_73 (by decide +kernel) ?_
          exact r_iret X hr hlk hP hS dX7_number_75 h
        · replace h := ifn c_20 h
          refine lv_iload hx hb dX7_number_54 (lv_at hl 5 rfl) ?_
          refine lv_iload_n hx hb dX7_number_56 rfl (lv_at hl 2 rfl) ?_
          refine lv_iconst (v := (1 : Int32)) hx hb dX7_number_57 (by decide +kernel) ?_
          refine lv_isub hx hb dX7_number_58 ?_
          refine lv_icmp_ne (tgt := 76) hx hb dX7_number_59 (by decide) (fun c_21 => ?_) (fun c_21 => ?_)
          · replace h := ifn c_21 h
            refine lv_bipush (v := (10 : Int32)) hx hb dX7_number_76 (by decide +kernel) ?_
            refine lv_iload_n hx hb dX7_number_78 rfl (lv_at hl 4 rfl) ?_
            refine lv_imul hx hb dX7_number_79 ?_
            refine lv_iload hx hb dX7_number_80 (lv_at hl 0 rfl) ?_
            refine lv_iadd hx hb dX7_number_82 ?_
            obtain ⟨x_22, ex_22, h⟩ := letM_e h
            refine r_nmi ex_22 ?_
            refine lv_istore_n (lv' := [(3, .int x_22), (5, .int x_16), (0, .ref (ga g k0)), (1, .int a1), (2, .int a2), (4, .int v4)]) hx hb dX7_number_83 rfl hl (by decide) rfl (fun ls hl => ?_)
            refine lv_aload_n hx hb dX7_number_84 rfl (lv_at hl 2 rfl) ?_
            refine lv_dup hx hb dX7_number_85 rfl ?_
            refine g7_2 X hP t0 k_553 dX7_number_86 ?_
            refine lv_iconst (v := (1 : Int32)) hx hb dX7_number_89 (by decide +kernel) ?_
            refine lv_iadd hx hb dX7_number_90 ?_
            obtain ⟨I_23, eI_23, h⟩ := letM_e h
            refine p7_2 X hP hS t0 k_553 eI_23 dX7_number_91 (fun H locs hP hS => ?_)
            obtain ⟨x_24, ex_24, h⟩ := letM_e h
            refine lv_iinc (v := x_24) (lv' := [(4, .int x_24), (3, .int x_22), (5, .int x_16), (0, .ref (ga g k0)), (1, .int a1), (2, .int a2)]) hx hb dX7_number_94 hl (k := 5) rfl (by rw [ex_24]; rfl) (by decide) rfl (fun ls hl => ?_)
            refine lv_goto (tgt := 5) hx hb dX7_number_97 (by decide) ?_
            exact ih I_23 x_22 x_24 h _ _ _ hP hS (lv_sub hl [3, 4, 5, 1, 0] rfl)
          · replace h := ifp c_21 h
            refine lv_bipush (v := (10 : Int32)) hx hb dX7_number_62 (by decide +kernel) ?_
            refine lv_iload_n hx hb dX7_number_64 rfl (lv_at hl 4 rfl) ?_
            refine lv_imul hx hb dX7_number_65 ?_
            refine lv_iload hx hb dX7_number_66 (lv_at hl 0 rfl) ?_
            refine lv_iadd hx hb dX7_number_68 ?_
            refine lv_iload_n hx hb dX7_number_69 rfl (lv_at hl 3 rfl) ?_
            refine lv_icmp_ge (tgt := 76) hx hb dX7_number_70 (by decide) (fun c_25 => ?_) (fun c_25 => ?_)
            · replace h := ifp c_25 h
              refine lv_bipush (v := (10 : Int32)) hx hb dX7_number_76 (by decide +kernel) ?_
              refine lv_iload_n hx hb dX7_number_78 rfl (lv_at hl 4 rfl) ?_
              refine lv_imul hx hb dX7_number_79 ?_
              refine lv_iload hx hb dX7_number_80 (lv_at hl 0 rfl) ?_
              refine lv_iadd hx hb dX7_number_82 ?_
              obtain ⟨x_26, ex_26, h⟩ := letM_e h
              refine r_nmi ex_26 ?_
              refine lv_istore_n (lv' := [(3, .int x_26), (5, .int x_16), (0, .ref (ga g k0)), (1, .int a1), (2, .int a2), (4, .int v4)]) hx hb dX7_number_83 rfl hl (by decide) rfl (fun ls hl => ?_)
              refine lv_aload_n hx hb dX7_number_84 rfl (lv_at hl 2 rfl) ?_
              refine lv_dup hx hb dX7_number_85 rfl ?_
              refine g7_2 X hP t0 k_553 dX7_number_86 ?_
              refine lv_iconst (v := (1 : Int32)) hx hb dX7_number_89 (by decide +kernel) ?_
              refine lv_iadd hx hb dX7_number_90 ?_
              obtain ⟨I_27, eI_27, h⟩ := letM_e h
              refine p7_2 X hP hS t0 k_553 eI_27 dX7_number_91 (fun H locs hP hS => ?_)
              obtain ⟨x_28, ex_28, h⟩ := letM_e h
              refine lv_iinc (v := x_28) (lv' := [(4, .int x_28), (3, .int x_26), (5, .int x_16), (0, .ref (ga g k0)), (1, .int a1), (2, .int a2)]) hx hb dX7_number_94 hl (k := 5) rfl (by rw [ex_28]; rfl) (by decide) rfl (fun ls hl => ?_)
              refine lv_goto (tgt := 5) hx hb dX7_number_97 (by decide) ?_
              exact ih I_27 x_26 x_28 h _ _ _ hP hS (lv_sub hl [3, 4, 5, 1, 0] rfl)
            · replace h := ifn c_25 h
              refine lv_bipush (v := (-9 : Int32)) hx hb dX7_number_73 (by decide +kernel) ?_
              exact r_iret X hr hlk hP hS dX7_number_75 h
set_option maxHeartbeats 4000000 in
set_option maxRecDepth 100000 in
theorem c7_number (l : Launch) (g : GG) (hG : Apart g NT) (N : Nat) (I : Mem) (k0 : Nat) (a1 : Int32) (a2 : Int32) (t0 : tag k0 = 6) (r0 : Int32) (I0 : Mem) (h : f7_number N I k0 a1 a2 = some (r0, I0)) : Mc l g yX7_number cX7_number 6 (some .int) rm7_number I [.ref (ga g k0), .int a1, .int a2] (some (.int r0)) I0 := by
  refine Mc.of hG (by decide +kernel) (Nat.le_of_ble_eq_true rfl) ?_
  intro p e s m args below meth c ls X hr hlk hP hS hl
  have X : Cx g p s m args c cX7_number RX7 6 := X
  have hx := X.hx
  have hb := X.hb
  have hl : lv_has ls 6 [(0, .ref (ga g k0)), (1, .int a1), (2, .int a2)] := hl
  have locs : List Loc := []
  unfold f7_number at h
  refine lv_iconst (v := (0 : Int32)) hx hb dX7_number_0 (by decide +kernel) ?_
  refine lv_istore_n (lv' := [(3, .int (0 : Int32)), (0, .ref (ga g k0)), (1, .int a1), (2, .int a2)]) hx hb dX7_number_1 rfl hl (by decide) rfl (fun ls hl => ?_)
  refine lv_iconst (v := (0 : Int32)) hx hb dX7_number_2 (by decide +kernel) ?_
  refine lv_istore (lv' := [(4, .int (0 : Int32)), (3, .int (0 : Int32)), (0, .ref (ga g k0)), (1, .int a1), (2, .int a2)]) hx hb dX7_number_3 hl (by decide) rfl (fun ls hl => ?_)
  exact L7_number_5 hG N k0 a1 a2 t0 X hr hlk r0 I0 N I (0 : Int32) (0 : Int32) h _ _ _ hP hS (lv_sub hl [2, 3, 4, 1, 0] rfl)
abbrev rm7_signedNumber : Room := { frames := 2, cells := 0, slots := 0, locals := 50 }
def f7_signedNumber_61 (N : Nat) (k0 : Nat) (a1 : Int32) (I : Mem) (v2 : Int32) (s0 : Int32) (s1 : Int32) : Option (Int32 × Mem) :=
    letM (st I k0 2 (s1 + s0)) (fun I_4 : Mem =>
    clP (f7_number N I_4 k0 (3 : Int32) a1) (fun (q_5 : Int32) (I_6 : Mem) =>
    if q_5 = (-9 : Int32) then
    some ((-89910 : Int32), I_6)
    else
    if v2 = (0 : Int32) then
    some (q_5, I_6)
    else
    some ((-q_5), I_6)))
def f7_signedNumber_47 (N : Nat) (k0 : Nat) (a1 : Int32) (I : Mem) (v2 : Int32) : Option (Int32 × Mem) :=
    if v2 = (0 : Int32) then
    f7_signedNumber_61 N k0 a1 I v2 (0 : Int32) (I k0 2)
    else
    f7_signedNumber_61 N k0 a1 I v2 (1 : Int32) (I k0 2)
def f7_signedNumber_30 (N : Nat) (k0 : Nat) (a1 : Int32) (I : Mem) (s0 : Int32) : Option (Int32 × Mem) :=
    if s0 = (0 : Int32) then
    clP (f7_takes N I k0 (43 : Int32)) (fun (q_10 : Int32) (I_11 : Mem) =>
    if q_10 = (0 : Int32) then
    some ((-89910 : Int32), I_11)
    else
    f7_signedNumber_47 N k0 a1 I_11 s0)
    else
    f7_signedNumber_47 N k0 a1 I s0
def f7_signedNumber_29 (N : Nat) (k0 : Nat) (a1 : Int32) (I : Mem) : Option (Int32 × Mem) :=
    f7_signedNumber_30 N k0 a1 I (0 : Int32)
def f7_signedNumber (N : Nat) (I : Mem) (k0 : Nat) (a1 : Int32) : Option (Int32 × Mem) :=
    if (I k0 1) ≤ (I k0 2) then
    f7_signedNumber_29 N k0 a1 I
    else
    if ((I k0 2) < (0 : Int32) ∨ 80 ≤ (I k0 2).toNatClampNeg) then none else
    if (I (k0 + 1) ((I k0 2).toNatClampNeg)) = (45 : Int32) then
    f7_signedNumber_30 N k0 a1 I (1 : Int32)
    else
    f7_signedNumber_29 N k0 a1 I
set_option maxHeartbeats 4000000 in
set_option maxRecDepth 100000 in
theorem L7_signedNumber_61 (hG : Apart g NT) (N : Nat) (k0 : Nat) (a1 : Int32) (t0 : tag k0 = 6) (X : Cx g p s m args c cX7_signedNumber RX7 4) (hr : meth.sig.returnType = (some .int)) (hlk : meth.locks = false) (r0 : Int32) (I0 : Mem) : ∀ (I : Mem) (v2 : Int32) (s0 : Int32) (s1 : Int32), f7_signedNumber_61 N k0 a1 I v2 s0 s1 = some (r0, I0) → ∀ (H : Heap) (locs : List Loc) (ls : Array Slot), Wp g I H → va_S (gA g) s.heap H locs → lv_has ls 4 [(0, .ref (ga g k0)), (1, .int a1), (2, .int v2)] → W p l e rm7_signedNumber s m args below meth c H locs 0 0 (MQ below (Qg g (some (.int r0)) I0) args s 0 0 (gA g)) (F0 m 61 ls [.int s0, .int s1, .ref (ga g k0)]) := by
  have hx := X.hx
  have hb := X.hb
  intro I v2 s0 s1 h H locs ls hP hS hl
  unfold f7_signedNumber_61 at h
  refine lv_iadd hx hb dX7_signedNumber_61 ?_
  obtain ⟨I_4, eI_4, h⟩ := letM_e h
  refine p7_2 X hP hS t0 k_553 eI_4 dX7_signedNumber_62 (fun H locs hP hS => ?_)
  refine lv_aload_n hx hb dX7_signedNumber_65 rfl (lv_at hl 0 rfl) ?_
  refine lv_iconst (v := (3 : Int32)) hx hb dX7_signedNumber_66 (by decide +kernel) ?_
  refine lv_iload_n hx hb dX7_signedNumber_67 rfl (lv_at hl 1 rfl) ?_
  obtain ⟨q_5, I_6, hc_7, h⟩ := clP_e h
  refine r_callV (As := [.int (3 : Int32), .int a1]) [] X (c7_number l g hG N _ _ _ _ t0 _ _ hc_7) cal_X7_number (im_X7_number) (se_X7_number) k_628 (tag_lt t0 (by decide)) (by rw [lay, t0]; rfl) rfl rfl ⟨rfl, rfl⟩ ⟨Nat.le_of_ble_eq_true rfl, Nat.le_of_ble_eq_true rfl⟩ hP hS hl.1 rfl (Nat.le_of_ble_eq_true rfl) dX7_signedNumber_68 ⟨Nat.zero_le _, Nat.zero_le _⟩ (fun H locs hP hS => ?_)
  show W p l e rm7_signedNumber s m args below meth c H locs 0 0 _ (F0 m 71 ls [.int q_5])
  refine lv_istore_n (lv' := [(3, .int q_5), (0, .ref (ga g k0)), (1, .int a1), (2, .int v2)]) hx hb dX7_signedNumber_71 rfl hl (by decide) rfl (fun ls hl => ?_)
  refine lv_iload_n hx hb dX7_signedNumber_72 rfl (lv_at hl 0 rfl) ?_
  refine lv_bipush (v := (-9 : Int32)) hx hb dX7_signedNumber_73 (by decide +kernel) ?_
  refine lv_icmp_ne (tgt := 83) hx hb dX7_signedNumber_75 (by decide) (fun c_8 => ?_) (fun c_8 => ?_)
  · replace h := ifn c_8 h
    refine lv_iload_n hx hb dX7_signedNumber_83 rfl (lv_at hl 3 rfl) ?_
    refine lv_if_eq (tgt := 92) hx hb dX7_signedNumber_84 (by decide) (fun c_9 => ?_) (fun c_9 => ?_)
    · replace h := ifp c_9 h
      refine lv_iload_n hx hb dX7_signedNumber_92 rfl (lv_at hl 0 rfl) ?_
      exact r_iret X hr hlk hP hS dX7_signedNumber_93 h
    · replace h := ifn c_9 h
      refine lv_iload_n hx hb dX7_signedNumber_87 rfl (lv_at hl 0 rfl) ?_
      refine lv_ineg hx hb dX7_signedNumber_88 ?_
      refine lv_goto (tgt := 93) hx hb dX7_signedNumber_89 (by decide) ?_
      exact r_iret X hr hlk hP hS dX7_signedNumber_93 h
  · replace h := ifp c_8 h
    refine lv_ldc (v := (-89910 : Int32)) hx hb X.ow (X.hts _ k_641) dX7_signedNumber_78 ?_
    refine lv_goto (tgt := 93) hx hb dX7_signedNumber_80 (by decide) ?_
    exact r_iret X hr hlk hP hS dX7_signedNumber_93 h
set_option maxHeartbeats 4000000 in
set_option maxRecDepth 100000 in
theorem L7_signedNumber_47 (hG : Apart g NT) (N : Nat) (k0 : Nat) (a1 : Int32) (t0 : tag k0 = 6) (X : Cx g p s m args c cX7_signedNumber RX7 4) (hr : meth.sig.returnType = (some .int)) (hlk : meth.locks = false) (r0 : Int32) (I0 : Mem) : ∀ (I : Mem) (v2 : Int32), f7_signedNumber_47 N k0 a1 I v2 = some (r0, I0) → ∀ (H : Heap) (locs : List Loc) (ls : Array Slot), Wp g I H → va_S (gA g) s.heap H locs → lv_has ls 4 [(0, .ref (ga g k0)), (1, .int a1), (2, .int v2)] → W p l e rm7_signedNumber s m args below meth c H locs 0 0 (MQ below (Qg g (some (.int r0)) I0) args s 0 0 (gA g)) (F0 m 47 ls []) := by
  have hx := X.hx
  have hb := X.hb
  intro I v2 h H locs ls hP hS hl
  unfold f7_signedNumber_47 at h
  refine lv_aload_n hx hb dX7_signedNumber_47 rfl (lv_at hl 0 rfl) ?_
  refine lv_dup hx hb dX7_signedNumber_48 rfl ?_
  refine g7_2 X hP t0 k_553 dX7_signedNumber_49 ?_
  refine lv_iload_n hx hb dX7_signedNumber_52 rfl (lv_at hl 2 rfl) ?_
  refine lv_if_eq (tgt := 60) hx hb dX7_signedNumber_53 (by decide) (fun c_3 => ?_) (fun c_3 => ?_)
  · replace h := ifp c_3 h
    refine lv_iconst (v := (0 : Int32)) hx hb dX7_signedNumber_60 (by decide +kernel) ?_
    exact L7_signedNumber_61 hG N k0 a1 t0 X hr hlk r0 I0 I v2 (0 : Int32) (I k0 2) h _ _ _ hP hS (lv_sub hl [0, 1, 2] rfl)
  · replace h := ifn c_3 h
    refine lv_iconst (v := (1 : Int32)) hx hb dX7_signedNumber_56 (by decide +kernel) ?_
    refine lv_goto (tgt := 61) hx hb dX7_signedNumber_57 (by decide) ?_
    exact L7_signedNumber_61 hG N k0 a1 t0 X hr hlk r0 I0 I v2 (1 : Int32) (I k0 2) h _ _ _ hP hS (lv_sub hl [0, 1, 2] rfl)
set_option maxHeartbeats 4000000 in
set_option maxRecDepth 100000 in
theorem L7_signedNumber_30 (hG : Apart g NT) (N : Nat) (k0 : Nat) (a1 : Int32) (t0 : tag k0 = 6) (X : Cx g p s m args c cX7_signedNumber RX7 4) (hr : meth.sig.returnType = (some .int)) (hlk : meth.locks = false) (r0 : Int32) (I0 : Mem) : ∀ (I : Mem) (s0 : Int32), f7_signedNumber_30 N k0 a1 I s0 = some (r0, I0) → ∀ (H : Heap) (locs : List Loc) (ls : Array Slot), Wp g I H → va_S (gA g) s.heap H locs → lv_has ls 4 [(0, .ref (ga g k0)), (1, .int a1)] → W p l e rm7_signedNumber s m args below meth c H locs 0 0 (MQ below (Qg g (some (.int r0)) I0) args s 0 0 (gA g)) (F0 m 30 ls [.int s0]) := by
  have hx := X.hx
  have hb := X.hb
  intro I s0 h H locs ls hP hS hl
  unfold f7_signedNumber_30 at h
  refine lv_istore_n (lv' := [(2, .int s0), (0, .ref (ga g k0)), (1, .int a1)]) hx hb dX7_signedNumber_30 rfl hl (by decide) rfl (fun ls hl => ?_)
  refine lv_iload_n hx hb dX7_signedNumber_31 rfl (lv_at hl 0 rfl) ?_
  refine lv_if_ne (tgt := 47) hx hb dX7_signedNumber_32 (by decide) (fun c_2 => ?_) (fun c_2 => ?_)
  · replace h := ifn c_2 h
    exact L7_signedNumber_47 hG N k0 a1 t0 X hr hlk r0 I0 I s0 h _ _ _ hP hS (lv_sub hl [1, 2, 0] rfl)
  · replace h := ifp c_2 h
    refine lv_aload_n hx hb dX7_signedNumber_35 rfl (lv_at hl 1 rfl) ?_
    refine lv_bipush (v := (43 : Int32)) hx hb dX7_signedNumber_36 (by decide +kernel) ?_
    obtain ⟨q_10, I_11, hc_12, h⟩ := clP_e h
    refine r_callV (As := [.int (43 : Int32)]) [] X (c7_takes l g hG N _ _ _ t0 _ _ hc_12) cal_X7_takes (im_X7_takes) (se_X7_takes) k_624 (tag_lt t0 (by decide)) (by rw [lay, t0]; rfl) rfl rfl ⟨rfl, rfl⟩ ⟨Nat.le_of_ble_eq_true rfl, Nat.le_of_ble_eq_true rfl⟩ hP hS hl.1 rfl (Nat.le_of_ble_eq_true rfl) dX7_signedNumber_38 ⟨Nat.zero_le _, Nat.zero_le _⟩ (fun H locs hP hS => ?_)
    show W p l e rm7_signedNumber s m args below meth c H locs 0 0 _ (F0 m 41 ls [.int q_10])
    refine lv_if_ne (tgt := 47) hx hb dX7_signedNumber_41 (by decide) (fun c_13 => ?_) (fun c_13 => ?_)
    · replace h := ifn c_13 h
      exact L7_signedNumber_47 hG N k0 a1 t0 X hr hlk r0 I0 I_11 s0 h _ _ _ hP hS (lv_sub hl [1, 2, 0] rfl)
    · replace h := ifp c_13 h
      refine lv_ldc (v := (-89910 : Int32)) hx hb X.ow (X.hts _ k_641) dX7_signedNumber_44 ?_
      exact r_iret X hr hlk hP hS dX7_signedNumber_46 h
set_option maxHeartbeats 4000000 in
set_option maxRecDepth 100000 in
theorem L7_signedNumber_29 (hG : Apart g NT) (N : Nat) (k0 : Nat) (a1 : Int32) (t0 : tag k0 = 6) (X : Cx g p s m args c cX7_signedNumber RX7 4) (hr : meth.sig.returnType = (some .int)) (hlk : meth.locks = false) (r0 : Int32) (I0 : Mem) : ∀ (I : Mem), f7_signedNumber_29 N k0 a1 I = some (r0, I0) → ∀ (H : Heap) (locs : List Loc) (ls : Array Slot), Wp g I H → va_S (gA g) s.heap H locs → lv_has ls 4 [(0, .ref (ga g k0)), (1, .int a1)] → W p l e rm7_signedNumber s m args below meth c H locs 0 0 (MQ below (Qg g (some (.int r0)) I0) args s 0 0 (gA g)) (F0 m 29 ls []) := by
  have hx := X.hx
  have hb := X.hb
  intro I h H locs ls hP hS hl
  unfold f7_signedNumber_29 at h
  refine lv_iconst (v := (0 : Int32)) hx hb dX7_signedNumber_29 (by decide +kernel) ?_
  exact L7_signedNumber_30 hG N k0 a1 t0 X hr hlk r0 I0 I (0 : Int32) h _ _ _ hP hS (lv_sub hl [0, 1] rfl)
set_option maxHeartbeats 4000000 in
set_option maxRecDepth 100000 in
theorem c7_signedNumber (l : Launch) (g : GG) (hG : Apart g NT) (N : Nat) (I : Mem) (k0 : Nat) (a1 : Int32) (t0 : tag k0 = 6) (r0 : Int32) (I0 : Mem) (h : f7_signedNumber N I k0 a1 = some (r0, I0)) : Mc l g yX7_signedNumber cX7_signedNumber 4 (some .int) rm7_signedNumber I [.ref (ga g k0), .int a1] (some (.int r0)) I0 := by
  refine Mc.of hG (by decide +kernel) (Nat.le_of_ble_eq_true rfl) ?_
  intro p e s m args below meth c ls X hr hlk hP hS hl
  have X : Cx g p s m args c cX7_signedNumber RX7 4 := X
  have hx := X.hx
  have hb := X.hb
  have hl : lv_has ls 4 [(0, .ref (ga g k0)), (1, .int a1)] := hl
  have locs : List Loc := []
  unfold f7_signedNumber at h
  refine lv_aload_n hx hb dX7_signedNumber_0 rfl (lv_at hl 0 rfl) ?_
  refine g7_2 X hP t0 k_553 dX7_signedNumber_1 ?_
  refine lv_aload_n hx hb dX7_signedNumber_4 rfl (lv_at hl 0 rfl) ?_
  refine g7_1 X hP t0 k_552 dX7_signedNumber_5 ?_
  refine lv_icmp_ge (tgt := 29) hx hb dX7_signedNumber_8 (by decide) (fun c_1 => ?_) (fun c_1 => ?_)
  · replace h := ifp c_1 h
    exact L7_signedNumber_29 hG N k0 a1 t0 X hr hlk r0 I0 I h _ _ _ hP hS (lv_sub hl [0, 1] rfl)
  · replace h := ifn c_1 h
    refine lv_aload_n hx hb dX7_signedNumber_11 rfl (lv_at hl 0 rfl) ?_
    refine g7_0 X hP t0 k_551 dX7_signedNumber_12 ?_
    refine lv_aload_n hx hb dX7_signedNumber_15 rfl (lv_at hl 0 rfl) ?_
    refine g7_2 X hP t0 k_553 dX7_signedNumber_16 ?_
    obtain ⟨g_14, h⟩ := gd_e h
    refine r_iald (n := 80) X hP (g7_0_t t0) g_14 (j := (I k0 2).toNatClampNeg) rfl dX7_signedNumber_19 ?_
    refine lv_bipush (v := (45 : Int32)) hx hb dX7_signedNumber_20 (by decide +kernel) ?_
    refine lv_icmp_ne (tgt := 29) hx hb dX7_signedNumber_22 (by decide) (fun c_15 => ?_) (fun c_15 => ?_)
    · replace h := ifn c_15 h
      exact L7_signedNumber_29 hG N k0 a1 t0 X hr hlk r0 I0 I h _ _ _ hP hS (lv_sub hl [0, 1] rfl)
    · replace h := ifp c_15 h
      refine lv_iconst (v := (1 : Int32)) hx hb dX7_signedNumber_25 (by decide +kernel) ?_
      refine lv_goto (tgt := 30) hx hb dX7_signedNumber_26 (by decide) ?_
      exact L7_signedNumber_30 hG N k0 a1 t0 X hr hlk r0 I0 I (1 : Int32) h _ _ _ hP hS (lv_sub hl [0, 1] rfl)
abbrev rm7_readItem : Room := { frames := 3, cells := 0, slots := 0, locals := 73 }
def f7_readItem_142 (N : Nat) (k0 : Nat) (I : Mem) (v1 : Int32) (s0 : Int32) (s2 : Int32) : Option (Int32 × Mem) :=
    clP (f7_signedNumber N I k0 s0) (fun (q_23 : Int32) (I_24 : Mem) =>
    if (s2 < (0 : Int32) ∨ 33 ≤ s2.toNatClampNeg) then none else
    letM (st I_24 (k0 + 4) (s2.toNatClampNeg) q_23) (fun I_27 : Mem =>
    letM (st I_27 (k0 + 4) 5 ((I_27 (k0 + 4) 5) + (1 : Int32))) (fun I_28 : Mem =>
    if ((v1 + (1 : Int32)) < (0 : Int32) ∨ 33 ≤ (v1 + (1 : Int32)).toNatClampNeg) then none else
    clP (f7_in N I_28 (I_28 (k0 + 4) ((v1 + (1 : Int32)).toNatClampNeg)).toInt64 (-999 : Int64) (999 : Int64)) (fun (q_30 : Int32) (I_31 : Mem) =>
    if ¬ (q_30 = 0 ∨ q_30 = 1) then none else
    some (q_30, I_31)))))
def f7_readItem (N : Nat) (I : Mem) (k0 : Nat) : Option (Int32 × Mem) :=
    letM ((9 : Int32) + ((3 : Int32) * (I (k0 + 4) 5))) (fun x_1 : Int32 =>
    if (I (k0 + 4) 5) = (8 : Int32) then
    some ((0 : Int32), I)
    else
    clP (f7_takes N I k0 (119 : Int32)) (fun (q_3 : Int32) (I_4 : Mem) =>
    if q_3 = (0 : Int32) then
    clP (f7_takes N I_4 k0 (109 : Int32)) (fun (q_7 : Int32) (I_8 : Mem) =>
    if q_7 = (0 : Int32) then
    some ((0 : Int32), I_8)
    else
    clP (f7_signedNumber N I_8 k0 (0 : Int32)) (fun (q_11 : Int32) (I_12 : Mem) =>
    if (x_1 < (0 : Int32) ∨ 33 ≤ x_1.toNatClampNeg) then none else
    letM (st I_12 (k0 + 4) (x_1.toNatClampNeg) q_11) (fun I_15 : Mem =>
    if (x_1 < (0 : Int32) ∨ 33 ≤ x_1.toNatClampNeg) then none else
    clP (f7_in N I_15 (I_15 (k0 + 4) (x_1.toNatClampNeg)).toInt64 (-999 : Int64) (999 : Int64)) (fun (q_17 : Int32) (I_18 : Mem) =>
    if q_17 = (0 : Int32) then
    some ((0 : Int32), I_18)
    else
    if (x_1 < (0 : Int32) ∨ 33 ≤ x_1.toNatClampNeg) then none else
    if (I_18 (k0 + 4) (x_1.toNatClampNeg)) = (0 : Int32) then
    f7_readItem_142 N k0 I_18 x_1 (1 : Int32) (x_1 + (1 : Int32))
    else
    f7_readItem_142 N k0 I_18 x_1 (0 : Int32) (x_1 + (1 : Int32))))))
    else
    clP (f7_number N I_4 k0 (4 : Int32) (1 : Int32)) (fun (q_34 : Int32) (I_35 : Mem) =>
    if ((x_1 + (2 : Int32)) < (0 : Int32) ∨ 33 ≤ (x_1 + (2 : Int32)).toNatClampNeg) then none else
    letM (st I_35 (k0 + 4) ((x_1 + (2 : Int32)).toNatClampNeg) q_34) (fun I_38 : Mem =>
    letM (st I_38 (k0 + 4) 5 ((I_38 (k0 + 4) 5) + (1 : Int32))) (fun I_39 : Mem =>
    if ((x_1 + (2 : Int32)) < (0 : Int32) ∨ 33 ≤ (x_1 + (2 : Int32)).toNatClampNeg) then none else
    if (I_39 (k0 + 4) ((x_1 + (2 : Int32)).toNatClampNeg)) = (-9 : Int32) then
    some ((0 : Int32), I_39)
    else
    some ((1 : Int32), I_39))))))
set_option maxHeartbeats 4000000 in
set_option maxRecDepth 100000 in
theorem L7_readItem_142 (hG : Apart g NT) (N : Nat) (k0 : Nat) (t0 : tag k0 = 6) (X : Cx g p s m args c cX7_readItem RX7 2) (hr : meth.sig.returnType = (some .boolean)) (hlk : meth.locks = false) (r0 : Int32) (I0 : Mem) : ∀ (I : Mem) (v1 : Int32) (s0 : Int32) (s2 : Int32), f7_readItem_142 N k0 I v1 s0 s2 = some (r0, I0) → ∀ (H : Heap) (locs : List Loc) (ls : Array Slot), Wp g I H → va_S (gA g) s.heap H locs → lv_has ls 2 [(0, .ref (ga g k0)), (1, .int v1)] → W p l e rm7_readItem s m args below meth c H locs 0 0 (MQ below (Qg g (some (.int r0)) I0) args s 0 0 (gA g)) (F0 m 142 ls [.int s0, .ref (ga g k0), .int s2, .ref (ga g (k0 + 4))]) := by
  have hx := X.hx
  have hb := X.hb
  intro I v1 s0 s2 h H locs ls hP hS hl
  unfold f7_readItem_142 at h
  obtain ⟨q_23, I_24, hc_25, h⟩ := clP_e h
  refine r_callV (As := [.int s0]) [.int s2, .ref (ga g (k0 + 4))] X (c7_signedNumber l g hG N _ _ _ t0 _ _ hc_25) cal_X7_signedNumber (im_X7_signedNumber) (se_X7_signedNumber) k_637 (tag_lt t0 (by decide)) (by rw [lay, t0]; rfl) rfl rfl ⟨rfl, rfl⟩ ⟨Nat.le_of_ble_eq_true rfl, Nat.le_of_ble_eq_true rfl⟩ hP hS hl.1 rfl (Nat.le_of_ble_eq_true rfl) dX7_readItem_142 ⟨Nat.zero_le _, Nat.zero_le _⟩ (fun H locs hP hS => ?_)
  show W p l e rm7_readItem s m args below meth c H locs 0 0 _ (F0 m 145 ls [.int q_23, .int s2, .ref (ga g (k0 + 4))])
  obtain ⟨g_26, h⟩ := gd_e h
  obtain ⟨I_27, eI_27, h⟩ := letM_e h
  refine r_iast (n := 33) X hP hS (g7_5_t t0) g_26 (j := s2.toNatClampNeg) rfl eI_27 dX7_readItem_145 (fun H locs hP hS => ?_)
  refine lv_aload_n hx hb dX7_readItem_146 rfl (lv_at hl 0 rfl) ?_
  refine g7_5 X hP t0 k_556 dX7_readItem_147 ?_
  refine lv_iconst (v := (5 : Int32)) hx hb dX7_readItem_150 (by decide +kernel) ?_
  refine lv_dup2_11 hx hb dX7_readItem_151 rfl rfl ?_
  refine r_iald (n := 33) X hP (g7_5_t t0) (by decide +kernel) (j := 5) (by decide +kernel) dX7_readItem_152 ?_
  refine lv_iconst (v := (1 : Int32)) hx hb dX7_readItem_153 (by decide +kernel) ?_
  refine lv_iadd hx hb dX7_readItem_154 ?_
  obtain ⟨I_28, eI_28, h⟩ := letM_e h
  refine r_iast (n := 33) X hP hS (g7_5_t t0) (by decide +kernel) (j := 5) (by decide +kernel) eI_28 dX7_readItem_155 (fun H locs hP hS => ?_)
  refine lv_aload_n hx hb dX7_readItem_156 rfl (lv_at hl 0 rfl) ?_
  refine g7_5 X hP t0 k_556 dX7_readItem_157 ?_
  refine lv_iload_n hx hb dX7_readItem_160 rfl (lv_at hl 1 rfl) ?_
  refine lv_iconst (v := (1 : Int32)) hx hb dX7_readItem_161 (by decide +kernel) ?_
  refine lv_iadd hx hb dX7_readItem_162 ?_
  obtain ⟨g_29, h⟩ := gd_e h
  refine r_iald (n := 33) X hP (g7_5_t t0) g_29 (j := (v1 + (1 : Int32)).toNatClampNeg) rfl dX7_readItem_163 ?_
  refine lv_i2l (v := (I_28 (k0 + 4) ((v1 + (1 : Int32)).toNatClampNeg)).toInt64) hx hb dX7_readItem_164 (by rfl) ?_
  refine lv_ldc2 (v := (-999 : Int64)) hx hb X.ow (X.hts _ k_642) dX7_readItem_165 ?_
  refine lv_ldc2 (v := (999 : Int64)) hx hb X.ow (X.hts _ k_643) dX7_readItem_168 ?_
  obtain ⟨q_30, I_31, hc_32, h⟩ := clP_e h
  refine r_callS (As := [.long (I_28 (k0 + 4) ((v1 + (1 : Int32)).toNatClampNeg)).toInt64, .long (-999 : Int64), .long (999 : Int64)]) [] X (c7_in l g hG N _ _ _ _ _ _ hc_32) cal_X7_in (sc_X7_in) k_609 rfl ⟨rfl, rfl⟩ ⟨Nat.le_of_ble_eq_true rfl, Nat.le_of_ble_eq_true rfl⟩ hP hS hl.1 rfl (Nat.le_of_ble_eq_true rfl) dX7_readItem_171 ⟨Nat.zero_le _, Nat.zero_le _⟩ (fun H locs hP hS => ?_)
  show W p l e rm7_readItem s m args below meth c H locs 0 0 _ (F0 m 174 ls [.int q_30])
  obtain ⟨g_33, h⟩ := gd_e h
  exact r_zret X hr hlk hP hS (bool_nar g_33) dX7_readItem_174 h
set_option maxHeartbeats 4000000 in
set_option maxRecDepth 100000 in
theorem c7_readItem (l : Launch) (g : GG) (hG : Apart g NT) (N : Nat) (I : Mem) (k0 : Nat) (t0 : tag k0 = 6) (r0 : Int32) (I0 : Mem) (h : f7_readItem N I k0 = some (r0, I0)) : Mc l g yX7_readItem cX7_readItem 2 (some .boolean) rm7_readItem I [.ref (ga g k0)] (some (.int r0)) I0 := by
  refine Mc.of hG (by decide +kernel) (Nat.le_of_ble_eq_true rfl) ?_
  intro p e s m args below meth c ls X hr hlk hP hS hl
  have X : Cx g p s m args c cX7_readItem RX7 2 := X
  have hx := X.hx
  have hb := X.hb
  have hl : lv_has ls 2 [(0, .ref (ga g k0))] := hl
  have locs : List Loc := []
  unfold f7_readItem at h
  refine lv_bipush (v := (9 : Int32)) hx hb dX7_readItem_0 (by decide +kernel) ?_
  refine lv_iconst (v := (3 : Int32)) hx hb dX7_readItem_2 (by decide +kernel) ?_
  refine lv_aload_n hx hb dX7_readItem_3 rfl (lv_at hl 0 rfl) ?_
  refine g7_5 X hP t0 k_556 dX7_readItem_4 ?_
  refine lv_iconst (v := (5 : Int32)) hx hb dX7_readItem_7 (by decide +kernel) ?_
  refine r_iald (n := 33) X hP (g7_5_t t0) (by decide +kernel) (j := 5) (by decide +kernel) dX7_readItem_8 ?_
  refine lv_imul hx hb dX7_readItem_9 ?_
  refine lv_iadd hx hb dX7_readItem_10 ?_
  obtain ⟨x_1, ex_1, h⟩ := letM_e h
  refine r_nmi ex_1 ?_
  refine lv_istore_n (lv' := [(1, .int x_1), (0, .ref (ga g k0))]) hx hb dX7_readItem_11 rfl hl (by decide) rfl (fun ls hl => ?_)
  refine lv_aload_n hx hb dX7_readItem_12 rfl (lv_at hl 1 rfl) ?_
  refine g7_5 X hP t0 k_556 dX7_readItem_13 ?_
  refine lv_iconst (v := (5 : Int32)) hx hb dX7_readItem_16 (by decide +kernel) ?_
  refine r_iald (n := 33) X hP (g7_5_t t0) (by decide +kernel) (j := 5) (by decide +kernel) dX7_readItem_17 ?_
  refine lv_bipush (v := (8 : Int32)) hx hb dX7_readItem_18 (by decide +kernel) ?_
  refine lv_icmp_ne (tgt := 25) hx hb dX7_readItem_20 (by decide) (fun c_2 => ?_) (fun c_2 => ?_)
  · replace h := ifn c_2 h
    refine lv_aload_n hx hb dX7_readItem_25 rfl (lv_at hl 1 rfl) ?_
    refine lv_bipush (v := (119 : Int32)) hx hb dX7_readItem_26 (by decide +kernel) ?_
    obtain ⟨q_3, I_4, hc_5, h⟩ := clP_e h
    refine r_callV (As := [.int (119 : Int32)]) [] X (c7_takes l g hG N _ _ _ t0 _ _ hc_5) cal_X7_takes (im_X7_takes) (se_X7_takes) k_624 (tag_lt t0 (by decide)) (by rw [lay, t0]; rfl) rfl rfl ⟨rfl, rfl⟩ ⟨Nat.le_of_ble_eq_true rfl, Nat.le_of_ble_eq_true rfl⟩ hP hS hl.1 rfl (Nat.le_of_ble_eq_true rfl) dX7_readItem_28 ⟨Nat.zero_le _, Nat.zero_le _⟩ (fun H locs hP hS => ?_)
    show W p l e rm7_readItem s m args below meth c H locs 0 0 _ (F0 m 31 ls [.int q_3])
    refine lv_if_eq (tgt := 77) hx hb dX7_readItem_31 (by decide) (fun c_6 => ?_) (fun c_6 => ?_)
    · replace h := ifp c_6 h
      refine lv_aload_n hx hb dX7_readItem_77 rfl (lv_at hl 1 rfl) ?_
      refine lv_bipush (v := (109 : Int32)) hx hb dX7_readItem_78 (by decide +kernel) ?_
      obtain ⟨q_7, I_8, hc_9, h⟩ := clP_e h
      refine r_callV (As := [.int (109 : Int32)]) [] X (c7_takes l g hG N _ _ _ t0 _ _ hc_9) cal_X7_takes (im_X7_takes) (se_X7_takes) k_624 (tag_lt t0 (by decide)) (by rw [lay, t0]; rfl) rfl rfl ⟨rfl, rfl⟩ ⟨Nat.le_of_ble_eq_true rfl, Nat.le_of_ble_eq_true rfl⟩ hP hS hl.1 rfl (Nat.le_of_ble_eq_true rfl) dX7_readItem_80 ⟨Nat.zero_le _, Nat.zero_le _⟩ (fun H locs hP hS => ?_)
      show W p l e rm7_readItem s m args below meth c H locs 0 0 _ (F0 m 83 ls [.int q_7])
      refine lv_if_ne (tgt := 88) hx hb dX7_readItem_83 (by decide) (fun c_10 => ?_) (fun c_10 => ?_)
      · replace h := ifn c_10 h
        refine lv_aload_n hx hb dX7_readItem_88 rfl (lv_at hl 1 rfl) ?_
        refine g7_5 X hP t0 k_556 dX7_readItem_89 ?_
        refine lv_iload_n hx hb dX7_readItem_92 rfl (lv_at hl 0 rfl) ?_
        refine lv_aload_n hx hb dX7_readItem_93 rfl (lv_at hl 1 rfl) ?_
        refine lv_iconst (v := (0 : Int32)) hx hb dX7_readItem_94 (by decide +kernel) ?_
        obtain ⟨q_11, I_12, hc_13, h⟩ := clP_e h
        refine r_callV (As := [.int (0 : Int32)]) [.int x_1, .ref (ga g (k0 + 4))] X (c7_signedNumber l g hG N _ _ _ t0 _ _ hc_13) cal_X7_signedNumber (im_X7_signedNumber) (se_X7_signedNumber) k_637 (tag_lt t0 (by decide)) (by rw [lay, t0]; rfl) rfl rfl ⟨rfl, rfl⟩ ⟨Nat.le_of_ble_eq_true rfl, Nat.le_of_ble_eq_true rfl⟩ hP hS hl.1 rfl (Nat.le_of_ble_eq_true rfl) dX7_readItem_95 ⟨Nat.zero_le _, Nat.zero_le _⟩ (fun H locs hP hS => ?_)
        show W p l e rm7_readItem s m args below meth c H locs 0 0 _ (F0 m 98 ls [.int q_11, .int x_1, .ref (ga g (k0 + 4))])
        obtain ⟨g_14, h⟩ := gd_e h
        obtain ⟨I_15, eI_15, h⟩ := letM_e h
        refine r_iast (n := 33) X hP hS (g7_5_t t0) g_14 (j := x_1.toNatClampNeg) rfl eI_15 dX7_readItem_98 (fun H locs hP hS => ?_)
        refine lv_aload_n hx hb dX7_readItem_99 rfl (lv_at hl 1 rfl) ?_
        refine g7_5 X hP t0 k_556 dX7_readItem_100 ?_
        refine lv_iload_n hx hb dX7_readItem_103 rfl (lv_at hl 0 rfl) ?_
        obtain ⟨g_16, h⟩ := gd_e h
        refine r_iald (n := 33) X hP (g7_5_t t0) g_16 (j := x_1.toNatClampNeg) rfl dX7_readItem_104 ?_
        refine lv_i2l (v := (I_15 (k0 + 4) (x_1.toNatClampNeg)).toInt64) hx hb dX7_readItem_105 (by rfl) ?_
        refine lv_ldc2 (v := (-999 : Int64)) hx hb X.ow (X.hts _ k_642) dX7_readItem_106 ?_
        refine lv_ldc2 (v := (999 : Int64)) hx hb X.ow (X.hts _ k_643) dX7_readItem_109 ?_
        obtain ⟨q_17, I_18, hc_19, h⟩ := clP_e h
        refine r_callS (As := [.long (I_15 (k0 + 4) (x_1.toNatClampNeg)).toInt64, .long (-999 : Int64), .long (999 : Int64)]) [] X (c7_in l g hG N _ _ _ _ _ _ hc_19) cal_X7_in (sc_X7_in) k_609 rfl ⟨rfl, rfl⟩ ⟨Nat.le_of_ble_eq_true rfl, Nat.le_of_ble_eq_true rfl⟩ hP hS hl.1 rfl (Nat.le_of_ble_eq_true rfl) dX7_readItem_112 ⟨Nat.zero_le _, Nat.zero_le _⟩ (fun H locs hP hS => ?_)
        show W p l e rm7_readItem s m args below meth c H locs 0 0 _ (F0 m 115 ls [.int q_17])
        refine lv_if_ne (tgt := 120) hx hb dX7_readItem_115 (by decide) (fun c_20 => ?_) (fun c_20 => ?_)
        · replace h := ifn c_20 h
          refine lv_aload_n hx hb dX7_readItem_120 rfl (lv_at hl 1 rfl) ?_
          refine g7_5 X hP t0 k_556 dX7_readItem_121 ?_
          refine lv_iload_n hx hb dX7_readItem_124 rfl (lv_at hl 0 rfl) ?_
          refine lv_iconst (v := (1 : Int32)) hx hb dX7_readItem_125 (by decide +kernel) ?_
          refine lv_iadd hx hb dX7_readItem_126 ?_
          refine lv_aload_n hx hb dX7_readItem_127 rfl (lv_at hl 1 rfl) ?_
          refine lv_aload_n hx hb dX7_readItem_128 rfl (lv_at hl 1 rfl) ?_
          refine g7_5 X hP t0 k_556 dX7_readItem_129 ?_
          refine lv_iload_n hx hb dX7_readItem_132 rfl (lv_at hl 0 rfl) ?_
          obtain ⟨g_21, h⟩ := gd_e h
          refine r_iald (n := 33) X hP (g7_5_t t0) g_21 (j := x_1.toNatClampNeg) rfl dX7_readItem_133 ?_
          refine lv_if_ne (tgt := 141) hx hb dX7_readItem_134 (by decide) (fun c_22 => ?_) (fun c_22 => ?_)
          · replace h := ifn c_22 h
            refine lv_iconst (v := (0 : Int32)) hx hb dX7_readItem_141 (by decide +kernel) ?_
            exact L7_readItem_142 hG N k0 t0 X hr hlk r0 I0 I_18 x_1 (0 : Int32) (x_1 + (1 : Int32)) h _ _ _ hP hS (lv_sub hl [1, 0] rfl)
          · replace h := ifp c_22 h
            refine lv_iconst (v := (1 : Int32)) hx hb dX7_readItem_137 (by decide +kernel) ?_
            refine lv_goto (tgt := 142) hx hb dX7_readItem_138 (by decide) ?_
            exact L7_readItem_142 hG N k0 t0 X hr hlk r0 I0 I_18 x_1 (1 : Int32) (x_1 + (1 : Int32)) h _ _ _ hP hS (lv_sub hl [1, 0] rfl)
        · replace h := ifp c_20 h
          refine lv_iconst (v := (0 : Int32)) hx hb dX7_readItem_118 (by decide +kernel) ?_
          exact r_zret X hr hlk hP hS rfl dX7_readItem_119 h
      · replace h := ifp c_10 h
        refine lv_iconst (v := (0 : Int32)) hx hb dX7_readItem_86 (by decide +kernel) ?_
        exact r_zret X hr hlk hP hS rfl dX7_readItem_87 h
    · replace h := ifn c_6 h
      refine lv_aload_n hx hb dX7_readItem_34 rfl (lv_at hl 1 rfl) ?_
      refine g7_5 X hP t0 k_556 dX7_readItem_35 ?_
      refine lv_iload_n hx hb dX7_readItem_38 rfl (lv_at hl 0 rfl) ?_
      refine lv_iconst (v := (2 : Int32)) hx hb dX7_readItem_39 (by decide +kernel) ?_
      refine lv_iadd hx hb dX7_readItem_40 ?_
      refine lv_aload_n hx hb dX7_readItem_41 rfl (lv_at hl 1 rfl) ?_
      refine lv_iconst (v := (4 : Int32)) hx hb dX7_readItem_42 (by decide +kernel) ?_
      refine lv_iconst (v := (1 : Int32)) hx hb dX7_readItem_43 (by decide +kernel) ?_
      obtain ⟨q_34, I_35, hc_36, h⟩ := clP_e h
      refine r_callV (As := [.int (4 : Int32), .int (1 : Int32)]) [.int (x_1 + (2 : Int32)), .ref (ga g (k0 + 4))] X (c7_number l g hG N _ _ _ _ t0 _ _ hc_36) cal_X7_number (im_X7_number) (se_X7_number) k_628 (tag_lt t0 (by decide)) (by rw [lay, t0]; rfl) rfl rfl ⟨rfl, rfl⟩ ⟨Nat.le_of_ble_eq_true rfl, Nat.le_of_ble_eq_true rfl⟩ hP hS hl.1 rfl (Nat.le_of_ble_eq_true rfl) dX7_readItem_44 ⟨Nat.zero_le _, Nat.zero_le _⟩ (fun H locs hP hS => ?_)
      show W p l e rm7_readItem s m args below meth c H locs 0 0 _ (F0 m 47 ls [.int q_34, .int (x_1 + (2 : Int32)), .ref (ga g (k0 + 4))])
      obtain ⟨g_37, h⟩ := gd_e h
      obtain ⟨I_38, eI_38, h⟩ := letM_e h
      refine r_iast (n := 33) X hP hS (g7_5_t t0) g_37 (j := (x_1 + (2 : Int32)).toNatClampNeg) rfl eI_38 dX7_readItem_47 (fun H locs hP hS => ?_)
      refine lv_aload_n hx hb dX7_readItem_48 rfl (lv_at hl 1 rfl) ?_
      refine g7_5 X hP t0 k_556 dX7_readItem_49 ?_
      refine lv_iconst (v := (5 : Int32)) hx hb dX7_readItem_52 (by decide +kernel) ?_
      refine lv_dup2_11 hx hb dX7_readItem_53 rfl rfl ?_
      refine r_iald (n := 33) X hP (g7_5_t t0) (by decide +kernel) (j := 5) (by decide +kernel) dX7_readItem_54 ?_
      refine lv_iconst (v := (1 : Int32)) hx hb dX7_readItem_55 (by decide +kernel) ?_
      refine lv_iadd hx hb dX7_readItem_56 ?_
      obtain ⟨I_39, eI_39, h⟩ := letM_e h
      refine r_iast (n := 33) X hP hS (g7_5_t t0) (by decide +kernel) (j := 5) (by decide +kernel) eI_39 dX7_readItem_57 (fun H locs hP hS => ?_)
      refine lv_aload_n hx hb dX7_readItem_58 rfl (lv_at hl 1 rfl) ?_
      refine g7_5 X hP t0 k_556 dX7_readItem_59 ?_
      refine lv_iload_n hx hb dX7_readItem_62 rfl (lv_at hl 0 rfl) ?_
      refine lv_iconst (v := (2 : Int32)) hx hb dX7_readItem_63 (by decide +kernel) ?_
      refine lv_iadd hx hb dX7_readItem_64 ?_
      obtain ⟨g_40, h⟩ := gd_e h
      refine r_iald (n := 33) X hP (g7_5_t t0) g_40 (j := (x_1 + (2 : Int32)).toNatClampNeg) rfl dX7_readItem_65 ?_
      refine lv_bipush (v := (-9 : Int32)) hx hb dX7_readItem_66 (by decide +kernel) ?_
      refine lv_icmp_eq (tgt := 75) hx hb dX7_readItem_68 (by decide) (fun c_41 => ?_) (fun c_41 => ?_)
      · replace h := ifp c_41 h
        refine lv_iconst (v := (0 : Int32)) hx hb dX7_readItem_75 (by decide +kernel) ?_
        exact r_zret X hr hlk hP hS rfl dX7_readItem_76 h
      · replace h := ifn c_41 h
        refine lv_iconst (v := (1 : Int32)) hx hb dX7_readItem_71 (by decide +kernel) ?_
        refine lv_goto (tgt := 76) hx hb dX7_readItem_72 (by decide) ?_
        exact r_zret X hr hlk hP hS rfl dX7_readItem_76 h
  · replace h := ifp c_2 h
    refine lv_iconst (v := (0 : Int32)) hx hb dX7_readItem_23 (by decide +kernel) ?_
    exact r_zret X hr hlk hP hS rfl dX7_readItem_24 h
abbrev rm7_readText : Room := { frames := 4, cells := 0, slots := 0, locals := 94 }
def f7_readText_114 (N : Nat) (k0 : Nat) : Nat → Mem → Option (Int32 × Mem)
  | 0, _ => none
  | cnt+1, I =>
    if (I k0 1) ≤ (I k0 2) then
    some ((-9 : Int32), I)
    else
    clP (f7_readItem N I k0) (fun (q_23 : Int32) (I_24 : Mem) =>
    if q_23 = (0 : Int32) then
    some ((I_24 k0 2), I_24)
    else
    f7_readText_114 N k0 cnt I_24)
def f7_readText_2 (N : Nat) (k0 : Nat) : Nat → Mem → Int32 → Option (Int32 × Mem)
  | 0, _, _ => none
  | cnt+1, I, v1 =>
    if (33 : Int32) ≤ v1 then
    letM (st I (k0 + 4) 7 (-9 : Int32)) (fun I_2 : Mem =>
    letM (st I_2 k0 2 (0 : Int32)) (fun I_3 : Mem =>
    clP (f7_takes N I_3 k0 (97 : Int32)) (fun (q_4 : Int32) (I_5 : Mem) =>
    if q_4 = (0 : Int32) then
    some ((I_5 k0 2), I_5)
    else
    clP (f7_number N I_5 k0 (3 : Int32) (1 : Int32)) (fun (q_8 : Int32) (I_9 : Mem) =>
    letM (st I_9 (k0 + 4) 0 q_8) (fun I_11 : Mem =>
    if (I_11 (k0 + 4) 0) = (-9 : Int32) then
    some ((I_11 k0 2), I_11)
    else
    clP (f7_takes N I_11 k0 (118 : Int32)) (fun (q_13 : Int32) (I_14 : Mem) =>
    if q_13 = (0 : Int32) then
    some ((I_14 k0 2), I_14)
    else
    clP (f7_number N I_14 k0 (3 : Int32) (1 : Int32)) (fun (q_17 : Int32) (I_18 : Mem) =>
    letM (st I_18 (k0 + 4) 1 q_17) (fun I_20 : Mem =>
    if (I_20 (k0 + 4) 1) = (-9 : Int32) then
    some ((I_20 k0 2), I_20)
    else
    f7_readText_114 N k0 N I_20))))))))
    else
    if (v1 < (0 : Int32) ∨ 33 ≤ v1.toNatClampNeg) then none else
    letM (st I (k0 + 4) (v1.toNatClampNeg) (0 : Int32)) (fun I_28 : Mem =>
    letM (v1 + (1 : Int32)) (fun x_29 : Int32 =>
    f7_readText_2 N k0 cnt I_28 x_29))
def f7_readText (N : Nat) (I : Mem) (k0 : Nat) : Option (Int32 × Mem) :=
    f7_readText_2 N k0 N I (0 : Int32)
set_option maxHeartbeats 4000000 in
set_option maxRecDepth 100000 in
theorem L7_readText_114 (hG : Apart g NT) (N : Nat) (k0 : Nat) (t0 : tag k0 = 6) (X : Cx g p s m args c cX7_readText RX7 2) (hr : meth.sig.returnType = (some .int)) (hlk : meth.locks = false) (r0 : Int32) (I0 : Mem) : ∀ (cnt : Nat) (I : Mem), f7_readText_114 N k0 cnt I = some (r0, I0) → ∀ (H : Heap) (locs : List Loc) (ls : Array Slot), Wp g I H → va_S (gA g) s.heap H locs → lv_has ls 2 [(0, .ref (ga g k0))] → W p l e rm7_readText s m args below meth c H locs 0 0 (MQ below (Qg g (some (.int r0)) I0) args s 0 0 (gA g)) (F0 m 114 ls []) := by
  have hx := X.hx
  have hb := X.hb
  intro cnt
  induction cnt with
  | zero =>
    intro I h
    rw [f7_readText_114] at h
    cases h
  | succ cnt ih =>
    intro I h H locs ls hP hS hl
    rw [f7_readText_114] at h
    refine lv_aload_n hx hb dX7_readText_114 rfl (lv_at hl 0 rfl) ?_
    refine g7_2 X hP t0 k_553 dX7_readText_115 ?_
    refine lv_aload_n hx hb dX7_readText_118 rfl (lv_at hl 0 rfl) ?_
    refine g7_1 X hP t0 k_552 dX7_readText_119 ?_
    refine lv_icmp_ge (tgt := 137) hx hb dX7_readText_122 (by decide) (fun c_22 => ?_) (fun c_22 => ?_)
    · replace h := ifp c_22 h
      refine lv_bipush (v := (-9 : Int32)) hx hb dX7_readText_137 (by decide +kernel) ?_
      exact r_iret X hr hlk hP hS dX7_readText_139 h
    · replace h := ifn c_22 h
      refine lv_aload_n hx hb dX7_readText_125 rfl (lv_at hl 0 rfl) ?_
      obtain ⟨q_23, I_24, hc_25, h⟩ := clP_e h
      refine r_callV (As := []) [] X (c7_readItem l g hG N _ _ t0 _ _ hc_25) cal_X7_readItem (im_X7_readItem) (se_X7_readItem) k_633 (tag_lt t0 (by decide)) (by rw [lay, t0]; rfl) rfl rfl ⟨rfl, rfl⟩ ⟨Nat.le_of_ble_eq_true rfl, Nat.le_of_ble_eq_true rfl⟩ hP hS hl.1 rfl (Nat.le_of_ble_eq_true rfl) dX7_readText_126 ⟨Nat.zero_le _, Nat.zero_le _⟩ (fun H locs hP hS => ?_)
      show W p l e rm7_readText s m args below meth c H locs 0 0 _ (F0 m 129 ls [.int q_23])
      refine lv_if_ne (tgt := 114) hx hb dX7_readText_129 (by decide) (fun c_26 => ?_) (fun c_26 => ?_)
      · replace h := ifn c_26 h
        exact ih I_24 h _ _ _ hP hS (lv_sub hl [0] rfl)
      · replace h := ifp c_26 h
        refine lv_aload_n hx hb dX7_readText_132 rfl (lv_at hl 0 rfl) ?_
        refine g7_2 X hP t0 k_553 dX7_readText_133 ?_
        exact r_iret X hr hlk hP hS dX7_readText_136 h
set_option maxHeartbeats 4000000 in
set_option maxRecDepth 100000 in
theorem L7_readText_2 (hG : Apart g NT) (N : Nat) (k0 : Nat) (t0 : tag k0 = 6) (X : Cx g p s m args c cX7_readText RX7 2) (hr : meth.sig.returnType = (some .int)) (hlk : meth.locks = false) (r0 : Int32) (I0 : Mem) : ∀ (cnt : Nat) (I : Mem) (v1 : Int32), f7_readText_2 N k0 cnt I v1 = some (r0, I0) → ∀ (H : Heap) (locs : List Loc) (ls : Array Slot), Wp g I H → va_S (gA g) s.heap H locs → lv_has ls 2 [(0, .ref (ga g k0)), (1, .int v1)] → W p l e rm7_readText s m args below meth c H locs 0 0 (MQ below (Qg g (some (.int r0)) I0) args s 0 0 (gA g)) (F0 m 2 ls []) := by
  have hx := X.hx
  have hb := X.hb
  intro cnt
  induction cnt with
  | zero =>
    intro I v1 h
    rw [f7_readText_2] at h
    cases h
  | succ cnt ih =>
    intro I v1 h H locs ls hP hS hl
    rw [f7_readText_2] at h
    refine lv_iload_n hx hb dX7_readText_2 rfl (lv_at hl 1 rfl) ?_
    refine lv_bipush (v := (33 : Int32)) hx hb dX7_readText_3 (by decide +kernel) ?_
    refine lv_icmp_ge (tgt := 21) hx hb dX7_readText_5 (by decide) (fun c_1 => ?_) (fun c_1 => ?_)
    · replace h := ifp c_1 h
      refine lv_aload_n hx hb dX7_readText_21 rfl (lv_at hl 0 rfl) ?_
      refine g7_5 X hP t0 k_556 dX7_readText_22 ?_
      refine lv_bipush (v := (7 : Int32)) hx hb dX7_readText_25 (by decide +kernel) ?_
      refine lv_bipush (v := (-9 : Int32)) hx hb dX7_readText_27 (by decide +kernel) ?_
      obtain ⟨I_2, eI_2, h⟩ := letM_e h
      refine r_iast (n := 33) X hP hS (g7_5_t t0) (by decide +kernel) (j := 7) (by decide +kernel) eI_2 dX7_readText_29 (fun H locs hP hS => ?_)
      refine lv_aload_n hx hb dX7_readText_30 rfl (lv_at hl 0 rfl) ?_
      refine lv_iconst (v := (0 : Int32)) hx hb dX7_readText_31 (by decide +kernel) ?_
      obtain ⟨I_3, eI_3, h⟩ := letM_e h
      refine p7_2 X hP hS t0 k_553 eI_3 dX7_readText_32 (fun H locs hP hS => ?_)
      refine lv_aload_n hx hb dX7_readText_35 rfl (lv_at hl 0 rfl) ?_
      refine lv_bipush (v := (97 : Int32)) hx hb dX7_readText_36 (by decide +kernel) ?_
      obtain ⟨q_4, I_5, hc_6, h⟩ := clP_e h
      refine r_callV (As := [.int (97 : Int32)]) [] X (c7_takes l g hG N _ _ _ t0 _ _ hc_6) cal_X7_takes (im_X7_takes) (se_X7_takes) k_624 (tag_lt t0 (by decide)) (by rw [lay, t0]; rfl) rfl rfl ⟨rfl, rfl⟩ ⟨Nat.le_of_ble_eq_true rfl, Nat.le_of_ble_eq_true rfl⟩ hP hS hl.1 rfl (Nat.le_of_ble_eq_true rfl) dX7_readText_38 ⟨Nat.zero_le _, Nat.zero_le _⟩ (fun H locs hP hS => ?_)
      show W p l e rm7_readText s m args below meth c H locs 0 0 _ (F0 m 41 ls [.int q_4])
      refine lv_if_ne (tgt := 49) hx hb dX7_readText_41 (by decide) (fun c_7 => ?_) (fun c_7 => ?_)
      · replace h := ifn c_7 h
        refine lv_aload_n hx hb dX7_readText_49 rfl (lv_at hl 0 rfl) ?_
        refine g7_5 X hP t0 k_556 dX7_readText_50 ?_
        refine lv_iconst (v := (0 : Int32)) hx hb dX7_readText_53 (by decide +kernel) ?_
        refine lv_aload_n hx hb dX7_readText_54 rfl (lv_at hl 0 rfl) ?_
        refine lv_iconst (v := (3 : Int32)) hx hb dX7_readText_55 (by decide +kernel) ?_
        refine lv_iconst (v := (1 : Int32)) hx hb dX7_readText_56 (by decide +kernel) ?_
        obtain ⟨q_8, I_9, hc_10, h⟩ := clP_e h
        refine r_callV (As := [.int (3 : Int32), .int (1 : Int32)]) [.int (0 : Int32), .ref (ga g (k0 + 4))] X (c7_number l g hG N _ _ _ _ t0 _ _ hc_10) cal_X7_number (im_X7_number) (se_X7_number) k_628 (tag_lt t0 (by decide)) (by rw [lay, t0]; rfl) rfl rfl ⟨rfl, rfl⟩ ⟨Nat.le_of_ble_eq_true rfl, Nat.le_of_ble_eq_true rfl⟩ hP hS hl.1 rfl (Nat.le_of_ble_eq_true rfl) dX7_readText_57 ⟨Nat.zero_le _, Nat.zero_le _⟩ (fun H locs hP hS => ?_)
        show W p l e rm7_readText s m args below meth c H locs 0 0 _ (F0 m 60 ls [.int q_8, .int (0 : Int32), .ref (ga g (k0 + 4))])
        obtain ⟨I_11, eI_11, h⟩ := letM_e h
        refine r_iast (n := 33) X hP hS (g7_5_t t0) (by decide +kernel) (j := 0) (by decide +kernel) eI_11 dX7_readText_60 (fun H locs hP hS => ?_)
        refine lv_aload_n hx hb dX7_readText_61 rfl (lv_at hl 0 rfl) ?_
        refine g7_5 X hP t0 k_556 dX7_readText_62 ?_
        refine lv_iconst (v := (0 : Int32)) hx hb dX7_readText_65 (by decide +kernel) ?_
        refine r_iald (n := 33) X hP (g7_5_t t0) (by decide +kernel) (j := 0) (by decide +kernel) dX7_readText_66 ?_
        refine lv_bipush (v := (-9 : Int32)) hx hb dX7_readText_67 (by decide +kernel) ?_
        refine lv_icmp_eq (tgt := 81) hx hb dX7_readText_69 (by decide) (fun c_12 => ?_) (fun c_12 => ?_)
        · replace h := ifp c_12 h
          refine lv_aload_n hx hb dX7_readText_81 rfl (lv_at hl 0 rfl) ?_
          refine g7_2 X hP t0 k_553 dX7_readText_82 ?_
          exact r_iret X hr hlk hP hS dX7_readText_85 h
        · replace h := ifn c_12 h
          refine lv_aload_n hx hb dX7_readText_72 rfl (lv_at hl 0 rfl) ?_
          refine lv_bipush (v := (118 : Int32)) hx hb dX7_readText_73 (by decide +kernel) ?_
          obtain ⟨q_13, I_14, hc_15, h⟩ := clP_e h
          refine r_callV (As := [.int (118 : Int32)]) [] X (c7_takes l g hG N _ _ _ t0 _ _ hc_15) cal_X7_takes (im_X7_takes) (se_X7_takes) k_624 (tag_lt t0 (by decide)) (by rw [lay, t0]; rfl) rfl rfl ⟨rfl, rfl⟩ ⟨Nat.le_of_ble_eq_true rfl, Nat.le_of_ble_eq_true rfl⟩ hP hS hl.1 rfl (Nat.le_of_ble_eq_true rfl) dX7_readText_75 ⟨Nat.zero_le _, Nat.zero_le _⟩ (fun H locs hP hS => ?_)
          show W p l e rm7_readText s m args below meth c H locs 0 0 _ (F0 m 78 ls [.int q_13])
          refine lv_if_ne (tgt := 86) hx hb dX7_readText_78 (by decide) (fun c_16 => ?_) (fun c_16 => ?_)
          · replace h := ifn c_16 h
            refine lv_aload_n hx hb dX7_readText_86 rfl (lv_at hl 0 rfl) ?_
            refine g7_5 X hP t0 k_556 dX7_readText_87 ?_
            refine lv_iconst (v := (1 : Int32)) hx hb dX7_readText_90 (by decide +kernel) ?_
            refine lv_aload_n hx hb dX7_readText_91 rfl (lv_at hl 0 rfl) ?_
            refine lv_iconst (v := (3 : Int32)) hx hb dX7_readText_92 (by decide +kernel) ?_
            refine lv_iconst (v := (1 : Int32)) hx hb dX7_readText_93 (by decide +kernel) ?_
            obtain ⟨q_17, I_18, hc_19, h⟩ := clP_e h
            refine r_callV (As := [.int (3 : Int32), .int (1 : Int32)]) [.int (1 : Int32), .ref (ga g (k0 + 4))] X (c7_number l g hG N _ _ _ _ t0 _ _ hc_19) cal_X7_number (im_X7_number) (se_X7_number) k_628 (tag_lt t0 (by decide)) (by rw [lay, t0]; rfl) rfl rfl ⟨rfl, rfl⟩ ⟨Nat.le_of_ble_eq_true rfl, Nat.le_of_ble_eq_true rfl⟩ hP hS hl.1 rfl (Nat.le_of_ble_eq_true rfl) dX7_readText_94 ⟨Nat.zero_le _, Nat.zero_le _⟩ (fun H locs hP hS => ?_)
            show W p l e rm7_readText s m args below meth c H locs 0 0 _ (F0 m 97 ls [.int q_17, .int (1 : Int32), .ref (ga g (k0 + 4))])
            obtain ⟨I_20, eI_20, h⟩ := letM_e h
            refine r_iast (n := 33) X hP hS (g7_5_t t0) (by decide +kernel) (j := 1) (by decide +kernel) eI_20 dX7_readText_97 (fun H locs hP hS => ?_)
            refine lv_aload_n hx hb dX7_readText_98 rfl (lv_at hl 0 rfl) ?_
            refine g7_5 X hP t0 k_556 dX7_readText_99 ?_
            refine lv_iconst (v := (1 : Int32)) hx hb dX7_readText_102 (by decide +kernel) ?_
            refine r_iald (n := 33) X hP (g7_5_t t0) (by decide +kernel) (j := 1) (by decide +kernel) dX7_readText_103 ?_
            refine lv_bipush (v := (-9 : Int32)) hx hb dX7_readText_104 (by decide +kernel) ?_
            refine lv_icmp_ne (tgt := 114) hx hb dX7_readText_106 (by decide) (fun c_21 => ?_) (fun c_21 => ?_)
            · replace h := ifn c_21 h
              exact L7_readText_114 hG N k0 t0 X hr hlk r0 I0 N I_20 h _ _ _ hP hS (lv_sub hl [0] rfl)
            · replace h := ifp c_21 h
              refine lv_aload_n hx hb dX7_readText_109 rfl (lv_at hl 0 rfl) ?_
              refine g7_2 X hP t0 k_553 dX7_readText_110 ?_
              exact r_iret X hr hlk hP hS dX7_readText_113 h
          · replace h := ifp c_16 h
            refine lv_aload_n hx hb dX7_readText_81 rfl (lv_at hl 0 rfl) ?_
            refine g7_2 X hP t0 k_553 dX7_readText_82 ?_
            exact r_iret X hr hlk hP hS dX7_readText_85 h
      · replace h := ifp c_7 h
        refine lv_aload_n hx hb dX7_readText_44 rfl (lv_at hl 0 rfl) ?_
        refine g7_2 X hP t0 k_553 dX7_readText_45 ?_
        exact r_iret X hr hlk hP hS dX7_readText_48 h
    · replace h := ifn c_1 h
      refine lv_aload_n hx hb dX7_readText_8 rfl (lv_at hl 0 rfl) ?_
      refine g7_5 X hP t0 k_556 dX7_readText_9 ?_
      refine lv_iload_n hx hb dX7_readText_12 rfl (lv_at hl 1 rfl) ?_
      refine lv_iconst (v := (0 : Int32)) hx hb dX7_readText_13 (by decide +kernel) ?_
      obtain ⟨g_27, h⟩ := gd_e h
      obtain ⟨I_28, eI_28, h⟩ := letM_e h
      refine r_iast (n := 33) X hP hS (g7_5_t t0) g_27 (j := v1.toNatClampNeg) rfl eI_28 dX7_readText_14 (fun H locs hP hS => ?_)
      obtain ⟨x_29, ex_29, h⟩ := letM_e h
      refine lv_iinc (v := x_29) (lv' := [(1, .int x_29), (0, .ref (ga g k0))]) hx hb dX7_readText_15 hl (k := 1) rfl (by rw [ex_29]; rfl) (by decide) rfl (fun ls hl => ?_)
      refine lv_goto (tgt := 2) hx hb dX7_readText_18 (by decide) ?_
      exact ih I_28 x_29 h _ _ _ hP hS (lv_sub hl [1, 0] rfl)
set_option maxHeartbeats 4000000 in
set_option maxRecDepth 100000 in
theorem c7_readText (l : Launch) (g : GG) (hG : Apart g NT) (N : Nat) (I : Mem) (k0 : Nat) (t0 : tag k0 = 6) (r0 : Int32) (I0 : Mem) (h : f7_readText N I k0 = some (r0, I0)) : Mc l g yX7_readText cX7_readText 2 (some .int) rm7_readText I [.ref (ga g k0)] (some (.int r0)) I0 := by
  refine Mc.of hG (by decide +kernel) (Nat.le_of_ble_eq_true rfl) ?_
  intro p e s m args below meth c ls X hr hlk hP hS hl
  have X : Cx g p s m args c cX7_readText RX7 2 := X
  have hx := X.hx
  have hb := X.hb
  have hl : lv_has ls 2 [(0, .ref (ga g k0))] := hl
  have locs : List Loc := []
  unfold f7_readText at h
  refine lv_iconst (v := (0 : Int32)) hx hb dX7_readText_0 (by decide +kernel) ?_
  refine lv_istore_n (lv' := [(1, .int (0 : Int32)), (0, .ref (ga g k0))]) hx hb dX7_readText_1 rfl hl (by decide) rfl (fun ls hl => ?_)
  exact L7_readText_2 hG N k0 t0 X hr hlk r0 I0 N I (0 : Int32) h _ _ _ hP hS (lv_sub hl [1, 0] rfl)
abbrev rm7_errorPosition : Room := { frames := 5, cells := 0, slots := 0, locals := 115 }
def f7_errorPosition (N : Nat) (I : Mem) (k0 : Nat) : Option (Int32 × Mem) :=
    clP (f7_readText N I k0) (fun (q_1 : Int32) (I_2 : Mem) =>
    some (q_1, I_2))
set_option maxHeartbeats 4000000 in
set_option maxRecDepth 100000 in
theorem c7_errorPosition (l : Launch) (g : GG) (hG : Apart g NT) (N : Nat) (I : Mem) (k0 : Nat) (t0 : tag k0 = 6) (r0 : Int32) (I0 : Mem) (h : f7_errorPosition N I k0 = some (r0, I0)) : Mc l g yX7_errorPosition cX7_errorPosition 1 (some .int) rm7_errorPosition I [.ref (ga g k0)] (some (.int r0)) I0 := by
  refine Mc.of hG (by decide +kernel) (Nat.le_of_ble_eq_true rfl) ?_
  intro p e s m args below meth c ls X hr hlk hP hS hl
  have X : Cx g p s m args c cX7_errorPosition RX7 1 := X
  have hx := X.hx
  have hb := X.hb
  have hl : lv_has ls 1 [(0, .ref (ga g k0))] := hl
  have locs : List Loc := []
  unfold f7_errorPosition at h
  refine lv_aload_n hx hb dX7_errorPosition_0 rfl (lv_at hl 0 rfl) ?_
  obtain ⟨q_1, I_2, hc_3, h⟩ := clP_e h
  refine r_callV (As := []) [] X (c7_readText l g hG N _ _ t0 _ _ hc_3) cal_X7_readText (im_X7_readText) (se_X7_readText) k_620 (tag_lt t0 (by decide)) (by rw [lay, t0]; rfl) rfl rfl ⟨rfl, rfl⟩ ⟨Nat.le_of_ble_eq_true rfl, Nat.le_of_ble_eq_true rfl⟩ hP hS hl.1 rfl (Nat.le_of_ble_eq_true rfl) dX7_errorPosition_1 ⟨Nat.zero_le _, Nat.zero_le _⟩ (fun H locs hP hS => ?_)
  show W p l e rm7_errorPosition s m args below meth c H locs 0 0 _ (F0 m 4 ls [.int q_1])
  exact r_iret X hr hlk hP hS dX7_errorPosition_4 h
abbrev rm7_load : Room := { frames := 5, cells := 0, slots := 0, locals := 115 }
def f7_load (N : Nat) (I : Mem) (k0 : Nat) : Option (Int32 × Mem) :=
    clP (f7_readText N I k0) (fun (q_1 : Int32) (I_2 : Mem) =>
    if q_1 = (-9 : Int32) then
    clM (f7_copy N I_2 (k0 + 4) (k0 + 2)) (fun I_6 : Mem =>
    letM (st I_6 k0 7 (0 : Int32)) (fun I_8 : Mem =>
    letM (st I_8 (k0 + 7) 0 (0 : Int32)) (fun I_9 : Mem =>
    letM (st I_9 (k0 + 7) 1 (0 : Int32)) (fun I_10 : Mem =>
    some ((I_10 (k0 + 2) 5), I_10)))))
    else
    some ((-3 : Int32), I_2))
set_option maxHeartbeats 4000000 in
set_option maxRecDepth 100000 in
theorem c7_load (l : Launch) (g : GG) (hG : Apart g NT) (N : Nat) (I : Mem) (k0 : Nat) (t0 : tag k0 = 6) (r0 : Int32) (I0 : Mem) (h : f7_load N I k0 = some (r0, I0)) : Mc l g yX7_load cX7_load 1 (some .int) rm7_load I [.ref (ga g k0)] (some (.int r0)) I0 := by
  refine Mc.of hG (by decide +kernel) (Nat.le_of_ble_eq_true rfl) ?_
  intro p e s m args below meth c ls X hr hlk hP hS hl
  have X : Cx g p s m args c cX7_load RX7 1 := X
  have hx := X.hx
  have hb := X.hb
  have hl : lv_has ls 1 [(0, .ref (ga g k0))] := hl
  have locs : List Loc := []
  unfold f7_load at h
  refine lv_aload_n hx hb dX7_load_0 rfl (lv_at hl 0 rfl) ?_
  obtain ⟨q_1, I_2, hc_3, h⟩ := clP_e h
  refine r_callV (As := []) [] X (c7_readText l g hG N _ _ t0 _ _ hc_3) cal_X7_readText (im_X7_readText) (se_X7_readText) k_620 (tag_lt t0 (by decide)) (by rw [lay, t0]; rfl) rfl rfl ⟨rfl, rfl⟩ ⟨Nat.le_of_ble_eq_true rfl, Nat.le_of_ble_eq_true rfl⟩ hP hS hl.1 rfl (Nat.le_of_ble_eq_true rfl) dX7_load_1 ⟨Nat.zero_le _, Nat.zero_le _⟩ (fun H locs hP hS => ?_)
  show W p l e rm7_load s m args below meth c H locs 0 0 _ (F0 m 4 ls [.int q_1])
  refine lv_bipush (v := (-9 : Int32)) hx hb dX7_load_4 (by decide +kernel) ?_
  refine lv_icmp_eq (tgt := 12) hx hb dX7_load_6 (by decide) (fun c_4 => ?_) (fun c_4 => ?_)
  · replace h := ifp c_4 h
    refine lv_aload_n hx hb dX7_load_12 rfl (lv_at hl 0 rfl) ?_
    refine g7_5 X hP t0 k_556 dX7_load_13 ?_
    refine lv_aload_n hx hb dX7_load_16 rfl (lv_at hl 0 rfl) ?_
    refine g7_3 X hP t0 k_554 dX7_load_17 ?_
    obtain ⟨I_6, hc_7, h⟩ := clM_e h
    refine r_callS (As := [.ref (ga g (k0 + 4)), .ref (ga g (k0 + 2))]) [] X (c7_copy l g hG N _ _ _ (g7_5_t t0) (g7_3_t t0) _ hc_7) cal_X7_copy (sc_X7_copy) k_648 rfl ⟨rfl, rfl⟩ ⟨Nat.le_of_ble_eq_true rfl, Nat.le_of_ble_eq_true rfl⟩ hP hS hl.1 rfl (Nat.le_of_ble_eq_true rfl) dX7_load_20 ⟨Nat.zero_le _, Nat.zero_le _⟩ (fun H locs hP hS => ?_)
    show W p l e rm7_load s m args below meth c H locs 0 0 _ (F0 m 23 ls [])
    refine lv_aload_n hx hb dX7_load_23 rfl (lv_at hl 0 rfl) ?_
    refine lv_iconst (v := (0 : Int32)) hx hb dX7_load_24 (by decide +kernel) ?_
    obtain ⟨I_8, eI_8, h⟩ := letM_e h
    refine p7_7 X hP hS t0 k_558 eI_8 dX7_load_25 (fun H locs hP hS => ?_)
    refine lv_aload_n hx hb dX7_load_28 rfl (lv_at hl 0 rfl) ?_
    refine g7_10 X hP t0 k_561 dX7_load_29 ?_
    refine lv_iconst (v := (0 : Int32)) hx hb dX7_load_32 (by decide +kernel) ?_
    refine lv_iconst (v := (0 : Int32)) hx hb dX7_load_33 (by decide +kernel) ?_
    obtain ⟨I_9, eI_9, h⟩ := letM_e h
    refine r_bast X hP hS (g7_10_t t0) (by decide +kernel) rfl (j := 0) (by decide +kernel) eI_9 dX7_load_34 (fun H locs hP hS => ?_)
    refine lv_aload_n hx hb dX7_load_35 rfl (lv_at hl 0 rfl) ?_
    refine g7_10 X hP t0 k_561 dX7_load_36 ?_
    refine lv_iconst (v := (1 : Int32)) hx hb dX7_load_39 (by decide +kernel) ?_
    refine lv_iconst (v := (0 : Int32)) hx hb dX7_load_40 (by decide +kernel) ?_
    obtain ⟨I_10, eI_10, h⟩ := letM_e h
    refine r_bast X hP hS (g7_10_t t0) (by decide +kernel) rfl (j := 1) (by decide +kernel) eI_10 dX7_load_41 (fun H locs hP hS => ?_)
    refine lv_aload_n hx hb dX7_load_42 rfl (lv_at hl 0 rfl) ?_
    refine g7_3 X hP t0 k_554 dX7_load_43 ?_
    refine lv_iconst (v := (5 : Int32)) hx hb dX7_load_46 (by decide +kernel) ?_
    refine r_iald (n := 33) X hP (g7_3_t t0) (by decide +kernel) (j := 5) (by decide +kernel) dX7_load_47 ?_
    exact r_iret X hr hlk hP hS dX7_load_48 h
  · replace h := ifn c_4 h
    refine lv_bipush (v := (-3 : Int32)) hx hb dX7_load_9 (by decide +kernel) ?_
    exact r_iret X hr hlk hP hS dX7_load_11 h
abbrev rm7_position : Room := { frames := 1, cells := 0, slots := 0, locals := 25 }
def f7_position (N : Nat) (I : Mem) (k0 : Nat) (a1 : Int32) : Option (Int32 × Mem) :=
    clP (f7_in N I a1.toInt64 (0 : Int64) (1 : Int64)) (fun (q_1 : Int32) (I_2 : Mem) =>
    if q_1 = (0 : Int32) then
    some ((-1 : Int32), I_2)
    else
    if (((2 : Int32) + a1) < (0 : Int32) ∨ 33 ≤ ((2 : Int32) + a1).toNatClampNeg) then none else
    some (((I_2 (k0 + 2) (((2 : Int32) + a1).toNatClampNeg)) + (100000 : Int32)), I_2))
set_option maxHeartbeats 4000000 in
set_option maxRecDepth 100000 in
theorem c7_position (l : Launch) (g : GG) (hG : Apart g NT) (N : Nat) (I : Mem) (k0 : Nat) (a1 : Int32) (t0 : tag k0 = 6) (r0 : Int32) (I0 : Mem) (h : f7_position N I k0 a1 = some (r0, I0)) : Mc l g yX7_position cX7_position 2 (some .int) rm7_position I [.ref (ga g k0), .int a1] (some (.int r0)) I0 := by
  refine Mc.of hG (by decide +kernel) (Nat.le_of_ble_eq_true rfl) ?_
  intro p e s m args below meth c ls X hr hlk hP hS hl
  have X : Cx g p s m args c cX7_position RX7 2 := X
  have hx := X.hx
  have hb := X.hb
  have hl : lv_has ls 2 [(0, .ref (ga g k0)), (1, .int a1)] := hl
  have locs : List Loc := []
  unfold f7_position at h
  refine lv_iload_n hx hb dX7_position_0 rfl (lv_at hl 1 rfl) ?_
  refine lv_i2l (v := a1.toInt64) hx hb dX7_position_1 (by rfl) ?_
  refine lv_lconst (v := (0 : Int64)) hx hb dX7_position_2 (by decide +kernel) ?_
  refine lv_lconst (v := (1 : Int64)) hx hb dX7_position_3 (by decide +kernel) ?_
  obtain ⟨q_1, I_2, hc_3, h⟩ := clP_e h
  refine r_callS (As := [.long a1.toInt64, .long (0 : Int64), .long (1 : Int64)]) [] X (c7_in l g hG N _ _ _ _ _ _ hc_3) cal_X7_in (sc_X7_in) k_609 rfl ⟨rfl, rfl⟩ ⟨Nat.le_of_ble_eq_true rfl, Nat.le_of_ble_eq_true rfl⟩ hP hS hl.1 rfl (Nat.le_of_ble_eq_true rfl) dX7_position_4 ⟨Nat.zero_le _, Nat.zero_le _⟩ (fun H locs hP hS => ?_)
  show W p l e rm7_position s m args below meth c H locs 0 0 _ (F0 m 7 ls [.int q_1])
  refine lv_if_eq (tgt := 24) hx hb dX7_position_7 (by decide) (fun c_4 => ?_) (fun c_4 => ?_)
  · replace h := ifp c_4 h
    refine lv_iconst (v := (-1 : Int32)) hx hb dX7_position_24 (by decide +kernel) ?_
    exact r_iret X hr hlk hP hS dX7_position_25 h
  · replace h := ifn c_4 h
    refine lv_aload_n hx hb dX7_position_10 rfl (lv_at hl 0 rfl) ?_
    refine g7_3 X hP t0 k_554 dX7_position_11 ?_
    refine lv_iconst (v := (2 : Int32)) hx hb dX7_position_14 (by decide +kernel) ?_
    refine lv_iload_n hx hb dX7_position_15 rfl (lv_at hl 1 rfl) ?_
    refine lv_iadd hx hb dX7_position_16 ?_
    obtain ⟨g_5, h⟩ := gd_e h
    refine r_iald (n := 33) X hP (g7_3_t t0) g_5 (j := ((2 : Int32) + a1).toNatClampNeg) rfl dX7_position_17 ?_
    refine lv_ldc (v := (100000 : Int32)) hx hb X.ow (X.hts _ k_655) dX7_position_18 ?_
    refine lv_iadd hx hb dX7_position_20 ?_
    refine lv_goto (tgt := 25) hx hb dX7_position_21 (by decide) ?_
    exact r_iret X hr hlk hP hS dX7_position_25 h
abbrev rm7_clock : Room := { frames := 0, cells := 0, slots := 0, locals := 0 }
def f7_clock (N : Nat) (I : Mem) (k0 : Nat) : Option (Int32 × Mem) :=
    some ((I (k0 + 2) 4), I)
set_option maxHeartbeats 4000000 in
set_option maxRecDepth 100000 in
theorem c7_clock (l : Launch) (g : GG) (hG : Apart g NT) (N : Nat) (I : Mem) (k0 : Nat) (t0 : tag k0 = 6) (r0 : Int32) (I0 : Mem) (h : f7_clock N I k0 = some (r0, I0)) : Mc l g yX7_clock cX7_clock 1 (some .int) rm7_clock I [.ref (ga g k0)] (some (.int r0)) I0 := by
  refine Mc.of hG (by decide +kernel) (Nat.le_of_ble_eq_true rfl) ?_
  intro p e s m args below meth c ls X hr hlk hP hS hl
  have X : Cx g p s m args c cX7_clock RX7 1 := X
  have hx := X.hx
  have hb := X.hb
  have hl : lv_has ls 1 [(0, .ref (ga g k0))] := hl
  have locs : List Loc := []
  unfold f7_clock at h
  refine lv_aload_n hx hb dX7_clock_0 rfl (lv_at hl 0 rfl) ?_
  refine g7_3 X hP t0 k_554 dX7_clock_1 ?_
  refine lv_iconst (v := (4 : Int32)) hx hb dX7_clock_4 (by decide +kernel) ?_
  refine r_iald (n := 33) X hP (g7_3_t t0) (by decide +kernel) (j := 4) (by decide +kernel) dX7_clock_5 ?_
  exact r_iret X hr hlk hP hS dX7_clock_6 h
abbrev rm7_queueLength : Room := { frames := 0, cells := 0, slots := 0, locals := 0 }
def f7_queueLength (N : Nat) (I : Mem) (k0 : Nat) : Option (Int32 × Mem) :=
    some ((I (k0 + 2) 5), I)
set_option maxHeartbeats 4000000 in
set_option maxRecDepth 100000 in
theorem c7_queueLength (l : Launch) (g : GG) (hG : Apart g NT) (N : Nat) (I : Mem) (k0 : Nat) (t0 : tag k0 = 6) (r0 : Int32) (I0 : Mem) (h : f7_queueLength N I k0 = some (r0, I0)) : Mc l g yX7_queueLength cX7_queueLength 1 (some .int) rm7_queueLength I [.ref (ga g k0)] (some (.int r0)) I0 := by
  refine Mc.of hG (by decide +kernel) (Nat.le_of_ble_eq_true rfl) ?_
  intro p e s m args below meth c ls X hr hlk hP hS hl
  have X : Cx g p s m args c cX7_queueLength RX7 1 := X
  have hx := X.hx
  have hb := X.hb
  have hl : lv_has ls 1 [(0, .ref (ga g k0))] := hl
  have locs : List Loc := []
  unfold f7_queueLength at h
  refine lv_aload_n hx hb dX7_queueLength_0 rfl (lv_at hl 0 rfl) ?_
  refine g7_3 X hP t0 k_554 dX7_queueLength_1 ?_
  refine lv_iconst (v := (5 : Int32)) hx hb dX7_queueLength_4 (by decide +kernel) ?_
  refine r_iald (n := 33) X hP (g7_3_t t0) (by decide +kernel) (j := 5) (by decide +kernel) dX7_queueLength_5 ?_
  exact r_iret X hr hlk hP hS dX7_queueLength_6 h
abbrev rm7_lengthOf : Room := { frames := 1, cells := 0, slots := 0, locals := 20 }
def f7_lengthOf (N : Nat) (I : Mem) (k0 : Nat) (a1 : Int32) : Option (Int32 × Mem) :=
    if (((9 : Int32) + ((3 : Int32) * a1)) < (0 : Int32) ∨ 33 ≤ ((9 : Int32) + ((3 : Int32) * a1)).toNatClampNeg) then none else
    clP (f7_abs N I (I k0 (((9 : Int32) + ((3 : Int32) * a1)).toNatClampNeg))) (fun (q_2 : Int32) (I_3 : Mem) =>
    if ((((9 : Int32) + ((3 : Int32) * a1)) + (1 : Int32)) < (0 : Int32) ∨ 33 ≤ (((9 : Int32) + ((3 : Int32) * a1)) + (1 : Int32)).toNatClampNeg) then none else
    clP (f7_abs N I_3 (I_3 k0 ((((9 : Int32) + ((3 : Int32) * a1)) + (1 : Int32)).toNatClampNeg))) (fun (q_6 : Int32) (I_7 : Mem) =>
    if q_2 ≤ q_6 then
    some (q_6, I_7)
    else
    some (q_2, I_7)))
set_option maxHeartbeats 4000000 in
set_option maxRecDepth 100000 in
theorem c7_lengthOf (l : Launch) (g : GG) (hG : Apart g NT) (N : Nat) (I : Mem) (k0 : Nat) (a1 : Int32) (t0 : tag k0 = 43) (r0 : Int32) (I0 : Mem) (h : f7_lengthOf N I k0 a1 = some (r0, I0)) : Mc l g yX7_lengthOf cX7_lengthOf 4 (some .int) rm7_lengthOf I [.ref (ga g k0), .int a1] (some (.int r0)) I0 := by
  refine Mc.of hG (by decide +kernel) (Nat.le_of_ble_eq_true rfl) ?_
  intro p e s m args below meth c ls X hr hlk hP hS hl
  have X : Cx g p s m args c cX7_lengthOf RX7 4 := X
  have hx := X.hx
  have hb := X.hb
  have hl : lv_has ls 4 [(0, .ref (ga g k0)), (1, .int a1)] := hl
  have locs : List Loc := []
  unfold f7_lengthOf at h
  refine lv_aload_n hx hb dX7_lengthOf_0 rfl (lv_at hl 0 rfl) ?_
  refine lv_bipush (v := (9 : Int32)) hx hb dX7_lengthOf_1 (by decide +kernel) ?_
  refine lv_iconst (v := (3 : Int32)) hx hb dX7_lengthOf_3 (by decide +kernel) ?_
  refine lv_iload_n hx hb dX7_lengthOf_4 rfl (lv_at hl 1 rfl) ?_
  refine lv_imul hx hb dX7_lengthOf_5 ?_
  refine lv_iadd hx hb dX7_lengthOf_6 ?_
  obtain ⟨g_1, h⟩ := gd_e h
  refine r_iald (n := 33) X hP t0 g_1 (j := ((9 : Int32) + ((3 : Int32) * a1)).toNatClampNeg) rfl dX7_lengthOf_7 ?_
  obtain ⟨q_2, I_3, hc_4, h⟩ := clP_e h
  refine r_callS (As := [.int (I k0 (((9 : Int32) + ((3 : Int32) * a1)).toNatClampNeg))]) [] X (c7_abs l g hG N _ _ _ _ hc_4) cal_X7_abs (sc_X7_abs) k_674 rfl ⟨rfl, rfl⟩ ⟨Nat.le_of_ble_eq_true rfl, Nat.le_of_ble_eq_true rfl⟩ hP hS hl.1 rfl (Nat.le_of_ble_eq_true rfl) dX7_lengthOf_8 ⟨Nat.zero_le _, Nat.zero_le _⟩ (fun H locs hP hS => ?_)
  show W p l e rm7_lengthOf s m args below meth c H locs 0 0 _ (F0 m 11 ls [.int q_2])
  refine lv_istore_n (lv' := [(2, .int q_2), (0, .ref (ga g k0)), (1, .int a1)]) hx hb dX7_lengthOf_11 rfl hl (by decide) rfl (fun ls hl => ?_)
  refine lv_aload_n hx hb dX7_lengthOf_12 rfl (lv_at hl 1 rfl) ?_
  refine lv_bipush (v := (9 : Int32)) hx hb dX7_lengthOf_13 (by decide +kernel) ?_
  refine lv_iconst (v := (3 : Int32)) hx hb dX7_lengthOf_15 (by decide +kernel) ?_
  refine lv_iload_n hx hb dX7_lengthOf_16 rfl (lv_at hl 2 rfl) ?_
  refine lv_imul hx hb dX7_lengthOf_17 ?_
  refine lv_iadd hx hb dX7_lengthOf_18 ?_
  refine lv_iconst (v := (1 : Int32)) hx hb dX7_lengthOf_19 (by decide +kernel) ?_
  refine lv_iadd hx hb dX7_lengthOf_20 ?_
  obtain ⟨g_5, h⟩ := gd_e h
  refine r_iald (n := 33) X hP t0 g_5 (j := (((9 : Int32) + ((3 : Int32) * a1)) + (1 : Int32)).toNatClampNeg) rfl dX7_lengthOf_21 ?_
  obtain ⟨q_6, I_7, hc_8, h⟩ := clP_e h
  refine r_callS (As := [.int (I_3 k0 ((((9 : Int32) + ((3 : Int32) * a1)) + (1 : Int32)).toNatClampNeg))]) [] X (c7_abs l g hG N _ _ _ _ hc_8) cal_X7_abs (sc_X7_abs) k_674 rfl ⟨rfl, rfl⟩ ⟨Nat.le_of_ble_eq_true rfl, Nat.le_of_ble_eq_true rfl⟩ hP hS hl.1 rfl (Nat.le_of_ble_eq_true rfl) dX7_lengthOf_22 ⟨Nat.zero_le _, Nat.zero_le _⟩ (fun H locs hP hS => ?_)
  show W p l e rm7_lengthOf s m args below meth c H locs 0 0 _ (F0 m 25 ls [.int q_6])
  refine lv_istore_n (lv' := [(3, .int q_6), (2, .int q_2), (0, .ref (ga g k0)), (1, .int a1)]) hx hb dX7_lengthOf_25 rfl hl (by decide) rfl (fun ls hl => ?_)
  refine lv_iload_n hx hb dX7_lengthOf_26 rfl (lv_at hl 1 rfl) ?_
  refine lv_iload_n hx hb dX7_lengthOf_27 rfl (lv_at hl 0 rfl) ?_
  refine lv_icmp_le (tgt := 35) hx hb dX7_lengthOf_28 (by decide) (fun c_9 => ?_) (fun c_9 => ?_)
  · replace h := ifp c_9 h
    refine lv_iload_n hx hb dX7_lengthOf_35 rfl (lv_at hl 0 rfl) ?_
    exact r_iret X hr hlk hP hS dX7_lengthOf_36 h
  · replace h := ifn c_9 h
    refine lv_iload_n hx hb dX7_lengthOf_31 rfl (lv_at hl 1 rfl) ?_
    refine lv_goto (tgt := 36) hx hb dX7_lengthOf_32 (by decide) ?_
    exact r_iret X hr hlk hP hS dX7_lengthOf_36 h
abbrev rm7_isUnderWay : Room := { frames := 0, cells := 0, slots := 0, locals := 0 }
def f7_isUnderWay (N : Nat) (I : Mem) (k0 : Nat) : Option (Int32 × Mem) :=
    if (I k0 7) = (-9 : Int32) then
    some ((0 : Int32), I)
    else
    some ((1 : Int32), I)
set_option maxHeartbeats 4000000 in
set_option maxRecDepth 100000 in
theorem c7_isUnderWay (l : Launch) (g : GG) (hG : Apart g NT) (N : Nat) (I : Mem) (k0 : Nat) (t0 : tag k0 = 43) (r0 : Int32) (I0 : Mem) (h : f7_isUnderWay N I k0 = some (r0, I0)) : Mc l g yX7_isUnderWay cX7_isUnderWay 1 (some .boolean) rm7_isUnderWay I [.ref (ga g k0)] (some (.int r0)) I0 := by
  refine Mc.of hG (by decide +kernel) (Nat.le_of_ble_eq_true rfl) ?_
  intro p e s m args below meth c ls X hr hlk hP hS hl
  have X : Cx g p s m args c cX7_isUnderWay RX7 1 := X
  have hx := X.hx
  have hb := X.hb
  have hl : lv_has ls 1 [(0, .ref (ga g k0))] := hl
  have locs : List Loc := []
  unfold f7_isUnderWay at h
  refine lv_aload_n hx hb dX7_isUnderWay_0 rfl (lv_at hl 0 rfl) ?_
  refine lv_bipush (v := (7 : Int32)) hx hb dX7_isUnderWay_1 (by decide +kernel) ?_
  refine r_iald (n := 33) X hP t0 (by decide +kernel) (j := 7) (by decide +kernel) dX7_isUnderWay_3 ?_
  refine lv_bipush (v := (-9 : Int32)) hx hb dX7_isUnderWay_4 (by decide +kernel) ?_
  refine lv_icmp_eq (tgt := 13) hx hb dX7_isUnderWay_6 (by decide) (fun c_1 => ?_) (fun c_1 => ?_)
  · replace h := ifp c_1 h
    refine lv_iconst (v := (0 : Int32)) hx hb dX7_isUnderWay_13 (by decide +kernel) ?_
    exact r_zret X hr hlk hP hS rfl dX7_isUnderWay_14 h
  · replace h := ifn c_1 h
    refine lv_iconst (v := (1 : Int32)) hx hb dX7_isUnderWay_9 (by decide +kernel) ?_
    refine lv_goto (tgt := 14) hx hb dX7_isUnderWay_10 (by decide) ?_
    exact r_zret X hr hlk hP hS rfl dX7_isUnderWay_14 h
abbrev rm7_itemAt : Room := { frames := 2, cells := 0, slots := 0, locals := 43 }
def f7_itemAt (N : Nat) (I : Mem) (k0 : Nat) (a1 : Int32) : Option (Int32 × Mem) :=
    clP (f7_in N I a1.toInt64 (0 : Int64) ((I (k0 + 2) 5) - (1 : Int32)).toInt64) (fun (q_1 : Int32) (I_2 : Mem) =>
    if q_1 = (0 : Int32) then
    some ((-1 : Int32), I_2)
    else
    if ((((9 : Int32) + ((3 : Int32) * a1)) + (2 : Int32)) < (0 : Int32) ∨ 33 ≤ (((9 : Int32) + ((3 : Int32) * a1)) + (2 : Int32)).toNatClampNeg) then none else
    letM (I_2 (k0 + 2) ((((9 : Int32) + ((3 : Int32) * a1)) + (2 : Int32)).toNatClampNeg)) (fun x_6 : Int32 =>
    if x_6 ≤ (0 : Int32) then
    if a1 = (0 : Int32) then
    clP (f7_isUnderWay N I_2 (k0 + 2)) (fun (q_12 : Int32) (I_13 : Mem) =>
    if q_12 = (0 : Int32) then
    clP (f7_lengthOf N I_13 (k0 + 2) a1) (fun (q_16 : Int32) (I_17 : Mem) =>
    some (q_16, I_17))
    else
    some ((I_13 (k0 + 2) 8), I_13))
    else
    clP (f7_lengthOf N I_2 (k0 + 2) a1) (fun (q_9 : Int32) (I_10 : Mem) =>
    some (q_9, I_10))
    else
    some ((x_6 + (10000 : Int32)), I_2)))
set_option maxHeartbeats 4000000 in
set_option maxRecDepth 100000 in
theorem c7_itemAt (l : Launch) (g : GG) (hG : Apart g NT) (N : Nat) (I : Mem) (k0 : Nat) (a1 : Int32) (t0 : tag k0 = 6) (r0 : Int32) (I0 : Mem) (h : f7_itemAt N I k0 a1 = some (r0, I0)) : Mc l g yX7_itemAt cX7_itemAt 3 (some .int) rm7_itemAt I [.ref (ga g k0), .int a1] (some (.int r0)) I0 := by
  refine Mc.of hG (by decide +kernel) (Nat.le_of_ble_eq_true rfl) ?_
  intro p e s m args below meth c ls X hr hlk hP hS hl
  have X : Cx g p s m args c cX7_itemAt RX7 3 := X
  have hx := X.hx
  have hb := X.hb
  have hl : lv_has ls 3 [(0, .ref (ga g k0)), (1, .int a1)] := hl
  have locs : List Loc := []
  unfold f7_itemAt at h
  refine lv_iload_n hx hb dX7_itemAt_0 rfl (lv_at hl 1 rfl) ?_
  refine lv_i2l (v := a1.toInt64) hx hb dX7_itemAt_1 (by rfl) ?_
  refine lv_lconst (v := (0 : Int64)) hx hb dX7_itemAt_2 (by decide +kernel) ?_
  refine lv_aload_n hx hb dX7_itemAt_3 rfl (lv_at hl 0 rfl) ?_
  refine g7_3 X hP t0 k_554 dX7_itemAt_4 ?_
  refine lv_iconst (v := (5 : Int32)) hx hb dX7_itemAt_7 (by decide +kernel) ?_
  refine r_iald (n := 33) X hP (g7_3_t t0) (by decide +kernel) (j := 5) (by decide +kernel) dX7_itemAt_8 ?_
  refine lv_iconst (v := (1 : Int32)) hx hb dX7_itemAt_9 (by decide +kernel) ?_
  refine lv_isub hx hb dX7_itemAt_10 ?_
  refine lv_i2l (v := ((I (k0 + 2) 5) - (1 : Int32)).toInt64) hx hb dX7_itemAt_11 (by rfl) ?_
  obtain ⟨q_1, I_2, hc_3, h⟩ := clP_e h
  refine r_callS (As := [.long a1.toInt64, .long (0 : Int64), .long ((I (k0 + 2) 5) - (1 : Int32)).toInt64]) [] X (c7_in l g hG N _ _ _ _ _ _ hc_3) cal_X7_in (sc_X7_in) k_609 rfl ⟨rfl, rfl⟩ ⟨Nat.le_of_ble_eq_true rfl, Nat.le_of_ble_eq_true rfl⟩ hP hS hl.1 rfl (Nat.le_of_ble_eq_true rfl) dX7_itemAt_12 ⟨Nat.zero_le _, Nat.zero_le _⟩ (fun H locs hP hS => ?_)
  show W p l e rm7_itemAt s m args below meth c H locs 0 0 _ (F0 m 15 ls [.int q_1])
  refine lv_if_ne (tgt := 20) hx hb dX7_itemAt_15 (by decide) (fun c_4 => ?_) (fun c_4 => ?_)
  · replace h := ifn c_4 h
    refine lv_aload_n hx hb dX7_itemAt_20 rfl (lv_at hl 0 rfl) ?_
    refine g7_3 X hP t0 k_554 dX7_itemAt_21 ?_
    refine lv_bipush (v := (9 : Int32)) hx hb dX7_itemAt_24 (by decide +kernel) ?_
    refine lv_iconst (v := (3 : Int32)) hx hb dX7_itemAt_26 (by decide +kernel) ?_
    refine lv_iload_n hx hb dX7_itemAt_27 rfl (lv_at hl 1 rfl) ?_
    refine lv_imul hx hb dX7_itemAt_28 ?_
    refine lv_iadd hx hb dX7_itemAt_29 ?_
    refine lv_iconst (v := (2 : Int32)) hx hb dX7_itemAt_30 (by decide +kernel) ?_
    refine lv_iadd hx hb dX7_itemAt_31 ?_
    obtain ⟨g_5, h⟩ := gd_e h
    refine r_iald (n := 33) X hP (g7_3_t t0) g_5 (j := (((9 : Int32) + ((3 : Int32) * a1)) + (2 : Int32)).toNatClampNeg) rfl dX7_itemAt_32 ?_
    obtain ⟨x_6, ex_6, h⟩ := letM_e h
    refine r_nmi ex_6 ?_
    refine lv_istore_n (lv' := [(2, .int x_6), (0, .ref (ga g k0)), (1, .int a1)]) hx hb dX7_itemAt_33 rfl hl (by decide) rfl (fun ls hl => ?_)
    refine lv_iload_n hx hb dX7_itemAt_34 rfl (lv_at hl 0 rfl) ?_
    refine lv_if_le (tgt := 46) hx hb dX7_itemAt_35 (by decide) (fun c_7 => ?_) (fun c_7 => ?_)
    · replace h := ifp c_7 h
      refine lv_iload_n hx hb dX7_itemAt_46 rfl (lv_at hl 2 rfl) ?_
      refine lv_if_ne (tgt := 70) hx hb dX7_itemAt_47 (by decide) (fun c_8 => ?_) (fun c_8 => ?_)
      · replace h := ifn c_8 h
        refine lv_aload_n hx hb dX7_itemAt_70 rfl (lv_at hl 1 rfl) ?_
        refine g7_3 X hP t0 k_554 dX7_itemAt_71 ?_
        refine lv_iload_n hx hb dX7_itemAt_74 rfl (lv_at hl 2 rfl) ?_
        obtain ⟨q_9, I_10, hc_11, h⟩ := clP_e h
        refine r_callS (As := [.ref (ga g (k0 + 2)), .int a1]) [] X (c7_lengthOf l g hG N _ _ _ (g7_3_t t0) _ _ hc_11) cal_X7_lengthOf (sc_X7_lengthOf) k_671 rfl ⟨rfl, rfl⟩ ⟨Nat.le_of_ble_eq_true rfl, Nat.le_of_ble_eq_true rfl⟩ hP hS hl.1 rfl (Nat.le_of_ble_eq_true rfl) dX7_itemAt_75 ⟨Nat.zero_le _, Nat.zero_le _⟩ (fun H locs hP hS => ?_)
        show W p l e rm7_itemAt s m args below meth c H locs 0 0 _ (F0 m 78 ls [.int q_9])
        exact r_iret X hr hlk hP hS dX7_itemAt_78 h
      · replace h := ifp c_8 h
        refine lv_aload_n hx hb dX7_itemAt_50 rfl (lv_at hl 1 rfl) ?_
        refine g7_3 X hP t0 k_554 dX7_itemAt_51 ?_
        obtain ⟨q_12, I_13, hc_14, h⟩ := clP_e h
        refine r_callS (As := [.ref (ga g (k0 + 2))]) [] X (c7_isUnderWay l g hG N _ _ (g7_3_t t0) _ _ hc_14) cal_X7_isUnderWay (sc_X7_isUnderWay) k_668 rfl ⟨rfl, rfl⟩ ⟨Nat.le_of_ble_eq_true rfl, Nat.le_of_ble_eq_true rfl⟩ hP hS hl.1 rfl (Nat.le_of_ble_eq_true rfl) dX7_itemAt_54 ⟨Nat.zero_le _, Nat.zero_le _⟩ (fun H locs hP hS => ?_)
        show W p l e rm7_itemAt s m args below meth c H locs 0 0 _ (F0 m 57 ls [.int q_12])
        refine lv_if_eq (tgt := 70) hx hb dX7_itemAt_57 (by decide) (fun c_15 => ?_) (fun c_15 => ?_)
        · replace h := ifp c_15 h
          refine lv_aload_n hx hb dX7_itemAt_70 rfl (lv_at hl 1 rfl) ?_
          refine g7_3 X hP t0 k_554 dX7_itemAt_71 ?_
          refine lv_iload_n hx hb dX7_itemAt_74 rfl (lv_at hl 2 rfl) ?_
          obtain ⟨q_16, I_17, hc_18, h⟩ := clP_e h
          refine r_callS (As := [.ref (ga g (k0 + 2)), .int a1]) [] X (c7_lengthOf l g hG N _ _ _ (g7_3_t t0) _ _ hc_18) cal_X7_lengthOf (sc_X7_lengthOf) k_671 rfl ⟨rfl, rfl⟩ ⟨Nat.le_of_ble_eq_true rfl, Nat.le_of_ble_eq_true rfl⟩ hP hS hl.1 rfl (Nat.le_of_ble_eq_true rfl) dX7_itemAt_75 ⟨Nat.zero_le _, Nat.zero_le _⟩ (fun H locs hP hS => ?_)
          show W p l e rm7_itemAt s m args below meth c H locs 0 0 _ (F0 m 78 ls [.int q_16])
          exact r_iret X hr hlk hP hS dX7_itemAt_78 h
        · replace h := ifn c_15 h
          refine lv_aload_n hx hb dX7_itemAt_60 rfl (lv_at hl 1 rfl) ?_
          refine g7_3 X hP t0 k_554 dX7_itemAt_61 ?_
          refine lv_bipush (v := (8 : Int32)) hx hb dX7_itemAt_64 (by decide +kernel) ?_
          refine r_iald (n := 33) X hP (g7_3_t t0) (by decide +kernel) (j := 8) (by decide +kernel) dX7_itemAt_66 ?_
          refine lv_goto (tgt := 78) hx hb dX7_itemAt_67 (by decide) ?_
          exact r_iret X hr hlk hP hS dX7_itemAt_78 h
    · replace h := ifn c_7 h
      refine lv_iload_n hx hb dX7_itemAt_38 rfl (lv_at hl 0 rfl) ?_
      refine lv_sipush (v := (10000 : Int32)) hx hb dX7_itemAt_39 (by decide +kernel) ?_
      refine lv_iadd hx hb dX7_itemAt_42 ?_
      refine lv_goto (tgt := 78) hx hb dX7_itemAt_43 (by decide) ?_
      exact r_iret X hr hlk hP hS dX7_itemAt_78 h
  · replace h := ifp c_4 h
    refine lv_iconst (v := (-1 : Int32)) hx hb dX7_itemAt_18 (by decide +kernel) ?_
    exact r_iret X hr hlk hP hS dX7_itemAt_19 h
abbrev rm7_rampIndex : Room := { frames := 0, cells := 0, slots := 0, locals := 0 }
def f7_rampIndex (N : Nat) (I : Mem) (k0 : Nat) : Option (Int32 × Mem) :=
    some ((I (k0 + 2) 7), I)
set_option maxHeartbeats 4000000 in
set_option maxRecDepth 100000 in
theorem c7_rampIndex (l : Launch) (g : GG) (hG : Apart g NT) (N : Nat) (I : Mem) (k0 : Nat) (t0 : tag k0 = 6) (r0 : Int32) (I0 : Mem) (h : f7_rampIndex N I k0 = some (r0, I0)) : Mc l g yX7_rampIndex cX7_rampIndex 1 (some .int) rm7_rampIndex I [.ref (ga g k0)] (some (.int r0)) I0 := by
  refine Mc.of hG (by decide +kernel) (Nat.le_of_ble_eq_true rfl) ?_
  intro p e s m args below meth c ls X hr hlk hP hS hl
  have X : Cx g p s m args c cX7_rampIndex RX7 1 := X
  have hx := X.hx
  have hb := X.hb
  have hl : lv_has ls 1 [(0, .ref (ga g k0))] := hl
  have locs : List Loc := []
  unfold f7_rampIndex at h
  refine lv_aload_n hx hb dX7_rampIndex_0 rfl (lv_at hl 0 rfl) ?_
  refine g7_3 X hP t0 k_554 dX7_rampIndex_1 ?_
  refine lv_bipush (v := (7 : Int32)) hx hb dX7_rampIndex_4 (by decide +kernel) ?_
  refine r_iald (n := 33) X hP (g7_3_t t0) (by decide +kernel) (j := 7) (by decide +kernel) dX7_rampIndex_6 ?_
  exact r_iret X hr hlk hP hS dX7_rampIndex_7 h
abbrev rm7_topIndex : Room := { frames := 5, cells := 0, slots := 0, locals := 116 }
def f7_topIndex (N : Nat) (I : Mem) (k0 : Nat) : Option (Int32 × Mem) :=
    clP (f7_fullTop N I k0 (I (k0 + 2) 0) (I (k0 + 2) 1)) (fun (q_1 : Int32) (I_2 : Mem) =>
    some (q_1, I_2))
set_option maxHeartbeats 4000000 in
set_option maxRecDepth 100000 in
theorem c7_topIndex (l : Launch) (g : GG) (hG : Apart g NT) (N : Nat) (I : Mem) (k0 : Nat) (t0 : tag k0 = 6) (r0 : Int32) (I0 : Mem) (h : f7_topIndex N I k0 = some (r0, I0)) : Mc l g yX7_topIndex cX7_topIndex 1 (some .int) rm7_topIndex I [.ref (ga g k0)] (some (.int r0)) I0 := by
  refine Mc.of hG (by decide +kernel) (Nat.le_of_ble_eq_true rfl) ?_
  intro p e s m args below meth c ls X hr hlk hP hS hl
  have X : Cx g p s m args c cX7_topIndex RX7 1 := X
  have hx := X.hx
  have hb := X.hb
  have hl : lv_has ls 1 [(0, .ref (ga g k0))] := hl
  have locs : List Loc := []
  unfold f7_topIndex at h
  refine lv_aload_n hx hb dX7_topIndex_0 rfl (lv_at hl 0 rfl) ?_
  refine lv_aload_n hx hb dX7_topIndex_1 rfl (lv_at hl 0 rfl) ?_
  refine g7_3 X hP t0 k_554 dX7_topIndex_2 ?_
  refine lv_iconst (v := (0 : Int32)) hx hb dX7_topIndex_5 (by decide +kernel) ?_
  refine r_iald (n := 33) X hP (g7_3_t t0) (by decide +kernel) (j := 0) (by decide +kernel) dX7_topIndex_6 ?_
  refine lv_aload_n hx hb dX7_topIndex_7 rfl (lv_at hl 0 rfl) ?_
  refine g7_3 X hP t0 k_554 dX7_topIndex_8 ?_
  refine lv_iconst (v := (1 : Int32)) hx hb dX7_topIndex_11 (by decide +kernel) ?_
  refine r_iald (n := 33) X hP (g7_3_t t0) (by decide +kernel) (j := 1) (by decide +kernel) dX7_topIndex_12 ?_
  obtain ⟨q_1, I_2, hc_3, h⟩ := clP_e h
  refine r_callV (As := [.int (I (k0 + 2) 0), .int (I (k0 + 2) 1)]) [] X (c7_fullTop l g hG N _ _ _ _ t0 _ _ hc_3) cal_X7_fullTop (im_X7_fullTop) (se_X7_fullTop) k_685 (tag_lt t0 (by decide)) (by rw [lay, t0]; rfl) rfl rfl ⟨rfl, rfl⟩ ⟨Nat.le_of_ble_eq_true rfl, Nat.le_of_ble_eq_true rfl⟩ hP hS hl.1 rfl (Nat.le_of_ble_eq_true rfl) dX7_topIndex_13 ⟨Nat.zero_le _, Nat.zero_le _⟩ (fun H locs hP hS => ?_)
  show W p l e rm7_topIndex s m args below meth c H locs 0 0 _ (F0 m 16 ls [.int q_1])
  exact r_iret X hr hlk hP hS dX7_topIndex_16 h
abbrev rm7_interval : Room := { frames := 4, cells := 0, slots := 0, locals := 94 }
def f7_interval (N : Nat) (I : Mem) (k0 : Nat) (a1 : Int32) : Option (Int32 × Mem) :=
    clP (f7_in N I a1.toInt64 (0 : Int64) (999 : Int64)) (fun (q_1 : Int32) (I_2 : Mem) =>
    if q_1 = (0 : Int32) then
    some ((-2 : Int32), I_2)
    else
    clP (f7_intervalOf N I_2 k0 (I_2 (k0 + 2) 0) (I_2 (k0 + 2) 1) a1) (fun (q_5 : Int32) (I_6 : Mem) =>
    some (q_5, I_6)))
set_option maxHeartbeats 4000000 in
set_option maxRecDepth 100000 in
theorem c7_interval (l : Launch) (g : GG) (hG : Apart g NT) (N : Nat) (I : Mem) (k0 : Nat) (a1 : Int32) (t0 : tag k0 = 6) (r0 : Int32) (I0 : Mem) (h : f7_interval N I k0 a1 = some (r0, I0)) : Mc l g yX7_interval cX7_interval 2 (some .int) rm7_interval I [.ref (ga g k0), .int a1] (some (.int r0)) I0 := by
  refine Mc.of hG (by decide +kernel) (Nat.le_of_ble_eq_true rfl) ?_
  intro p e s m args below meth c ls X hr hlk hP hS hl
  have X : Cx g p s m args c cX7_interval RX7 2 := X
  have hx := X.hx
  have hb := X.hb
  have hl : lv_has ls 2 [(0, .ref (ga g k0)), (1, .int a1)] := hl
  have locs : List Loc := []
  unfold f7_interval at h
  refine lv_iload_n hx hb dX7_interval_0 rfl (lv_at hl 1 rfl) ?_
  refine lv_i2l (v := a1.toInt64) hx hb dX7_interval_1 (by rfl) ?_
  refine lv_lconst (v := (0 : Int64)) hx hb dX7_interval_2 (by decide +kernel) ?_
  refine lv_ldc2 (v := (999 : Int64)) hx hb X.ow (X.hts _ k_643) dX7_interval_3 ?_
  obtain ⟨q_1, I_2, hc_3, h⟩ := clP_e h
  refine r_callS (As := [.long a1.toInt64, .long (0 : Int64), .long (999 : Int64)]) [] X (c7_in l g hG N _ _ _ _ _ _ hc_3) cal_X7_in (sc_X7_in) k_609 rfl ⟨rfl, rfl⟩ ⟨Nat.le_of_ble_eq_true rfl, Nat.le_of_ble_eq_true rfl⟩ hP hS hl.1 rfl (Nat.le_of_ble_eq_true rfl) dX7_interval_6 ⟨Nat.zero_le _, Nat.zero_le _⟩ (fun H locs hP hS => ?_)
  show W p l e rm7_interval s m args below meth c H locs 0 0 _ (F0 m 9 ls [.int q_1])
  refine lv_if_eq (tgt := 32) hx hb dX7_interval_9 (by decide) (fun c_4 => ?_) (fun c_4 => ?_)
  · replace h := ifp c_4 h
    refine lv_bipush (v := (-2 : Int32)) hx hb dX7_interval_32 (by decide +kernel) ?_
    exact r_iret X hr hlk hP hS dX7_interval_34 h
  · replace h := ifn c_4 h
    refine lv_aload_n hx hb dX7_interval_12 rfl (lv_at hl 0 rfl) ?_
    refine lv_aload_n hx hb dX7_interval_13 rfl (lv_at hl 0 rfl) ?_
    refine g7_3 X hP t0 k_554 dX7_interval_14 ?_
    refine lv_iconst (v := (0 : Int32)) hx hb dX7_interval_17 (by decide +kernel) ?_
    refine r_iald (n := 33) X hP (g7_3_t t0) (by decide +kernel) (j := 0) (by decide +kernel) dX7_interval_18 ?_
    refine lv_aload_n hx hb dX7_interval_19 rfl (lv_at hl 0 rfl) ?_
    refine g7_3 X hP t0 k_554 dX7_interval_20 ?_
    refine lv_iconst (v := (1 : Int32)) hx hb dX7_interval_23 (by decide +kernel) ?_
    refine r_iald (n := 33) X hP (g7_3_t t0) (by decide +kernel) (j := 1) (by decide +kernel) dX7_interval_24 ?_
    refine lv_iload_n hx hb dX7_interval_25 rfl (lv_at hl 1 rfl) ?_
    obtain ⟨q_5, I_6, hc_7, h⟩ := clP_e h
    refine r_callV (As := [.int (I_2 (k0 + 2) 0), .int (I_2 (k0 + 2) 1), .int a1]) [] X (c7_intervalOf l g hG N _ _ _ _ _ t0 _ _ hc_7) cal_X7_intervalOf (im_X7_intervalOf) (se_X7_intervalOf) k_712 (tag_lt t0 (by decide)) (by rw [lay, t0]; rfl) rfl rfl ⟨rfl, rfl⟩ ⟨Nat.le_of_ble_eq_true rfl, Nat.le_of_ble_eq_true rfl⟩ hP hS hl.1 rfl (Nat.le_of_ble_eq_true rfl) dX7_interval_26 ⟨Nat.zero_le _, Nat.zero_le _⟩ (fun H locs hP hS => ?_)
    show W p l e rm7_interval s m args below meth c H locs 0 0 _ (F0 m 29 ls [.int q_5])
    refine lv_goto (tgt := 34) hx hb dX7_interval_29 (by decide) ?_
    exact r_iret X hr hlk hP hS dX7_interval_34 h
end WALKS
