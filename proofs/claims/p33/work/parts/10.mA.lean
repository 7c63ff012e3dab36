section WALKS
variable {p : Program} {l : Launch} {e : Env} {s : State} {m : MethodId} {args : Array Value} {below : List Frame} {meth : Method} {c : Code} {g : GG}
abbrev rmJ9_floorMod_7cf53 : Room := { frames := 0, cells := 0, slots := 0, locals := 0 }
def fJ9_floorMod_7cf53 (N : Nat) (I : Mem) (a0 : Int32) (a1 : Int32) : Option (Int32 × Mem) :=
    if a1 = (0 : Int32) then none else
    letM (a0 - a0 / a1 * a1) (fun x_2 : Int32 =>
    if (0 : Int32) ≤ (a0 ^^^ a1) then
    some (x_2, I)
    else
    if x_2 = (0 : Int32) then
    some (x_2, I)
    else
    some ((x_2 + a1), I))
set_option maxHeartbeats 4000000 in
set_option maxRecDepth 100000 in
theorem ccJ9_floorMod_7cf53 (l : Launch) (g : GG) (hG : Apart g NT) (N : Nat) (I : Mem) (a0 : Int32) (a1 : Int32) (r0 : Int32) (I0 : Mem) (h : fJ9_floorMod_7cf53 N I a0 a1 = some (r0, I0)) : Mc l g yJ9_floorMod_7cf53 cJ9_floorMod_7cf53 3 (some .int) rmJ9_floorMod_7cf53 I [.int a0, .int a1] (some (.int r0)) I0 := by
  refine Mc.of hG (by decide +kernel) (Nat.le_of_ble_eq_true rfl) ?_
  intro p e s m args below meth c ls X hr hlk hP hS hl
  have X : Cx g p s m args c cJ9_floorMod_7cf53 RJ9 3 := X
  have hx := X.hx
  have hb := X.hb
  have hl : lv_has ls 3 [(0, .int a0), (1, .int a1)] := hl
  have locs : List Loc := []
  unfold fJ9_floorMod_7cf53 at h
  refine lv_iload_n hx hb dJ9_floorMod_7cf53_0 rfl (lv_at hl 0 rfl) ?_
  refine lv_iload_n hx hb dJ9_floorMod_7cf53_1 rfl (lv_at hl 1 rfl) ?_
  obtain ⟨g_1, h⟩ := gd_e h
  refine lv_irem hx hb dJ9_floorMod_7cf53_2 g_1 ?_
  obtain ⟨x_2, ex_2, h⟩ := letM_e h
  refine r_nmi ex_2 ?_
  refine lv_istore_n (lv' := [(2, .int x_2), (0, .int a0), (1, .int a1)]) hx hb dJ9_floorMod_7cf53_3 rfl hl (by decide) rfl (fun ls hl => ?_)
  refine lv_iload_n hx hb dJ9_floorMod_7cf53_4 rfl (lv_at hl 1 rfl) ?_
  refine lv_iload_n hx hb dJ9_floorMod_7cf53_5 rfl (lv_at hl 2 rfl) ?_
  refine lv_ixor hx hb dJ9_floorMod_7cf53_6 ?_
  refine lv_if_ge (tgt := 18) hx hb dJ9_floorMod_7cf53_7 (by decide) (fun c_3 => ?_) (fun c_3 => ?_)
  · replace h := ifp c_3 h
    refine lv_iload_n hx hb dJ9_floorMod_7cf53_18 rfl (lv_at hl 0 rfl) ?_
    exact r_iret X hr hlk hP hS dJ9_floorMod_7cf53_19 h
  · replace h := ifn c_3 h
    refine lv_iload_n hx hb dJ9_floorMod_7cf53_10 rfl (lv_at hl 0 rfl) ?_
    refine lv_if_eq (tgt := 18) hx hb dJ9_floorMod_7cf53_11 (by decide) (fun c_4 => ?_) (fun c_4 => ?_)
    · replace h := ifp c_4 h
      refine lv_iload_n hx hb dJ9_floorMod_7cf53_18 rfl (lv_at hl 0 rfl) ?_
      exact r_iret X hr hlk hP hS dJ9_floorMod_7cf53_19 h
    · replace h := ifn c_4 h
      refine lv_iload_n hx hb dJ9_floorMod_7cf53_14 rfl (lv_at hl 0 rfl) ?_
      refine lv_iload_n hx hb dJ9_floorMod_7cf53_15 rfl (lv_at hl 2 rfl) ?_
      refine lv_iadd hx hb dJ9_floorMod_7cf53_16 ?_
      exact r_iret X hr hlk hP hS dJ9_floorMod_7cf53_17 h
abbrev rmJ9_min_7cf53 : Room := { frames := 0, cells := 0, slots := 0, locals := 0 }
def fJ9_min_7cf53 (N : Nat) (I : Mem) (a0 : Int32) (a1 : Int32) : Option (Int32 × Mem) :=
    if a1 < a0 then
    some (a1, I)
    else
    some (a0, I)
set_option maxHeartbeats 4000000 in
set_option maxRecDepth 100000 in
theorem ccJ9_min_7cf53 (l : Launch) (g : GG) (hG : Apart g NT) (N : Nat) (I : Mem) (a0 : Int32) (a1 : Int32) (r0 : Int32) (I0 : Mem) (h : fJ9_min_7cf53 N I a0 a1 = some (r0, I0)) : Mc l g yJ9_min_7cf53 cJ9_min_7cf53 2 (some .int) rmJ9_min_7cf53 I [.int a0, .int a1] (some (.int r0)) I0 := by
  refine Mc.of hG (by decide +kernel) (Nat.le_of_ble_eq_true rfl) ?_
  intro p e s m args below meth c ls X hr hlk hP hS hl
  have X : Cx g p s m args c cJ9_min_7cf53 RJ9 2 := X
  have hx := X.hx
  have hb := X.hb
  have hl : lv_has ls 2 [(0, .int a0), (1, .int a1)] := hl
  have locs : List Loc := []
  unfold fJ9_min_7cf53 at h
  refine lv_iload_n hx hb dJ9_min_7cf53_0 rfl (lv_at hl 0 rfl) ?_
  refine lv_iload_n hx hb dJ9_min_7cf53_1 rfl (lv_at hl 1 rfl) ?_
  refine lv_icmp_gt (tgt := 9) hx hb dJ9_min_7cf53_2 (by decide) (fun c_1 => ?_) (fun c_1 => ?_)
  · replace h := ifp c_1 h
    refine lv_iload_n hx hb dJ9_min_7cf53_9 rfl (lv_at hl 1 rfl) ?_
    exact r_iret X hr hlk hP hS dJ9_min_7cf53_10 h
  · replace h := ifn c_1 h
    refine lv_iload_n hx hb dJ9_min_7cf53_5 rfl (lv_at hl 0 rfl) ?_
    refine lv_goto (tgt := 10) hx hb dJ9_min_7cf53_6 (by decide) ?_
    exact r_iret X hr hlk hP hS dJ9_min_7cf53_10 h
abbrev rm1_root : Room := { frames := 0, cells := 0, slots := 0, locals := 0 }
def f1_root_29 (N : Nat) (a0 : Int32) (a1 : Int32) (a2 : Int32) : Nat → Mem → Int64 → Int64 → Int32 → Option (Int32 × Mem)
  | 0, _, _, _, _ => none
  | cnt+1, I, w3, w5, v7 =>
    if (64 : Int32) ≤ v7 then
    some (w5.toInt32, I)
    else
    if (lg_cmp w5 (0 : Int64)) ≤ (0 : Int32) then
    some (w5.toInt32, I)
    else
    if w5 = (0 : Int64) then none else
    letM ((w5 + (w3 / w5)) / (2 : Int64)) (fun x_9 : Int64 =>
    if (lg_cmp x_9 w5) < (0 : Int32) then
    letM (v7 + (1 : Int32)) (fun x_11 : Int32 =>
    f1_root_29 N a0 a1 a2 cnt I w3 x_9 x_11)
    else
    some (w5.toInt32, I))
def f1_root (N : Nat) (I : Mem) (a0 : Int32) (a1 : Int32) (a2 : Int32) : Option (Int32 × Mem) :=
    if a0 < (1 : Int32) then
    some ((0 : Int32), I)
    else
    if (1 : Int32) ≤ a1 then
    if a0.toInt64 = (0 : Int64) then none else
    letM (((200000000 : Int64) * a1.toInt64) / a0.toInt64) (fun x_4 : Int64 =>
    letM a2.toInt64 (fun x_5 : Int64 =>
    f1_root_29 N a0 a1 a2 N I x_4 x_5 (0 : Int32)))
    else
    some ((0 : Int32), I)
set_option maxHeartbeats 4000000 in
set_option maxRecDepth 100000 in
theorem L1_root_29 (hG : Apart g NT) (N : Nat) (a0 : Int32) (a1 : Int32) (a2 : Int32) (X : Cx g p s m args c cX1_root RX1 10) (hr : meth.sig.returnType = (some .int)) (hlk : meth.locks = false) (r0 : Int32) (I0 : Mem) : ∀ (cnt : Nat) (I : Mem) (w3 : Int64) (w5 : Int64) (v7 : Int32), f1_root_29 N a0 a1 a2 cnt I w3 w5 v7 = some (r0, I0) → ∀ (H : Heap) (locs : List Loc) (ls : Array Slot), Wp g I H → va_S (gA g) s.heap H locs → lv_has ls 10 [(3, .long w3), (5, .long w5), (7, .int v7)] → W p l e rm1_root s m args below meth c H locs 0 0 (MQ below (Qg g (some (.int r0)) I0) args s 0 0 (gA g)) (F0 m 29 ls []) := by
  have hx := X.hx
  have hb := X.hb
  intro cnt
  induction cnt with
  | zero =>
    intro I w3 w5 v7 h
    rw [f1_root_29] at h
    cases h
  | succ cnt ih =>
    intro I w3 w5 v7 h H locs ls hP hS hl
    rw [f1_root_29] at h
    refine lv_iload hx hb dX1_root_29 (lv_at hl 2 rfl) ?_
    refine lv_bipush (v := (64 : Int32)) hx hb dX1_root_31 (by decide +kernel) ?_
    refine lv_icmp_ge (tgt := 77) hx hb dX1_root_33 (by decide) (fun c_6 => ?_) (fun c_6 => ?_)
    · replace h := ifp c_6 h
      refine lv_lload hx hb dX1_root_77 (lv_at hl 1 rfl) ?_
      refine lv_l2i (v := w5.toInt32) hx hb dX1_root_79 (by rfl) ?_
      exact r_iret X hr hlk hP hS dX1_root_80 h
    · replace h := ifn c_6 h
      refine lv_lload hx hb dX1_root_36 (lv_at hl 1 rfl) ?_
      refine lv_lconst (v := (0 : Int64)) hx hb dX1_root_38 (by decide +kernel) ?_
      refine W.lcmp hx hb dX1_root_39 ?_
      refine lv_if_le (tgt := 77) hx hb dX1_root_40 (by decide) (fun c_7 => ?_) (fun c_7 => ?_)
      · replace h := ifp c_7 h
        refine lv_lload hx hb dX1_root_77 (lv_at hl 1 rfl) ?_
        refine lv_l2i (v := w5.toInt32) hx hb dX1_root_79 (by rfl) ?_
        exact r_iret X hr hlk hP hS dX1_root_80 h
      · replace h := ifn c_7 h
        refine lv_lload hx hb dX1_root_43 (lv_at hl 1 rfl) ?_
        refine lv_lload_n hx hb dX1_root_45 rfl (lv_at hl 0 rfl) ?_
        refine lv_lload hx hb dX1_root_46 (lv_at hl 1 rfl) ?_
        obtain ⟨g_8, h⟩ := gd_e h
        refine lv_ldiv hx hb dX1_root_48 g_8 ?_
        refine lv_ladd hx hb dX1_root_49 ?_
        refine lv_ldc2 (v := (2 : Int64)) hx hb X.ow (X.hts _ k_266) dX1_root_50 ?_
        refine lv_ldiv hx hb dX1_root_53 (by decide) ?_
        obtain ⟨x_9, ex_9, h⟩ := letM_e h
        refine r_nml ex_9 ?_
        refine lv_lstore (lv' := [(8, .long x_9), (3, .long w3), (5, .long w5), (7, .int v7)]) hx hb dX1_root_54 hl (by decide) rfl (fun ls hl => ?_)
        refine lv_lload hx hb dX1_root_56 (lv_at hl 0 rfl) ?_
        refine lv_lload hx hb dX1_root_58 (lv_at hl 2 rfl) ?_
        refine W.lcmp hx hb dX1_root_60 ?_
        refine lv_if_lt (tgt := 67) hx hb dX1_root_61 (by decide) (fun c_10 => ?_) (fun c_10 => ?_)
        · replace h := ifp c_10 h
          refine lv_lload hx hb dX1_root_67 (lv_at hl 0 rfl) ?_
          refine lv_lstore (lv' := [(5, .long x_9), (8, .long x_9), (3, .long w3), (7, .int v7)]) hx hb dX1_root_69 hl (by decide) rfl (fun ls hl => ?_)
          obtain ⟨x_11, ex_11, h⟩ := letM_e h
          refine lv_iinc (v := x_11) (lv' := [(7, .int x_11), (5, .long x_9), (8, .long x_9), (3, .long w3)]) hx hb dX1_root_71 hl (k := 3) rfl (by rw [ex_11]; rfl) (by decide) rfl (fun ls hl => ?_)
          refine lv_goto (tgt := 29) hx hb dX1_root_74 (by decide) ?_
          exact ih I w3 x_9 x_11 h _ _ _ hP hS (lv_sub hl [3, 1, 0] rfl)
        · replace h := ifn c_10 h
          refine lv_goto (tgt := 77) hx hb dX1_root_64 (by decide) ?_
          refine lv_lload hx hb dX1_root_77 (lv_at hl 2 rfl) ?_
          refine lv_l2i (v := w5.toInt32) hx hb dX1_root_79 (by rfl) ?_
          exact r_iret X hr hlk hP hS dX1_root_80 h
set_option maxHeartbeats 4000000 in
set_option maxRecDepth 100000 in
theorem c1_root (l : Launch) (g : GG) (hG : Apart g NT) (N : Nat) (I : Mem) (a0 : Int32) (a1 : Int32) (a2 : Int32) (r0 : Int32) (I0 : Mem) (h : f1_root N I a0 a1 a2 = some (r0, I0)) : Mc l g yX1_root cX1_root 10 (some .int) rm1_root I [.int a0, .int a1, .int a2] (some (.int r0)) I0 := by
  refine Mc.of hG (by decide +kernel) (Nat.le_of_ble_eq_true rfl) ?_
  intro p e s m args below meth c ls X hr hlk hP hS hl
  have X : Cx g p s m args c cX1_root RX1 10 := X
  have hx := X.hx
  have hb := X.hb
  have hl : lv_has ls 10 [(0, .int a0), (1, .int a1), (2, .int a2)] := hl
  have locs : List Loc := []
  unfold f1_root at h
  refine lv_iload_n hx hb dX1_root_0 rfl (lv_at hl 0 rfl) ?_
  refine lv_iconst (v := (1 : Int32)) hx hb dX1_root_1 (by decide +kernel) ?_
  refine lv_icmp_lt (tgt := 10) hx hb dX1_root_2 (by decide) (fun c_1 => ?_) (fun c_1 => ?_)
  · replace h := ifp c_1 h
    refine lv_iconst (v := (0 : Int32)) hx hb dX1_root_10 (by decide +kernel) ?_
    exact r_iret X hr hlk hP hS dX1_root_11 h
  · replace h := ifn c_1 h
    refine lv_iload_n hx hb dX1_root_5 rfl (lv_at hl 1 rfl) ?_
    refine lv_iconst (v := (1 : Int32)) hx hb dX1_root_6 (by decide +kernel) ?_
    refine lv_icmp_ge (tgt := 12) hx hb dX1_root_7 (by decide) (fun c_2 => ?_) (fun c_2 => ?_)
    · replace h := ifp c_2 h
      refine lv_ldc2 (v := (200000000 : Int64)) hx hb X.ow (X.hts _ k_265) dX1_root_12 ?_
      refine lv_iload_n hx hb dX1_root_15 rfl (lv_at hl 1 rfl) ?_
      refine lv_i2l (v := a1.toInt64) hx hb dX1_root_16 (by rfl) ?_
      refine lv_lmul hx hb dX1_root_17 ?_
      refine lv_iload_n hx hb dX1_root_18 rfl (lv_at hl 0 rfl) ?_
      refine lv_i2l (v := a0.toInt64) hx hb dX1_root_19 (by rfl) ?_
      obtain ⟨g_3, h⟩ := gd_e h
      refine lv_ldiv hx hb dX1_root_20 g_3 ?_
      obtain ⟨x_4, ex_4, h⟩ := letM_e h
      refine r_nml ex_4 ?_
      refine lv_lstore_n (lv' := [(3, .long x_4), (0, .int a0), (1, .int a1), (2, .int a2)]) hx hb dX1_root_21 rfl hl (by decide) rfl (fun ls hl => ?_)
      refine lv_iload_n hx hb dX1_root_22 rfl (lv_at hl 3 rfl) ?_
      refine lv_i2l (v := a2.toInt64) hx hb dX1_root_23 (by rfl) ?_
      obtain ⟨x_5, ex_5, h⟩ := letM_e h
      refine r_nml ex_5 ?_
      refine lv_lstore (lv' := [(5, .long x_5), (3, .long x_4), (0, .int a0), (1, .int a1), (2, .int a2)]) hx hb dX1_root_24 hl (by decide) rfl (fun ls hl => ?_)
      refine lv_iconst (v := (0 : Int32)) hx hb dX1_root_26 (by decide +kernel) ?_
      refine lv_istore (lv' := [(7, .int (0 : Int32)), (5, .long x_5), (3, .long x_4), (0, .int a0), (1, .int a1), (2, .int a2)]) hx hb dX1_root_27 hl (by decide) rfl (fun ls hl => ?_)
      exact L1_root_29 hG N a0 a1 a2 X hr hlk r0 I0 N I x_4 x_5 (0 : Int32) h _ _ _ hP hS (lv_sub hl [2, 1, 0] rfl)
    · replace h := ifn c_2 h
      refine lv_iconst (v := (0 : Int32)) hx hb dX1_root_10 (by decide +kernel) ?_
      exact r_iret X hr hlk hP hS dX1_root_11 h
abbrev rm1_rootAfter : Room := { frames := 1, cells := 0, slots := 0, locals := 29 }
def f1_rootAfter (N : Nat) (I : Mem) (a0 : Int32) (a1 : Int32) (a2 : Int32) : Option (Int32 × Mem) :=
    if (1 : Int32) ≤ a1 then
    if ((2 : Int32) * a1) = (0 : Int32) then none else
    letM ((a2 + (1 : Int32)) + ((a2 + (1 : Int32)) / ((2 : Int32) * a1))) (fun x_3 : Int32 =>
    clP (f1_root N I a0 (a1 + (1 : Int32)) x_3) (fun (q_4 : Int32) (I_5 : Mem) =>
    some (q_4, I_5)))
    else
    clP (f1_root N I a0 (a1 + (1 : Int32)) (447214 : Int32)) (fun (q_7 : Int32) (I_8 : Mem) =>
    some (q_7, I_8))
set_option maxHeartbeats 4000000 in
set_option maxRecDepth 100000 in
theorem c1_rootAfter (l : Launch) (g : GG) (hG : Apart g NT) (N : Nat) (I : Mem) (a0 : Int32) (a1 : Int32) (a2 : Int32) (r0 : Int32) (I0 : Mem) (h : f1_rootAfter N I a0 a1 a2 = some (r0, I0)) : Mc l g yX1_rootAfter cX1_rootAfter 4 (some .int) rm1_rootAfter I [.int a0, .int a1, .int a2] (some (.int r0)) I0 := by
  refine Mc.of hG (by decide +kernel) (Nat.le_of_ble_eq_true rfl) ?_
  intro p e s m args below meth c ls X hr hlk hP hS hl
  have X : Cx g p s m args c cX1_rootAfter RX1 4 := X
  have hx := X.hx
  have hb := X.hb
  have hl : lv_has ls 4 [(0, .int a0), (1, .int a1), (2, .int a2)] := hl
  have locs : List Loc := []
  unfold f1_rootAfter at h
  refine lv_iload_n hx hb dX1_rootAfter_0 rfl (lv_at hl 1 rfl) ?_
  refine lv_iconst (v := (1 : Int32)) hx hb dX1_rootAfter_1 (by decide +kernel) ?_
  refine lv_icmp_ge (tgt := 10) hx hb dX1_rootAfter_2 (by decide) (fun c_1 => ?_) (fun c_1 => ?_)
  · replace h := ifp c_1 h
    refine lv_iload_n hx hb dX1_rootAfter_10 rfl (lv_at hl 2 rfl) ?_
    refine lv_iconst (v := (1 : Int32)) hx hb dX1_rootAfter_11 (by decide +kernel) ?_
    refine lv_iadd hx hb dX1_rootAfter_12 ?_
    refine lv_iload_n hx hb dX1_rootAfter_13 rfl (lv_at hl 2 rfl) ?_
    refine lv_iconst (v := (1 : Int32)) hx hb dX1_rootAfter_14 (by decide +kernel) ?_
    refine lv_iadd hx hb dX1_rootAfter_15 ?_
    refine lv_iconst (v := (2 : Int32)) hx hb dX1_rootAfter_16 (by decide +kernel) ?_
    refine lv_iload_n hx hb dX1_rootAfter_17 rfl (lv_at hl 1 rfl) ?_
    refine lv_imul hx hb dX1_rootAfter_18 ?_
    obtain ⟨g_2, h⟩ := gd_e h
    refine lv_idiv hx hb dX1_rootAfter_19 g_2 ?_
    refine lv_iadd hx hb dX1_rootAfter_20 ?_
    obtain ⟨x_3, ex_3, h⟩ := letM_e h
    refine r_nmi ex_3 ?_
    refine lv_istore_n (lv' := [(3, .int x_3), (0, .int a0), (1, .int a1), (2, .int a2)]) hx hb dX1_rootAfter_21 rfl hl (by decide) rfl (fun ls hl => ?_)
    refine lv_iload_n hx hb dX1_rootAfter_22 rfl (lv_at hl 1 rfl) ?_
    refine lv_iload_n hx hb dX1_rootAfter_23 rfl (lv_at hl 2 rfl) ?_
    refine lv_iconst (v := (1 : Int32)) hx hb dX1_rootAfter_24 (by decide +kernel) ?_
    refine lv_iadd hx hb dX1_rootAfter_25 ?_
    refine lv_iload_n hx hb dX1_rootAfter_26 rfl (lv_at hl 0 rfl) ?_
    obtain ⟨q_4, I_5, hc_6, h⟩ := clP_e h
    refine r_callS (As := [.int a0, .int (a1 + (1 : Int32)), .int x_3]) [] X (c1_root l g hG N _ _ _ _ _ _ hc_6) cal_X1_root (sc_X1_root) k_262 rfl ⟨rfl, rfl⟩ ⟨Nat.le_of_ble_eq_true rfl, Nat.le_of_ble_eq_true rfl⟩ hP hS hl.1 rfl (Nat.le_of_ble_eq_true rfl) dX1_rootAfter_27 ⟨Nat.zero_le _, Nat.zero_le _⟩ (fun H locs hP hS => ?_)
    show W p l e rm1_rootAfter s m args below meth c H locs 0 0 _ (F0 m 30 ls [.int q_4])
    exact r_iret X hr hlk hP hS dX1_rootAfter_30 h
  · replace h := ifn c_1 h
    refine lv_ldc (v := (447214 : Int32)) hx hb X.ow (X.hts _ k_261) dX1_rootAfter_5 ?_
    refine lv_goto (tgt := 21) hx hb dX1_rootAfter_7 (by decide) ?_
    refine lv_istore_n (lv' := [(3, .int (447214 : Int32)), (0, .int a0), (1, .int a1), (2, .int a2)]) hx hb dX1_rootAfter_21 rfl hl (by decide) rfl (fun ls hl => ?_)
    refine lv_iload_n hx hb dX1_rootAfter_22 rfl (lv_at hl 1 rfl) ?_
    refine lv_iload_n hx hb dX1_rootAfter_23 rfl (lv_at hl 2 rfl) ?_
    refine lv_iconst (v := (1 : Int32)) hx hb dX1_rootAfter_24 (by decide +kernel) ?_
    refine lv_iadd hx hb dX1_rootAfter_25 ?_
    refine lv_iload_n hx hb dX1_rootAfter_26 rfl (lv_at hl 0 rfl) ?_
    obtain ⟨q_7, I_8, hc_9, h⟩ := clP_e h
    refine r_callS (As := [.int a0, .int (a1 + (1 : Int32)), .int (447214 : Int32)]) [] X (c1_root l g hG N _ _ _ _ _ _ hc_9) cal_X1_root (sc_X1_root) k_262 rfl ⟨rfl, rfl⟩ ⟨Nat.le_of_ble_eq_true rfl, Nat.le_of_ble_eq_true rfl⟩ hP hS hl.1 rfl (Nat.le_of_ble_eq_true rfl) dX1_rootAfter_27 ⟨Nat.zero_le _, Nat.zero_le _⟩ (fun H locs hP hS => ?_)
    show W p l e rm1_rootAfter s m args below meth c H locs 0 0 _ (F0 m 30 ls [.int q_7])
    exact r_iret X hr hlk hP hS dX1_rootAfter_30 h
abbrev rm1_cruiseInterval : Room := { frames := 0, cells := 0, slots := 0, locals := 0 }
def f1_cruiseInterval (N : Nat) (I : Mem) (a0 : Int32) : Option (Int32 × Mem) :=
    if (1 : Int32) ≤ a0 then
    if a0 = (0 : Int32) then none else
    some (((((10000 : Int32) + a0) - (1 : Int32)) / a0), I)
    else
    some ((10000 : Int32), I)
set_option maxHeartbeats 4000000 in
set_option maxRecDepth 100000 in
theorem c1_cruiseInterval (l : Launch) (g : GG) (hG : Apart g NT) (N : Nat) (I : Mem) (a0 : Int32) (r0 : Int32) (I0 : Mem) (h : f1_cruiseInterval N I a0 = some (r0, I0)) : Mc l g yX1_cruiseInterval cX1_cruiseInterval 1 (some .int) rm1_cruiseInterval I [.int a0] (some (.int r0)) I0 := by
  refine Mc.of hG (by decide +kernel) (Nat.le_of_ble_eq_true rfl) ?_
  intro p e s m args below meth c ls X hr hlk hP hS hl
  have X : Cx g p s m args c cX1_cruiseInterval RX1 1 := X
  have hx := X.hx
  have hb := X.hb
  have hl : lv_has ls 1 [(0, .int a0)] := hl
  have locs : List Loc := []
  unfold f1_cruiseInterval at h
  refine lv_iload_n hx hb dX1_cruiseInterval_0 rfl (lv_at hl 0 rfl) ?_
  refine lv_iconst (v := (1 : Int32)) hx hb dX1_cruiseInterval_1 (by decide +kernel) ?_
  refine lv_icmp_ge (tgt := 11) hx hb dX1_cruiseInterval_2 (by decide) (fun c_1 => ?_) (fun c_1 => ?_)
  · replace h := ifp c_1 h
    refine lv_sipush (v := (10000 : Int32)) hx hb dX1_cruiseInterval_11 (by decide +kernel) ?_
    refine lv_iload_n hx hb dX1_cruiseInterval_14 rfl (lv_at hl 0 rfl) ?_
    refine lv_iadd hx hb dX1_cruiseInterval_15 ?_
    refine lv_iconst (v := (1 : Int32)) hx hb dX1_cruiseInterval_16 (by decide +kernel) ?_
    refine lv_isub hx hb dX1_cruiseInterval_17 ?_
    refine lv_iload_n hx hb dX1_cruiseInterval_18 rfl (lv_at hl 0 rfl) ?_
    obtain ⟨g_2, h⟩ := gd_e h
    refine lv_idiv hx hb dX1_cruiseInterval_19 g_2 ?_
    exact r_iret X hr hlk hP hS dX1_cruiseInterval_20 h
  · replace h := ifn c_1 h
    refine lv_sipush (v := (10000 : Int32)) hx hb dX1_cruiseInterval_5 (by decide +kernel) ?_
    refine lv_goto (tgt := 20) hx hb dX1_cruiseInterval_8 (by decide) ?_
    exact r_iret X hr hlk hP hS dX1_cruiseInterval_20 h
abbrev rmJ9_min_f86c9 : Room := { frames := 0, cells := 0, slots := 0, locals := 0 }
def fJ9_min_f86c9 (N : Nat) (I : Mem) (j0 : Int64) (j2 : Int64) : Option (Int64 × Mem) :=
    if (0 : Int32) < (lg_cmp j0 j2) then
    some (j2, I)
    else
    some (j0, I)
set_option maxHeartbeats 4000000 in
set_option maxRecDepth 100000 in
theorem ccJ9_min_f86c9 (l : Launch) (g : GG) (hG : Apart g NT) (N : Nat) (I : Mem) (j0 : Int64) (j2 : Int64) (r0 : Int64) (I0 : Mem) (h : fJ9_min_f86c9 N I j0 j2 = some (r0, I0)) : Mc l g yJ9_min_f86c9 cJ9_min_f86c9 4 (some .long) rmJ9_min_f86c9 I [.long j0, .long j2] (some (.long r0)) I0 := by
  refine Mc.of hG (by decide +kernel) (Nat.le_of_ble_eq_true rfl) ?_
  intro p e s m args below meth c ls X hr hlk hP hS hl
  have X : Cx g p s m args c cJ9_min_f86c9 RJ9 4 := X
  have hx := X.hx
  have hb := X.hb
  have hl : lv_has ls 4 [(0, .long j0), (2, .long j2)] := hl
  have locs : List Loc := []
  unfold fJ9_min_f86c9 at h
  refine lv_lload_n hx hb dJ9_min_f86c9_0 rfl (lv_at hl 0 rfl) ?_
  refine lv_lload_n hx hb dJ9_min_f86c9_1 rfl (lv_at hl 1 rfl) ?_
  refine W.lcmp hx hb dJ9_min_f86c9_2 ?_
  refine lv_if_gt (tgt := 10) hx hb dJ9_min_f86c9_3 (by decide) (fun c_1 => ?_) (fun c_1 => ?_)
  · replace h := ifp c_1 h
    refine lv_lload_n hx hb dJ9_min_f86c9_10 rfl (lv_at hl 1 rfl) ?_
    exact r_lret X hr hlk hP hS dJ9_min_f86c9_11 h
  · replace h := ifn c_1 h
    refine lv_lload_n hx hb dJ9_min_f86c9_6 rfl (lv_at hl 0 rfl) ?_
    refine lv_goto (tgt := 11) hx hb dJ9_min_f86c9_7 (by decide) ?_
    exact r_lret X hr hlk hP hS dJ9_min_f86c9_11 h
abbrev rm1_rampAtLeast : Room := { frames := 1, cells := 0, slots := 0, locals := 23 }
def f1_rampAtLeast (N : Nat) (I : Mem) (a0 : Int32) (a1 : Int32) (a2 : Int32) : Option (Int32 × Mem) :=
    letM ((((4 : Int64) * a0.toInt64) * (a1 + (1 : Int32)).toInt64) * (a1 + (1 : Int32)).toInt64) (fun x_1 : Int64 =>
    if (0 : Int32) ≤ (lg_cmp x_1 (1 : Int64)) then
    if x_1 = (0 : Int64) then none else
    clP (fJ9_min_f86c9 N I a2.toInt64 ((200000000 : Int64) / x_1)) (fun (q_4 : Int64) (I_5 : Mem) =>
    some (q_4.toInt32, I_5))
    else
    some ((0 : Int32), I))
set_option maxHeartbeats 4000000 in
set_option maxRecDepth 100000 in
theorem c1_rampAtLeast (l : Launch) (g : GG) (hG : Apart g NT) (N : Nat) (I : Mem) (a0 : Int32) (a1 : Int32) (a2 : Int32) (r0 : Int32) (I0 : Mem) (h : f1_rampAtLeast N I a0 a1 a2 = some (r0, I0)) : Mc l g yX1_rampAtLeast cX1_rampAtLeast 5 (some .int) rm1_rampAtLeast I [.int a0, .int a1, .int a2] (some (.int r0)) I0 := by
  refine Mc.of hG (by decide +kernel) (Nat.le_of_ble_eq_true rfl) ?_
  intro p e s m args below meth c ls X hr hlk hP hS hl
  have X : Cx g p s m args c cX1_rampAtLeast RX1 5 := X
  have hx := X.hx
  have hb := X.hb
  have hl : lv_has ls 5 [(0, .int a0), (1, .int a1), (2, .int a2)] := hl
  have locs : List Loc := []
  unfold f1_rampAtLeast at h
  refine lv_ldc2 (v := (4 : Int64)) hx hb X.ow (X.hts _ k_277) dX1_rampAtLeast_0 ?_
  refine lv_iload_n hx hb dX1_rampAtLeast_3 rfl (lv_at hl 0 rfl) ?_
  refine lv_i2l (v := a0.toInt64) hx hb dX1_rampAtLeast_4 (by rfl) ?_
  refine lv_lmul hx hb dX1_rampAtLeast_5 ?_
  refine lv_iload_n hx hb dX1_rampAtLeast_6 rfl (lv_at hl 1 rfl) ?_
  refine lv_iconst (v := (1 : Int32)) hx hb dX1_rampAtLeast_7 (by decide +kernel) ?_
  refine lv_iadd hx hb dX1_rampAtLeast_8 ?_
  refine lv_i2l (v := (a1 + (1 : Int32)).toInt64) hx hb dX1_rampAtLeast_9 (by rfl) ?_
  refine lv_lmul hx hb dX1_rampAtLeast_10 ?_
  refine lv_iload_n hx hb dX1_rampAtLeast_11 rfl (lv_at hl 1 rfl) ?_
  refine lv_iconst (v := (1 : Int32)) hx hb dX1_rampAtLeast_12 (by decide +kernel) ?_
  refine lv_iadd hx hb dX1_rampAtLeast_13 ?_
  refine lv_i2l (v := (a1 + (1 : Int32)).toInt64) hx hb dX1_rampAtLeast_14 (by rfl) ?_
  refine lv_lmul hx hb dX1_rampAtLeast_15 ?_
  obtain ⟨x_1, ex_1, h⟩ := letM_e h
  refine r_nml ex_1 ?_
  refine lv_lstore_n (lv' := [(3, .long x_1), (0, .int a0), (1, .int a1), (2, .int a2)]) hx hb dX1_rampAtLeast_16 rfl hl (by decide) rfl (fun ls hl => ?_)
  refine lv_lload_n hx hb dX1_rampAtLeast_17 rfl (lv_at hl 0 rfl) ?_
  refine lv_lconst (v := (1 : Int64)) hx hb dX1_rampAtLeast_18 (by decide +kernel) ?_
  refine W.lcmp hx hb dX1_rampAtLeast_19 ?_
  refine lv_if_ge (tgt := 27) hx hb dX1_rampAtLeast_20 (by decide) (fun c_2 => ?_) (fun c_2 => ?_)
  · replace h := ifp c_2 h
    refine lv_iload_n hx hb dX1_rampAtLeast_27 rfl (lv_at hl 3 rfl) ?_
    refine lv_i2l (v := a2.toInt64) hx hb dX1_rampAtLeast_28 (by rfl) ?_
    refine lv_ldc2 (v := (200000000 : Int64)) hx hb X.ow (X.hts _ k_265) dX1_rampAtLeast_29 ?_
    refine lv_lload_n hx hb dX1_rampAtLeast_32 rfl (lv_at hl 0 rfl) ?_
    obtain ⟨g_3, h⟩ := gd_e h
    refine lv_ldiv hx hb dX1_rampAtLeast_33 g_3 ?_
    obtain ⟨q_4, I_5, hc_6, h⟩ := clP_e h
    refine r_callS (As := [.long a2.toInt64, .long ((200000000 : Int64) / x_1)]) [] X (ccJ9_min_f86c9 l g hG N _ _ _ _ _ hc_6) cal_J9_min_f86c9 (sc_J9_min_f86c9) k_278 rfl ⟨rfl, rfl⟩ ⟨Nat.le_of_ble_eq_true rfl, Nat.le_of_ble_eq_true rfl⟩ hP hS hl.1 rfl (Nat.le_of_ble_eq_true rfl) dX1_rampAtLeast_34 ⟨Nat.zero_le _, Nat.zero_le _⟩ (fun H locs hP hS => ?_)
    show W p l e rm1_rampAtLeast s m args below meth c H locs 0 0 _ (F0 m 37 ls [.long q_4])
    refine lv_l2i (v := q_4.toInt32) hx hb dX1_rampAtLeast_37 (by rfl) ?_
    exact r_iret X hr hlk hP hS dX1_rampAtLeast_38 h
  · replace h := ifn c_2 h
    refine lv_iconst (v := (0 : Int32)) hx hb dX1_rampAtLeast_23 (by decide +kernel) ?_
    refine lv_goto (tgt := 38) hx hb dX1_rampAtLeast_24 (by decide) ?_
    exact r_iret X hr hlk hP hS dX1_rampAtLeast_38 h
abbrev rmJ9_max_7cf53 : Room := { frames := 0, cells := 0, slots := 0, locals := 0 }
def fJ9_max_7cf53 (N : Nat) (I : Mem) (a0 : Int32) (a1 : Int32) : Option (Int32 × Mem) :=
    if a0 < a1 then
    some (a1, I)
    else
    some (a0, I)
set_option maxHeartbeats 4000000 in
set_option maxRecDepth 100000 in
theorem ccJ9_max_7cf53 (l : Launch) (g : GG) (hG : Apart g NT) (N : Nat) (I : Mem) (a0 : Int32) (a1 : Int32) (r0 : Int32) (I0 : Mem) (h : fJ9_max_7cf53 N I a0 a1 = some (r0, I0)) : Mc l g yJ9_max_7cf53 cJ9_max_7cf53 2 (some .int) rmJ9_max_7cf53 I [.int a0, .int a1] (some (.int r0)) I0 := by
  refine Mc.of hG (by decide +kernel) (Nat.le_of_ble_eq_true rfl) ?_
  intro p e s m args below meth c ls X hr hlk hP hS hl
  have X : Cx g p s m args c cJ9_max_7cf53 RJ9 2 := X
  have hx := X.hx
  have hb := X.hb
  have hl : lv_has ls 2 [(0, .int a0), (1, .int a1)] := hl
  have locs : List Loc := []
  unfold fJ9_max_7cf53 at h
  refine lv_iload_n hx hb dJ9_max_7cf53_0 rfl (lv_at hl 0 rfl) ?_
  refine lv_iload_n hx hb dJ9_max_7cf53_1 rfl (lv_at hl 1 rfl) ?_
  refine lv_icmp_lt (tgt := 9) hx hb dJ9_max_7cf53_2 (by decide) (fun c_1 => ?_) (fun c_1 => ?_)
  · replace h := ifp c_1 h
    refine lv_iload_n hx hb dJ9_max_7cf53_9 rfl (lv_at hl 1 rfl) ?_
    exact r_iret X hr hlk hP hS dJ9_max_7cf53_10 h
  · replace h := ifn c_1 h
    refine lv_iload_n hx hb dJ9_max_7cf53_5 rfl (lv_at hl 0 rfl) ?_
    refine lv_goto (tgt := 10) hx hb dJ9_max_7cf53_6 (by decide) ?_
    exact r_iret X hr hlk hP hS dJ9_max_7cf53_10 h
abbrev rm1_ticksOfMove : Room := { frames := 2, cells := 0, slots := 0, locals := 52 }
def f1_ticksOfMove_67 (N : Nat) (a0 : Int32) (a1 : Int32) (a2 : Int32) (I : Mem) (v4 : Int32) (v5 : Int32) (v6 : Int32) : Option (Int32 × Mem) :=
    clP (fJ9_max_7cf53 N I (v6 - v5) a1) (fun (q_12 : Int32) (I_13 : Mem) =>
    some ((((2 : Int32) * v5) + ((a2 - ((2 : Int32) * v4)) * q_12)), I_13))
def f1_ticksOfMove_32 (N : Nat) (a0 : Int32) (a1 : Int32) (a2 : Int32) : Nat → Mem → Int32 → Int32 → Int32 → Int32 → Option (Int32 × Mem)
  | 0, _, _, _, _, _ => none
  | cnt+1, I, v3, v4, v5, v6 =>
    if v3 ≤ v4 then
    f1_ticksOfMove_67 N a0 a1 a2 I v4 v5 v6
    else
    if (v6 - v5) ≤ a1 then
    f1_ticksOfMove_67 N a0 a1 a2 I v4 v5 v6
    else
    letM (v4 + (1 : Int32)) (fun x_16 : Int32 =>
    clP (f1_rootAfter N I a0 x_16 v6) (fun (q_17 : Int32) (I_18 : Mem) =>
    f1_ticksOfMove_32 N a0 a1 a2 cnt I_18 v3 x_16 v6 q_17))
def f1_ticksOfMove (N : Nat) (I : Mem) (a0 : Int32) (a1 : Int32) (a2 : Int32) : Option (Int32 × Mem) :=
    letM (a2 / (2 : Int32)) (fun x_1 : Int32 =>
    clP (f1_rampAtLeast N I a0 a1 x_1) (fun (q_2 : Int32) (I_3 : Mem) =>
    clP (f1_root N I_3 a0 q_2 (447214 : Int32)) (fun (q_5 : Int32) (I_6 : Mem) =>
    clP (f1_rootAfter N I_6 a0 q_2 q_5) (fun (q_8 : Int32) (I_9 : Mem) =>
    f1_ticksOfMove_32 N a0 a1 a2 N I_9 x_1 q_2 q_5 q_8))))
set_option maxHeartbeats 4000000 in
set_option maxRecDepth 100000 in
theorem L1_ticksOfMove_67 (hG : Apart g NT) (N : Nat) (a0 : Int32) (a1 : Int32) (a2 : Int32) (X : Cx g p s m args c cX1_ticksOfMove RX1 7) (hr : meth.sig.returnType = (some .int)) (hlk : meth.locks = false) (r0 : Int32) (I0 : Mem) : ∀ (I : Mem) (v4 : Int32) (v5 : Int32) (v6 : Int32), f1_ticksOfMove_67 N a0 a1 a2 I v4 v5 v6 = some (r0, I0) → ∀ (H : Heap) (locs : List Loc) (ls : Array Slot), Wp g I H → va_S (gA g) s.heap H locs → lv_has ls 7 [(1, .int a1), (2, .int a2), (4, .int v4), (5, .int v5), (6, .int v6)] → W p l e rm1_ticksOfMove s m args below meth c H locs 0 0 (MQ below (Qg g (some (.int r0)) I0) args s 0 0 (gA g)) (F0 m 67 ls []) := by
  have hx := X.hx
  have hb := X.hb
  intro I v4 v5 v6 h H locs ls hP hS hl
  unfold f1_ticksOfMove_67 at h
  refine lv_iconst (v := (2 : Int32)) hx hb dX1_ticksOfMove_67 (by decide +kernel) ?_
  refine lv_iload hx hb dX1_ticksOfMove_68 (lv_at hl 3 rfl) ?_
  refine lv_imul hx hb dX1_ticksOfMove_70 ?_
  refine lv_iload_n hx hb dX1_ticksOfMove_71 rfl (lv_at hl 1 rfl) ?_
  refine lv_iconst (v := (2 : Int32)) hx hb dX1_ticksOfMove_72 (by decide +kernel) ?_
  refine lv_iload hx hb dX1_ticksOfMove_73 (lv_at hl 2 rfl) ?_
  refine lv_imul hx hb dX1_ticksOfMove_75 ?_
  refine lv_isub hx hb dX1_ticksOfMove_76 ?_
  refine lv_iload hx hb dX1_ticksOfMove_77 (lv_at hl 4 rfl) ?_
  refine lv_iload hx hb dX1_ticksOfMove_79 (lv_at hl 3 rfl) ?_
  refine lv_isub hx hb dX1_ticksOfMove_81 ?_
  refine lv_iload_n hx hb dX1_ticksOfMove_82 rfl (lv_at hl 0 rfl) ?_
  obtain ⟨q_12, I_13, hc_14, h⟩ := clP_e h
  refine r_callS (As := [.int (v6 - v5), .int a1]) [.int (a2 - ((2 : Int32) * v4)), .int ((2 : Int32) * v5)] X (ccJ9_max_7cf53 l g hG N _ _ _ _ _ hc_14) cal_J9_max_7cf53 (sc_J9_max_7cf53) k_429 rfl ⟨rfl, rfl⟩ ⟨Nat.le_of_ble_eq_true rfl, Nat.le_of_ble_eq_true rfl⟩ hP hS hl.1 rfl (Nat.le_of_ble_eq_true rfl) dX1_ticksOfMove_83 ⟨Nat.zero_le _, Nat.zero_le _⟩ (fun H locs hP hS => ?_)
  show W p l e rm1_ticksOfMove s m args below meth c H locs 0 0 _ (F0 m 86 ls [.int q_12, .int (a2 - ((2 : Int32) * v4)), .int ((2 : Int32) * v5)])
  refine lv_imul hx hb dX1_ticksOfMove_86 ?_
  refine lv_iadd hx hb dX1_ticksOfMove_87 ?_
  exact r_iret X hr hlk hP hS dX1_ticksOfMove_88 h
set_option maxHeartbeats 4000000 in
set_option maxRecDepth 100000 in
theorem L1_ticksOfMove_32 (hG : Apart g NT) (N : Nat) (a0 : Int32) (a1 : Int32) (a2 : Int32) (X : Cx g p s m args c cX1_ticksOfMove RX1 7) (hr : meth.sig.returnType = (some .int)) (hlk : meth.locks = false) (r0 : Int32) (I0 : Mem) : ∀ (cnt : Nat) (I : Mem) (v3 : Int32) (v4 : Int32) (v5 : Int32) (v6 : Int32), f1_ticksOfMove_32 N a0 a1 a2 cnt I v3 v4 v5 v6 = some (r0, I0) → ∀ (H : Heap) (locs : List Loc) (ls : Array Slot), Wp g I H → va_S (gA g) s.heap H locs → lv_has ls 7 [(0, .int a0), (1, .int a1), (2, .int a2), (3, .int v3), (4, .int v4), (5, .int v5), (6, .int v6)] → W p l e rm1_ticksOfMove s m args below meth c H locs 0 0 (MQ below (Qg g (some (.int r0)) I0) args s 0 0 (gA g)) (F0 m 32 ls []) := by
  have hx := X.hx
  have hb := X.hb
  intro cnt
  induction cnt with
  | zero =>
    intro I v3 v4 v5 v6 h
    rw [f1_ticksOfMove_32] at h
    cases h
  | succ cnt ih =>
    intro I v3 v4 v5 v6 h H locs ls hP hS hl
    rw [f1_ticksOfMove_32] at h
    refine lv_iload hx hb dX1_ticksOfMove_32 (lv_at hl 4 rfl) ?_
    refine lv_iload_n hx hb dX1_ticksOfMove_34 rfl (lv_at hl 3 rfl) ?_
    refine lv_icmp_ge (tgt := 67) hx hb dX1_ticksOfMove_35 (by decide) (fun c_11 => ?_) (fun c_11 => ?_)
    · replace h := ifp c_11 h
      exact L1_ticksOfMove_67 hG N a0 a1 a2 X hr hlk r0 I0 I v4 v5 v6 h _ _ _ hP hS (lv_sub hl [1, 2, 4, 5, 6] rfl)
    · replace h := ifn c_11 h
      refine lv_iload hx hb dX1_ticksOfMove_38 (lv_at hl 6 rfl) ?_
      refine lv_iload hx hb dX1_ticksOfMove_40 (lv_at hl 5 rfl) ?_
      refine lv_isub hx hb dX1_ticksOfMove_42 ?_
      refine lv_iload_n hx hb dX1_ticksOfMove_43 rfl (lv_at hl 1 rfl) ?_
      refine lv_icmp_le (tgt := 67) hx hb dX1_ticksOfMove_44 (by decide) (fun c_15 => ?_) (fun c_15 => ?_)
      · replace h := ifp c_15 h
        exact L1_ticksOfMove_67 hG N a0 a1 a2 X hr hlk r0 I0 I v4 v5 v6 h _ _ _ hP hS (lv_sub hl [1, 2, 4, 5, 6] rfl)
      · replace h := ifn c_15 h
        obtain ⟨x_16, ex_16, h⟩ := letM_e h
        refine lv_iinc (v := x_16) (lv' := [(4, .int x_16), (0, .int a0), (1, .int a1), (2, .int a2), (3, .int v3), (5, .int v5), (6, .int v6)]) hx hb dX1_ticksOfMove_47 hl (k := 4) rfl (by rw [ex_16]; rfl) (by decide) rfl (fun ls hl => ?_)
        refine lv_iload hx hb dX1_ticksOfMove_50 (lv_at hl 6 rfl) ?_
        refine lv_istore (lv' := [(5, .int v6), (4, .int x_16), (0, .int a0), (1, .int a1), (2, .int a2), (3, .int v3), (6, .int v6)]) hx hb dX1_ticksOfMove_52 hl (by decide) rfl (fun ls hl => ?_)
        refine lv_iload_n hx hb dX1_ticksOfMove_54 rfl (lv_at hl 2 rfl) ?_
        refine lv_iload hx hb dX1_ticksOfMove_55 (lv_at hl 1 rfl) ?_
        refine lv_iload hx hb dX1_ticksOfMove_57 (lv_at hl 0 rfl) ?_
        obtain ⟨q_17, I_18, hc_19, h⟩ := clP_e h
        refine r_callS (As := [.int a0, .int x_16, .int v6]) [] X (c1_rootAfter l g hG N _ _ _ _ _ _ hc_19) cal_X1_rootAfter (sc_X1_rootAfter) k_428 rfl ⟨rfl, rfl⟩ ⟨Nat.le_of_ble_eq_true rfl, Nat.le_of_ble_eq_true rfl⟩ hP hS hl.1 rfl (Nat.le_of_ble_eq_true rfl) dX1_ticksOfMove_59 ⟨Nat.zero_le _, Nat.zero_le _⟩ (fun H locs hP hS => ?_)
        show W p l e rm1_ticksOfMove s m args below meth c H locs 0 0 _ (F0 m 62 ls [.int q_17])
        refine lv_istore (lv' := [(6, .int q_17), (5, .int v6), (4, .int x_16), (0, .int a0), (1, .int a1), (2, .int a2), (3, .int v3)]) hx hb dX1_ticksOfMove_62 hl (by decide) rfl (fun ls hl => ?_)
        refine lv_goto (tgt := 32) hx hb dX1_ticksOfMove_64 (by decide) ?_
        exact ih I_18 v3 x_16 v6 q_17 h _ _ _ hP hS (lv_sub hl [3, 4, 5, 6, 2, 1, 0] rfl)
set_option maxHeartbeats 4000000 in
set_option maxRecDepth 100000 in
theorem c1_ticksOfMove (l : Launch) (g : GG) (hG : Apart g NT) (N : Nat) (I : Mem) (a0 : Int32) (a1 : Int32) (a2 : Int32) (r0 : Int32) (I0 : Mem) (h : f1_ticksOfMove N I a0 a1 a2 = some (r0, I0)) : Mc l g yX1_ticksOfMove cX1_ticksOfMove 7 (some .int) rm1_ticksOfMove I [.int a0, .int a1, .int a2] (some (.int r0)) I0 := by
  refine Mc.of hG (by decide +kernel) (Nat.le_of_ble_eq_true rfl) ?_
  intro p e s m args below meth c ls X hr hlk hP hS hl
  have X : Cx g p s m args c cX1_ticksOfMove RX1 7 := X
  have hx := X.hx
  have hb := X.hb
  have hl : lv_has ls 7 [(0, .int a0), (1, .int a1), (2, .int a2)] := hl
  have locs : List Loc := []
  unfold f1_ticksOfMove at h
  refine lv_iload_n hx hb dX1_ticksOfMove_0 rfl (lv_at hl 2 rfl) ?_
  refine lv_iconst (v := (2 : Int32)) hx hb dX1_ticksOfMove_1 (by decide +kernel) ?_
  refine lv_idiv hx hb dX1_ticksOfMove_2 (by decide) ?_
  obtain ⟨x_1, ex_1, h⟩ := letM_e h
  refine r_nmi ex_1 ?_
  refine lv_istore_n (lv' := [(3, .int x_1), (0, .int a0), (1, .int a1), (2, .int a2)]) hx hb dX1_ticksOfMove_3 rfl hl (by decide) rfl (fun ls hl => ?_)
  refine lv_iload_n hx hb dX1_ticksOfMove_4 rfl (lv_at hl 1 rfl) ?_
  refine lv_iload_n hx hb dX1_ticksOfMove_5 rfl (lv_at hl 2 rfl) ?_
  refine lv_iload_n hx hb dX1_ticksOfMove_6 rfl (lv_at hl 0 rfl) ?_
  obtain ⟨q_2, I_3, hc_4, h⟩ := clP_e h
  refine r_callS (As := [.int a0, .int a1, .int x_1]) [] X (c1_rampAtLeast l g hG N _ _ _ _ _ _ hc_4) cal_X1_rampAtLeast (sc_X1_rampAtLeast) k_427 rfl ⟨rfl, rfl⟩ ⟨Nat.le_of_ble_eq_true rfl, Nat.le_of_ble_eq_true rfl⟩ hP hS hl.1 rfl (Nat.le_of_ble_eq_true rfl) dX1_ticksOfMove_7 ⟨Nat.zero_le _, Nat.zero_le _⟩ (fun H locs hP hS => ?_)
  show W p l e rm1_ticksOfMove s m args below meth c H locs 0 0 _ (F0 m 10 ls [.int q_2])
  refine lv_istore (lv' := [(4, .int q_2), (3, .int x_1), (0, .int a0), (1, .int a1), (2, .int a2)]) hx hb dX1_ticksOfMove_10 hl (by decide) rfl (fun ls hl => ?_)
  refine lv_iload_n hx hb dX1_ticksOfMove_12 rfl (lv_at hl 2 rfl) ?_
  refine lv_iload hx hb dX1_ticksOfMove_13 (lv_at hl 0 rfl) ?_
  refine lv_ldc (v := (447214 : Int32)) hx hb X.ow (X.hts _ k_261) dX1_ticksOfMove_15 ?_
  obtain ⟨q_5, I_6, hc_7, h⟩ := clP_e h
  refine r_callS (As := [.int a0, .int q_2, .int (447214 : Int32)]) [] X (c1_root l g hG N _ _ _ _ _ _ hc_7) cal_X1_root (sc_X1_root) k_262 rfl ⟨rfl, rfl⟩ ⟨Nat.le_of_ble_eq_true rfl, Nat.le_of_ble_eq_true rfl⟩ hP hS hl.1 rfl (Nat.le_of_ble_eq_true rfl) dX1_ticksOfMove_17 ⟨Nat.zero_le _, Nat.zero_le _⟩ (fun H locs hP hS => ?_)
  show W p l e rm1_ticksOfMove s m args below meth c H locs 0 0 _ (F0 m 20 ls [.int q_5])
  refine lv_istore (lv' := [(5, .int q_5), (4, .int q_2), (3, .int x_1), (0, .int a0), (1, .int a1), (2, .int a2)]) hx hb dX1_ticksOfMove_20 hl (by decide) rfl (fun ls hl => ?_)
  refine lv_iload_n hx hb dX1_ticksOfMove_22 rfl (lv_at hl 3 rfl) ?_
  refine lv_iload hx hb dX1_ticksOfMove_23 (lv_at hl 1 rfl) ?_
  refine lv_iload hx hb dX1_ticksOfMove_25 (lv_at hl 0 rfl) ?_
  obtain ⟨q_8, I_9, hc_10, h⟩ := clP_e h
  refine r_callS (As := [.int a0, .int q_2, .int q_5]) [] X (c1_rootAfter l g hG N _ _ _ _ _ _ hc_10) cal_X1_rootAfter (sc_X1_rootAfter) k_428 rfl ⟨rfl, rfl⟩ ⟨Nat.le_of_ble_eq_true rfl, Nat.le_of_ble_eq_true rfl⟩ hP hS hl.1 rfl (Nat.le_of_ble_eq_true rfl) dX1_ticksOfMove_27 ⟨Nat.zero_le _, Nat.zero_le _⟩ (fun H locs hP hS => ?_)
  show W p l e rm1_ticksOfMove s m args below meth c H locs 0 0 _ (F0 m 30 ls [.int q_8])
  refine lv_istore (lv' := [(6, .int q_8), (5, .int q_5), (4, .int q_2), (3, .int x_1), (0, .int a0), (1, .int a1), (2, .int a2)]) hx hb dX1_ticksOfMove_30 hl (by decide) rfl (fun ls hl => ?_)
  exact L1_ticksOfMove_32 hG N a0 a1 a2 X hr hlk r0 I0 N I_9 x_1 q_2 q_5 q_8 h _ _ _ hP hS (lv_sub hl [4, 5, 6, 3, 2, 1, 0] rfl)
abbrev rm1_leastCandidate : Room := { frames := 1, cells := 0, slots := 0, locals := 23 }
def f1_leastCandidate (N : Nat) (I : Mem) (a0 : Int32) (a1 : Int32) (a2 : Int32) : Option (Int32 × Mem) :=
    if (1 : Int32) ≤ a0 then
    if ((2 : Int32) * a0).toInt64 = (0 : Int64) then none else
    letM (((a2.toInt64 * (a0 + (1 : Int32)).toInt64) / ((2 : Int32) * a0).toInt64) + (1 : Int64)) (fun x_3 : Int64 =>
    letM (x_3 * x_3) (fun x_4 : Int64 =>
    if (0 : Int32) ≤ (lg_cmp x_4 (1 : Int64)) then
    if x_4 = (0 : Int64) then none else
    clP (fJ9_min_f86c9 N I (999 : Int64) (((200000000 : Int64) * (a1 / (2 : Int32)).toInt64) / x_4)) (fun (q_7 : Int64) (I_8 : Mem) =>
    some ((q_7.toInt32 + (1 : Int32)), I_8))
    else
    some ((1 : Int32), I)))
    else
    some ((1 : Int32), I)
set_option maxHeartbeats 4000000 in
set_option maxRecDepth 100000 in
theorem c1_leastCandidate (l : Launch) (g : GG) (hG : Apart g NT) (N : Nat) (I : Mem) (a0 : Int32) (a1 : Int32) (a2 : Int32) (r0 : Int32) (I0 : Mem) (h : f1_leastCandidate N I a0 a1 a2 = some (r0, I0)) : Mc l g yX1_leastCandidate cX1_leastCandidate 7 (some .int) rm1_leastCandidate I [.int a0, .int a1, .int a2] (some (.int r0)) I0 := by
  refine Mc.of hG (by decide +kernel) (Nat.le_of_ble_eq_true rfl) ?_
  intro p e s m args below meth c ls X hr hlk hP hS hl
  have X : Cx g p s m args c cX1_leastCandidate RX1 7 := X
  have hx := X.hx
  have hb := X.hb
  have hl : lv_has ls 7 [(0, .int a0), (1, .int a1), (2, .int a2)] := hl
  have locs : List Loc := []
  unfold f1_leastCandidate at h
  refine lv_iload_n hx hb dX1_leastCandidate_0 rfl (lv_at hl 0 rfl) ?_
  refine lv_iconst (v := (1 : Int32)) hx hb dX1_leastCandidate_1 (by decide +kernel) ?_
  refine lv_icmp_ge (tgt := 7) hx hb dX1_leastCandidate_2 (by decide) (fun c_1 => ?_) (fun c_1 => ?_)
  · replace h := ifp c_1 h
    refine lv_iload_n hx hb dX1_leastCandidate_7 rfl (lv_at hl 2 rfl) ?_
    refine lv_i2l (v := a2.toInt64) hx hb dX1_leastCandidate_8 (by rfl) ?_
    refine lv_iload_n hx hb dX1_leastCandidate_9 rfl (lv_at hl 0 rfl) ?_
    refine lv_iconst (v := (1 : Int32)) hx hb dX1_leastCandidate_10 (by decide +kernel) ?_
    refine lv_iadd hx hb dX1_leastCandidate_11 ?_
    refine lv_i2l (v := (a0 + (1 : Int32)).toInt64) hx hb dX1_leastCandidate_12 (by rfl) ?_
    refine lv_lmul hx hb dX1_leastCandidate_13 ?_
    refine lv_iconst (v := (2 : Int32)) hx hb dX1_leastCandidate_14 (by decide +kernel) ?_
    refine lv_iload_n hx hb dX1_leastCandidate_15 rfl (lv_at hl 0 rfl) ?_
    refine lv_imul hx hb dX1_leastCandidate_16 ?_
    refine lv_i2l (v := ((2 : Int32) * a0).toInt64) hx hb dX1_leastCandidate_17 (by rfl) ?_
    obtain ⟨g_2, h⟩ := gd_e h
    refine lv_ldiv hx hb dX1_leastCandidate_18 g_2 ?_
    refine lv_lconst (v := (1 : Int64)) hx hb dX1_leastCandidate_19 (by decide +kernel) ?_
    refine lv_ladd hx hb dX1_leastCandidate_20 ?_
    obtain ⟨x_3, ex_3, h⟩ := letM_e h
    refine r_nml ex_3 ?_
    refine lv_lstore_n (lv' := [(3, .long x_3), (0, .int a0), (1, .int a1), (2, .int a2)]) hx hb dX1_leastCandidate_21 rfl hl (by decide) rfl (fun ls hl => ?_)
    refine lv_lload_n hx hb dX1_leastCandidate_22 rfl (lv_at hl 0 rfl) ?_
    refine lv_lload_n hx hb dX1_leastCandidate_23 rfl (lv_at hl 0 rfl) ?_
    refine lv_lmul hx hb dX1_leastCandidate_24 ?_
    obtain ⟨x_4, ex_4, h⟩ := letM_e h
    refine r_nml ex_4 ?_
    refine lv_lstore (lv' := [(5, .long x_4), (3, .long x_3), (0, .int a0), (1, .int a1), (2, .int a2)]) hx hb dX1_leastCandidate_25 hl (by decide) rfl (fun ls hl => ?_)
    refine lv_lload hx hb dX1_leastCandidate_27 (lv_at hl 0 rfl) ?_
    refine lv_lconst (v := (1 : Int64)) hx hb dX1_leastCandidate_29 (by decide +kernel) ?_
    refine W.lcmp hx hb dX1_leastCandidate_30 ?_
    refine lv_if_ge (tgt := 38) hx hb dX1_leastCandidate_31 (by decide) (fun c_5 => ?_) (fun c_5 => ?_)
    · replace h := ifp c_5 h
      refine lv_ldc2 (v := (999 : Int64)) hx hb X.ow (X.hts _ k_423) dX1_leastCandidate_38 ?_
      refine lv_ldc2 (v := (200000000 : Int64)) hx hb X.ow (X.hts _ k_265) dX1_leastCandidate_41 ?_
      refine lv_iload_n hx hb dX1_leastCandidate_44 rfl (lv_at hl 3 rfl) ?_
      refine lv_iconst (v := (2 : Int32)) hx hb dX1_leastCandidate_45 (by decide +kernel) ?_
      refine lv_idiv hx hb dX1_leastCandidate_46 (by decide) ?_
      refine lv_i2l (v := (a1 / (2 : Int32)).toInt64) hx hb dX1_leastCandidate_47 (by rfl) ?_
      refine lv_lmul hx hb dX1_leastCandidate_48 ?_
      refine lv_lload hx hb dX1_leastCandidate_49 (lv_at hl 0 rfl) ?_
      obtain ⟨g_6, h⟩ := gd_e h
      refine lv_ldiv hx hb dX1_leastCandidate_51 g_6 ?_
      obtain ⟨q_7, I_8, hc_9, h⟩ := clP_e h
      refine r_callS (As := [.long (999 : Int64), .long (((200000000 : Int64) * (a1 / (2 : Int32)).toInt64) / x_4)]) [] X (ccJ9_min_f86c9 l g hG N _ _ _ _ _ hc_9) cal_J9_min_f86c9 (sc_J9_min_f86c9) k_278 rfl ⟨rfl, rfl⟩ ⟨Nat.le_of_ble_eq_true rfl, Nat.le_of_ble_eq_true rfl⟩ hP hS hl.1 rfl (Nat.le_of_ble_eq_true rfl) dX1_leastCandidate_52 ⟨Nat.zero_le _, Nat.zero_le _⟩ (fun H locs hP hS => ?_)
      show W p l e rm1_leastCandidate s m args below meth c H locs 0 0 _ (F0 m 55 ls [.long q_7])
      refine lv_l2i (v := q_7.toInt32) hx hb dX1_leastCandidate_55 (by rfl) ?_
      refine lv_iconst (v := (1 : Int32)) hx hb dX1_leastCandidate_56 (by decide +kernel) ?_
      refine lv_iadd hx hb dX1_leastCandidate_57 ?_
      exact r_iret X hr hlk hP hS dX1_leastCandidate_58 h
    · replace h := ifn c_5 h
      refine lv_iconst (v := (1 : Int32)) hx hb dX1_leastCandidate_34 (by decide +kernel) ?_
      refine lv_goto (tgt := 58) hx hb dX1_leastCandidate_35 (by decide) ?_
      exact r_iret X hr hlk hP hS dX1_leastCandidate_58 h
  · replace h := ifn c_1 h
    refine lv_iconst (v := (1 : Int32)) hx hb dX1_leastCandidate_5 (by decide +kernel) ?_
    exact r_iret X hr hlk hP hS dX1_leastCandidate_6 h
abbrev rm2_fillRoots : Room := { frames := 2, cells := 0, slots := 0, locals := 52 }
def f2_fillRoots_2 (N : Nat) (k0 : Nat) : Nat → Mem → Int32 → Option (Mem)
  | 0, _, _ => none
  | cnt+1, I, v1 =>
    if (1001 : Int32) ≤ (v1 + (1 : Int32)) then
    some I
    else
    if (v1 < (0 : Int32) ∨ 1001 ≤ v1.toNatClampNeg) then none else
    clP (f1_rootAfter N I (I k0 0) v1 (I (k0 + 1) (v1.toNatClampNeg))) (fun (q_3 : Int32) (I_4 : Mem) =>
    if ((v1 + (1 : Int32)) < (0 : Int32) ∨ 1001 ≤ (v1 + (1 : Int32)).toNatClampNeg) then none else
    letM (st I_4 (k0 + 1) ((v1 + (1 : Int32)).toNatClampNeg) q_3) (fun I_7 : Mem =>
    letM (v1 + (1 : Int32)) (fun x_8 : Int32 =>
    f2_fillRoots_2 N k0 cnt I_7 x_8)))
def f2_fillRoots (N : Nat) (I : Mem) (k0 : Nat) : Option (Mem) :=
    f2_fillRoots_2 N k0 N I (0 : Int32)
set_option maxHeartbeats 4000000 in
set_option maxRecDepth 100000 in
theorem L2_fillRoots_2 (hG : Apart g NT) (N : Nat) (k0 : Nat) (t0 : tag k0 = 1) (X : Cx g p s m args c cX2_fillRoots RX2 2) (hr : meth.sig.returnType = none) (hlk : meth.locks = false) (I0 : Mem) : ∀ (cnt : Nat) (I : Mem) (v1 : Int32), f2_fillRoots_2 N k0 cnt I v1 = some I0 → ∀ (H : Heap) (locs : List Loc) (ls : Array Slot), Wp g I H → va_S (gA g) s.heap H locs → lv_has ls 2 [(0, .ref (ga g k0)), (1, .int v1)] → W p l e rm2_fillRoots s m args below meth c H locs 0 0 (MQ below (Qg g none I0) args s 0 0 (gA g)) (F0 m 2 ls []) := by
  have hx := X.hx
  have hb := X.hb
  intro cnt
  induction cnt with
  | zero =>
    intro I v1 h
    rw [f2_fillRoots_2] at h
    cases h
  | succ cnt ih =>
    intro I v1 h H locs ls hP hS hl
    rw [f2_fillRoots_2] at h
    refine lv_iload_n hx hb dX2_fillRoots_2 rfl (lv_at hl 1 rfl) ?_
    refine lv_iconst (v := (1 : Int32)) hx hb dX2_fillRoots_3 (by decide +kernel) ?_
    refine lv_iadd hx hb dX2_fillRoots_4 ?_
    refine lv_aload_n hx hb dX2_fillRoots_5 rfl (lv_at hl 0 rfl) ?_
    refine g2_4 X hP t0 k_142 dX2_fillRoots_6 ?_
    refine r_alen (n := 1001) (v := (1001 : Int32)) X hP (g2_4_t t0) (by decide +kernel) dX2_fillRoots_9 ?_
    refine lv_icmp_ge (tgt := 41) hx hb dX2_fillRoots_10 (by decide) (fun c_1 => ?_) (fun c_1 => ?_)
    · replace h := ifp c_1 h
      exact r_vret X hr hlk hP hS dX2_fillRoots_41 h
    · replace h := ifn c_1 h
      refine lv_aload_n hx hb dX2_fillRoots_13 rfl (lv_at hl 0 rfl) ?_
      refine g2_4 X hP t0 k_142 dX2_fillRoots_14 ?_
      refine lv_iload_n hx hb dX2_fillRoots_17 rfl (lv_at hl 1 rfl) ?_
      refine lv_iconst (v := (1 : Int32)) hx hb dX2_fillRoots_18 (by decide +kernel) ?_
      refine lv_iadd hx hb dX2_fillRoots_19 ?_
      refine lv_aload_n hx hb dX2_fillRoots_20 rfl (lv_at hl 0 rfl) ?_
      refine g2_0 X hP t0 k_136 dX2_fillRoots_21 ?_
      refine lv_iload_n hx hb dX2_fillRoots_24 rfl (lv_at hl 1 rfl) ?_
      refine lv_aload_n hx hb dX2_fillRoots_25 rfl (lv_at hl 0 rfl) ?_
      refine g2_4 X hP t0 k_142 dX2_fillRoots_26 ?_
      refine lv_iload_n hx hb dX2_fillRoots_29 rfl (lv_at hl 1 rfl) ?_
      obtain ⟨g_2, h⟩ := gd_e h
      refine r_iald (n := 1001) X hP (g2_4_t t0) g_2 (j := v1.toNatClampNeg) rfl dX2_fillRoots_30 ?_
      obtain ⟨q_3, I_4, hc_5, h⟩ := clP_e h
      refine r_callS (As := [.int (I k0 0), .int v1, .int (I (k0 + 1) (v1.toNatClampNeg))]) [.int (v1 + (1 : Int32)), .ref (ga g (k0 + 1))] X (c1_rootAfter l g hG N _ _ _ _ _ _ hc_5) cal_X1_rootAfter (sc_X1_rootAfter) k_258 rfl ⟨rfl, rfl⟩ ⟨Nat.le_of_ble_eq_true rfl, Nat.le_of_ble_eq_true rfl⟩ hP hS hl.1 rfl (Nat.le_of_ble_eq_true rfl) dX2_fillRoots_31 ⟨Nat.zero_le _, Nat.zero_le _⟩ (fun H locs hP hS => ?_)
      show W p l e rm2_fillRoots s m args below meth c H locs 0 0 _ (F0 m 34 ls [.int q_3, .int (v1 + (1 : Int32)), .ref (ga g (k0 + 1))])
      obtain ⟨g_6, h⟩ := gd_e h
      obtain ⟨I_7, eI_7, h⟩ := letM_e h
      refine r_iast (n := 1001) X hP hS (g2_4_t t0) g_6 (j := (v1 + (1 : Int32)).toNatClampNeg) rfl eI_7 dX2_fillRoots_34 (fun H locs hP hS => ?_)
      obtain ⟨x_8, ex_8, h⟩ := letM_e h
      refine lv_iinc (v := x_8) (lv' := [(1, .int x_8), (0, .ref (ga g k0))]) hx hb dX2_fillRoots_35 hl (k := 1) rfl (by rw [ex_8]; rfl) (by decide) rfl (fun ls hl => ?_)
      refine lv_goto (tgt := 2) hx hb dX2_fillRoots_38 (by decide) ?_
      exact ih I_7 x_8 h _ _ _ hP hS (lv_sub hl [1, 0] rfl)
set_option maxHeartbeats 4000000 in
set_option maxRecDepth 100000 in
theorem c2_fillRoots (l : Launch) (g : GG) (hG : Apart g NT) (N : Nat) (I : Mem) (k0 : Nat) (t0 : tag k0 = 1) (I0 : Mem) (h : f2_fillRoots N I k0 = some I0) : Mc l g yX2_fillRoots cX2_fillRoots 2 none rm2_fillRoots I [.ref (ga g k0)] none I0 := by
  refine Mc.of hG (by decide +kernel) (Nat.le_of_ble_eq_true rfl) ?_
  intro p e s m args below meth c ls X hr hlk hP hS hl
  have X : Cx g p s m args c cX2_fillRoots RX2 2 := X
  have hx := X.hx
  have hb := X.hb
  have hl : lv_has ls 2 [(0, .ref (ga g k0))] := hl
  have locs : List Loc := []
  unfold f2_fillRoots at h
  refine lv_iconst (v := (0 : Int32)) hx hb dX2_fillRoots_0 (by decide +kernel) ?_
  refine lv_istore_n (lv' := [(1, .int (0 : Int32)), (0, .ref (ga g k0))]) hx hb dX2_fillRoots_1 rfl hl (by decide) rfl (fun ls hl => ?_)
  exact L2_fillRoots_2 hG N k0 t0 X hr hlk I0 N I (0 : Int32) h _ _ _ hP hS (lv_sub hl [1, 0] rfl)
abbrev rm2_rampInterval : Room := { frames := 0, cells := 0, slots := 0, locals := 0 }
def f2_rampInterval (N : Nat) (I : Mem) (k0 : Nat) (a1 : Int32) : Option (Int32 × Mem) :=
    if a1 < (0 : Int32) then
    some ((0 : Int32), I)
    else
    if (a1 + (1 : Int32)) < (1001 : Int32) then
    if ((a1 + (1 : Int32)) < (0 : Int32) ∨ 1001 ≤ (a1 + (1 : Int32)).toNatClampNeg) then none else
    if (a1 < (0 : Int32) ∨ 1001 ≤ a1.toNatClampNeg) then none else
    some (((I (k0 + 1) ((a1 + (1 : Int32)).toNatClampNeg)) - (I (k0 + 1) (a1.toNatClampNeg))), I)
    else
    some ((0 : Int32), I)
set_option maxHeartbeats 4000000 in
set_option maxRecDepth 100000 in
theorem c2_rampInterval (l : Launch) (g : GG) (hG : Apart g NT) (N : Nat) (I : Mem) (k0 : Nat) (a1 : Int32) (t0 : tag k0 = 1) (r0 : Int32) (I0 : Mem) (h : f2_rampInterval N I k0 a1 = some (r0, I0)) : Mc l g yX2_rampInterval cX2_rampInterval 2 (some .int) rm2_rampInterval I [.ref (ga g k0), .int a1] (some (.int r0)) I0 := by
  refine Mc.of hG (by decide +kernel) (Nat.le_of_ble_eq_true rfl) ?_
  intro p e s m args below meth c ls X hr hlk hP hS hl
  have X : Cx g p s m args c cX2_rampInterval RX2 2 := X
  have hx := X.hx
  have hb := X.hb
  have hl : lv_has ls 2 [(0, .ref (ga g k0)), (1, .int a1)] := hl
  have locs : List Loc := []
  unfold f2_rampInterval at h
  refine lv_iload_n hx hb dX2_rampInterval_0 rfl (lv_at hl 1 rfl) ?_
  refine lv_if_lt (tgt := 15) hx hb dX2_rampInterval_1 (by decide) (fun c_1 => ?_) (fun c_1 => ?_)
  · replace h := ifp c_1 h
    refine lv_iconst (v := (0 : Int32)) hx hb dX2_rampInterval_15 (by decide +kernel) ?_
    refine lv_goto (tgt := 34) hx hb dX2_rampInterval_16 (by decide) ?_
    exact r_iret X hr hlk hP hS dX2_rampInterval_34 h
  · replace h := ifn c_1 h
    refine lv_iload_n hx hb dX2_rampInterval_4 rfl (lv_at hl 1 rfl) ?_
    refine lv_iconst (v := (1 : Int32)) hx hb dX2_rampInterval_5 (by decide +kernel) ?_
    refine lv_iadd hx hb dX2_rampInterval_6 ?_
    refine lv_aload_n hx hb dX2_rampInterval_7 rfl (lv_at hl 0 rfl) ?_
    refine g2_4 X hP t0 k_142 dX2_rampInterval_8 ?_
    refine r_alen (n := 1001) (v := (1001 : Int32)) X hP (g2_4_t t0) (by decide +kernel) dX2_rampInterval_11 ?_
    refine lv_icmp_lt (tgt := 19) hx hb dX2_rampInterval_12 (by decide) (fun c_2 => ?_) (fun c_2 => ?_)
    · replace h := ifp c_2 h
      refine lv_aload_n hx hb dX2_rampInterval_19 rfl (lv_at hl 0 rfl) ?_
      refine g2_4 X hP t0 k_142 dX2_rampInterval_20 ?_
      refine lv_iload_n hx hb dX2_rampInterval_23 rfl (lv_at hl 1 rfl) ?_
      refine lv_iconst (v := (1 : Int32)) hx hb dX2_rampInterval_24 (by decide +kernel) ?_
      refine lv_iadd hx hb dX2_rampInterval_25 ?_
      obtain ⟨g_3, h⟩ := gd_e h
      refine r_iald (n := 1001) X hP (g2_4_t t0) g_3 (j := (a1 + (1 : Int32)).toNatClampNeg) rfl dX2_rampInterval_26 ?_
      refine lv_aload_n hx hb dX2_rampInterval_27 rfl (lv_at hl 0 rfl) ?_
      refine g2_4 X hP t0 k_142 dX2_rampInterval_28 ?_
      refine lv_iload_n hx hb dX2_rampInterval_31 rfl (lv_at hl 1 rfl) ?_
      obtain ⟨g_4, h⟩ := gd_e h
      refine r_iald (n := 1001) X hP (g2_4_t t0) g_4 (j := a1.toNatClampNeg) rfl dX2_rampInterval_32 ?_
      refine lv_isub hx hb dX2_rampInterval_33 ?_
      exact r_iret X hr hlk hP hS dX2_rampInterval_34 h
    · replace h := ifn c_2 h
      refine lv_iconst (v := (0 : Int32)) hx hb dX2_rampInterval_15 (by decide +kernel) ?_
      refine lv_goto (tgt := 34) hx hb dX2_rampInterval_16 (by decide) ?_
      exact r_iret X hr hlk hP hS dX2_rampInterval_34 h
abbrev rm2_findTop : Room := { frames := 2, cells := 0, slots := 0, locals := 47 }
def f2_findTop_15 (N : Nat) (k0 : Nat) : Nat → Mem → Int32 → Option (Int32 × Mem)
  | 0, _, _ => none
  | cnt+1, I, v1 =>
    if (999 : Int32) ≤ v1 then
    some (v1, I)
    else
    clP (f2_rampInterval N I k0 v1) (fun (q_5 : Int32) (I_6 : Mem) =>
    if q_5 ≤ (I_6 k0 2) then
    some (v1, I_6)
    else
    letM (v1 + (1 : Int32)) (fun x_9 : Int32 =>
    f2_findTop_15 N k0 cnt I_6 x_9))
def f2_findTop (N : Nat) (I : Mem) (k0 : Nat) : Option (Int32 × Mem) :=
    clP (f1_rampAtLeast N I (I k0 0) (I k0 2) (999 : Int32)) (fun (q_1 : Int32) (I_2 : Mem) =>
    f2_findTop_15 N k0 N I_2 q_1)
set_option maxHeartbeats 4000000 in
set_option maxRecDepth 100000 in
theorem L2_findTop_15 (hG : Apart g NT) (N : Nat) (k0 : Nat) (t0 : tag k0 = 1) (X : Cx g p s m args c cX2_findTop RX2 2) (hr : meth.sig.returnType = (some .int)) (hlk : meth.locks = false) (r0 : Int32) (I0 : Mem) : ∀ (cnt : Nat) (I : Mem) (v1 : Int32), f2_findTop_15 N k0 cnt I v1 = some (r0, I0) → ∀ (H : Heap) (locs : List Loc) (ls : Array Slot), Wp g I H → va_S (gA g) s.heap H locs → lv_has ls 2 [(0, .ref (ga g k0)), (1, .int v1)] → W p l e rm2_findTop s m args below meth c H locs 0 0 (MQ below (Qg g (some (.int r0)) I0) args s 0 0 (gA g)) (F0 m 15 ls []) := by
  have hx := X.hx
  have hb := X.hb
  intro cnt
  induction cnt with
  | zero =>
    intro I v1 h
    rw [f2_findTop_15] at h
    cases h
  | succ cnt ih =>
    intro I v1 h H locs ls hP hS hl
    rw [f2_findTop_15] at h
    refine lv_iload_n hx hb dX2_findTop_15 rfl (lv_at hl 1 rfl) ?_
    refine lv_sipush (v := (999 : Int32)) hx hb dX2_findTop_16 (by decide +kernel) ?_
    refine lv_icmp_ge (tgt := 40) hx hb dX2_findTop_19 (by decide) (fun c_4 => ?_) (fun c_4 => ?_)
    · replace h := ifp c_4 h
      refine lv_iload_n hx hb dX2_findTop_40 rfl (lv_at hl 1 rfl) ?_
      exact r_iret X hr hlk hP hS dX2_findTop_41 h
    · replace h := ifn c_4 h
      refine lv_aload_n hx hb dX2_findTop_22 rfl (lv_at hl 0 rfl) ?_
      refine lv_iload_n hx hb dX2_findTop_23 rfl (lv_at hl 1 rfl) ?_
      obtain ⟨q_5, I_6, hc_7, h⟩ := clP_e h
      refine r_callV (As := [.int v1]) [] X (c2_rampInterval l g hG N _ _ _ t0 _ _ hc_7) cal_X2_rampInterval (im_X2_rampInterval) (se_X2_rampInterval) k_281 (tag_lt t0 (by decide)) (by rw [lay, t0]; rfl) rfl rfl ⟨rfl, rfl⟩ ⟨Nat.le_of_ble_eq_true rfl, Nat.le_of_ble_eq_true rfl⟩ hP hS hl.1 rfl (Nat.le_of_ble_eq_true rfl) dX2_findTop_24 ⟨Nat.zero_le _, Nat.zero_le _⟩ (fun H locs hP hS => ?_)
      show W p l e rm2_findTop s m args below meth c H locs 0 0 _ (F0 m 27 ls [.int q_5])
      refine lv_aload_n hx hb dX2_findTop_27 rfl (lv_at hl 0 rfl) ?_
      refine g2_2 X hP t0 k_138 dX2_findTop_28 ?_
      refine lv_icmp_le (tgt := 40) hx hb dX2_findTop_31 (by decide) (fun c_8 => ?_) (fun c_8 => ?_)
      · replace h := ifp c_8 h
        refine lv_iload_n hx hb dX2_findTop_40 rfl (lv_at hl 1 rfl) ?_
        exact r_iret X hr hlk hP hS dX2_findTop_41 h
      · replace h := ifn c_8 h
        obtain ⟨x_9, ex_9, h⟩ := letM_e h
        refine lv_iinc (v := x_9) (lv' := [(1, .int x_9), (0, .ref (ga g k0))]) hx hb dX2_findTop_34 hl (k := 1) rfl (by rw [ex_9]; rfl) (by decide) rfl (fun ls hl => ?_)
        refine lv_goto (tgt := 15) hx hb dX2_findTop_37 (by decide) ?_
        exact ih I_6 x_9 h _ _ _ hP hS (lv_sub hl [1, 0] rfl)
set_option maxHeartbeats 4000000 in
set_option maxRecDepth 100000 in
theorem c2_findTop (l : Launch) (g : GG) (hG : Apart g NT) (N : Nat) (I : Mem) (k0 : Nat) (t0 : tag k0 = 1) (r0 : Int32) (I0 : Mem) (h : f2_findTop N I k0 = some (r0, I0)) : Mc l g yX2_findTop cX2_findTop 2 (some .int) rm2_findTop I [.ref (ga g k0)] (some (.int r0)) I0 := by
  refine Mc.of hG (by decide +kernel) (Nat.le_of_ble_eq_true rfl) ?_
  intro p e s m args below meth c ls X hr hlk hP hS hl
  have X : Cx g p s m args c cX2_findTop RX2 2 := X
  have hx := X.hx
  have hb := X.hb
  have hl : lv_has ls 2 [(0, .ref (ga g k0))] := hl
  have locs : List Loc := []
  unfold f2_findTop at h
  refine lv_aload_n hx hb dX2_findTop_0 rfl (lv_at hl 0 rfl) ?_
  refine g2_0 X hP t0 k_136 dX2_findTop_1 ?_
  refine lv_aload_n hx hb dX2_findTop_4 rfl (lv_at hl 0 rfl) ?_
  refine g2_2 X hP t0 k_138 dX2_findTop_5 ?_
  refine lv_sipush (v := (999 : Int32)) hx hb dX2_findTop_8 (by decide +kernel) ?_
  obtain ⟨q_1, I_2, hc_3, h⟩ := clP_e h
  refine r_callS (As := [.int (I k0 0), .int (I k0 2), .int (999 : Int32)]) [] X (c1_rampAtLeast l g hG N _ _ _ _ _ _ hc_3) cal_X1_rampAtLeast (sc_X1_rampAtLeast) k_274 rfl ⟨rfl, rfl⟩ ⟨Nat.le_of_ble_eq_true rfl, Nat.le_of_ble_eq_true rfl⟩ hP hS hl.1 rfl (Nat.le_of_ble_eq_true rfl) dX2_findTop_11 ⟨Nat.zero_le _, Nat.zero_le _⟩ (fun H locs hP hS => ?_)
  show W p l e rm2_findTop s m args below meth c H locs 0 0 _ (F0 m 14 ls [.int q_1])
  refine lv_istore_n (lv' := [(1, .int q_1), (0, .ref (ga g k0))]) hx hb dX2_findTop_14 rfl hl (by decide) rfl (fun ls hl => ?_)
  exact L2_findTop_15 hG N k0 t0 X hr hlk r0 I0 N I_2 q_1 h _ _ _ hP hS (lv_sub hl [1, 0] rfl)
abbrev rm2_prepare : Room := { frames := 3, cells := 0, slots := 0, locals := 73 }
def f2_prepare_34 (N : Nat) (k0 : Nat) (a1 : Int32) (a2 : Int32) (I : Mem) : Option (Mem) :=
    letM (st I k0 1 a2) (fun I_3 : Mem =>
    clP (f1_cruiseInterval N I_3 (I_3 k0 1)) (fun (q_4 : Int32) (I_5 : Mem) =>
    letM (st I_5 k0 2 q_4) (fun I_7 : Mem =>
    clP (f2_findTop N I_7 k0) (fun (q_8 : Int32) (I_9 : Mem) =>
    letM (st I_9 k0 3 q_8) (fun I_11 : Mem =>
    some I_11)))))
def f2_prepare_17 (N : Nat) (k0 : Nat) (a1 : Int32) (a2 : Int32) (I : Mem) : Option (Mem) :=
    if (I k0 0) = a1 then
    f2_prepare_34 N k0 a1 a2 I
    else
    letM (st I k0 0 a1) (fun I_12 : Mem =>
    clM (f2_fillRoots N I_12 k0) (fun I_14 : Mem =>
    f2_prepare_34 N k0 a1 a2 I_14))
def f2_prepare (N : Nat) (I : Mem) (k0 : Nat) (a1 : Int32) (a2 : Int32) : Option (Mem) :=
    if (I k0 0) = a1 then
    if (I k0 1) = a2 then
    some I
    else
    f2_prepare_17 N k0 a1 a2 I
    else
    f2_prepare_17 N k0 a1 a2 I
set_option maxHeartbeats 4000000 in
set_option maxRecDepth 100000 in
theorem L2_prepare_34 (hG : Apart g NT) (N : Nat) (k0 : Nat) (a1 : Int32) (a2 : Int32) (t0 : tag k0 = 1) (X : Cx g p s m args c cX2_prepare RX2 3) (hr : meth.sig.returnType = none) (hlk : meth.locks = false) (I0 : Mem) : ∀ (I : Mem), f2_prepare_34 N k0 a1 a2 I = some I0 → ∀ (H : Heap) (locs : List Loc) (ls : Array Slot), Wp g I H → va_S (gA g) s.heap H locs → lv_has ls 3 [(0, .ref (ga g k0)), (2, .int a2)] → W p l e rm2_prepare s m args below meth c H locs 0 0 (MQ below (Qg g none I0) args s 0 0 (gA g)) (F0 m 34 ls []) := by
  have hx := X.hx
  have hb := X.hb
  intro I h H locs ls hP hS hl
  unfold f2_prepare_34 at h
  refine lv_aload_n hx hb dX2_prepare_34 rfl (lv_at hl 0 rfl) ?_
  refine lv_iload_n hx hb dX2_prepare_35 rfl (lv_at hl 1 rfl) ?_
  obtain ⟨I_3, eI_3, h⟩ := letM_e h
  refine p2_1 X hP hS t0 k_137 eI_3 dX2_prepare_36 (fun H locs hP hS => ?_)
  refine lv_aload_n hx hb dX2_prepare_39 rfl (lv_at hl 0 rfl) ?_
  refine lv_aload_n hx hb dX2_prepare_40 rfl (lv_at hl 0 rfl) ?_
  refine g2_1 X hP t0 k_137 dX2_prepare_41 ?_
  obtain ⟨q_4, I_5, hc_6, h⟩ := clP_e h
  refine r_callS (As := [.int (I_3 k0 1)]) [.ref (ga g k0)] X (c1_cruiseInterval l g hG N _ _ _ _ hc_6) cal_X1_cruiseInterval (sc_X1_cruiseInterval) k_267 rfl ⟨rfl, rfl⟩ ⟨Nat.le_of_ble_eq_true rfl, Nat.le_of_ble_eq_true rfl⟩ hP hS hl.1 rfl (Nat.le_of_ble_eq_true rfl) dX2_prepare_44 ⟨Nat.zero_le _, Nat.zero_le _⟩ (fun H locs hP hS => ?_)
  show W p l e rm2_prepare s m args below meth c H locs 0 0 _ (F0 m 47 ls [.int q_4, .ref (ga g k0)])
  obtain ⟨I_7, eI_7, h⟩ := letM_e h
  refine p2_2 X hP hS t0 k_138 eI_7 dX2_prepare_47 (fun H locs hP hS => ?_)
  refine lv_aload_n hx hb dX2_prepare_50 rfl (lv_at hl 0 rfl) ?_
  refine lv_aload_n hx hb dX2_prepare_51 rfl (lv_at hl 0 rfl) ?_
  obtain ⟨q_8, I_9, hc_10, h⟩ := clP_e h
  refine r_callV (As := []) [.ref (ga g k0)] X (c2_findTop l g hG N _ _ t0 _ _ hc_10) cal_X2_findTop (im_X2_findTop) (se_X2_findTop) k_270 (tag_lt t0 (by decide)) (by rw [lay, t0]; rfl) rfl rfl ⟨rfl, rfl⟩ ⟨Nat.le_of_ble_eq_true rfl, Nat.le_of_ble_eq_true rfl⟩ hP hS hl.1 rfl (Nat.le_of_ble_eq_true rfl) dX2_prepare_52 ⟨Nat.zero_le _, Nat.zero_le _⟩ (fun H locs hP hS => ?_)
  show W p l e rm2_prepare s m args below meth c H locs 0 0 _ (F0 m 55 ls [.int q_8, .ref (ga g k0)])
  obtain ⟨I_11, eI_11, h⟩ := letM_e h
  refine p2_3 X hP hS t0 k_139 eI_11 dX2_prepare_55 (fun H locs hP hS => ?_)
  exact r_vret X hr hlk hP hS dX2_prepare_58 h
set_option maxHeartbeats 4000000 in
set_option maxRecDepth 100000 in
theorem L2_prepare_17 (hG : Apart g NT) (N : Nat) (k0 : Nat) (a1 : Int32) (a2 : Int32) (t0 : tag k0 = 1) (X : Cx g p s m args c cX2_prepare RX2 3) (hr : meth.sig.returnType = none) (hlk : meth.locks = false) (I0 : Mem) : ∀ (I : Mem), f2_prepare_17 N k0 a1 a2 I = some I0 → ∀ (H : Heap) (locs : List Loc) (ls : Array Slot), Wp g I H → va_S (gA g) s.heap H locs → lv_has ls 3 [(0, .ref (ga g k0)), (1, .int a1), (2, .int a2)] → W p l e rm2_prepare s m args below meth c H locs 0 0 (MQ below (Qg g none I0) args s 0 0 (gA g)) (F0 m 17 ls []) := by
  have hx := X.hx
  have hb := X.hb
  intro I h H locs ls hP hS hl
  unfold f2_prepare_17 at h
  refine lv_aload_n hx hb dX2_prepare_17 rfl (lv_at hl 0 rfl) ?_
  refine g2_0 X hP t0 k_136 dX2_prepare_18 ?_
  refine lv_iload_n hx hb dX2_prepare_21 rfl (lv_at hl 1 rfl) ?_
  refine lv_icmp_eq (tgt := 34) hx hb dX2_prepare_22 (by decide) (fun c_2 => ?_) (fun c_2 => ?_)
  · replace h := ifp c_2 h
    exact L2_prepare_34 hG N k0 a1 a2 t0 X hr hlk I0 I h _ _ _ hP hS (lv_sub hl [0, 2] rfl)
  · replace h := ifn c_2 h
    refine lv_aload_n hx hb dX2_prepare_25 rfl (lv_at hl 0 rfl) ?_
    refine lv_iload_n hx hb dX2_prepare_26 rfl (lv_at hl 1 rfl) ?_
    obtain ⟨I_12, eI_12, h⟩ := letM_e h
    refine p2_0 X hP hS t0 k_136 eI_12 dX2_prepare_27 (fun H locs hP hS => ?_)
    refine lv_aload_n hx hb dX2_prepare_30 rfl (lv_at hl 0 rfl) ?_
    obtain ⟨I_14, hc_15, h⟩ := clM_e h
    refine r_callV (As := []) [] X (c2_fillRoots l g hG N _ _ t0 _ hc_15) cal_X2_fillRoots (im_X2_fillRoots) (se_X2_fillRoots) k_254 (tag_lt t0 (by decide)) (by rw [lay, t0]; rfl) rfl rfl ⟨rfl, rfl⟩ ⟨Nat.le_of_ble_eq_true rfl, Nat.le_of_ble_eq_true rfl⟩ hP hS hl.1 rfl (Nat.le_of_ble_eq_true rfl) dX2_prepare_31 ⟨Nat.zero_le _, Nat.zero_le _⟩ (fun H locs hP hS => ?_)
    show W p l e rm2_prepare s m args below meth c H locs 0 0 _ (F0 m 34 ls [])
    exact L2_prepare_34 hG N k0 a1 a2 t0 X hr hlk I0 I_14 h _ _ _ hP hS (lv_sub hl [0, 2] rfl)
set_option maxHeartbeats 4000000 in
set_option maxRecDepth 100000 in
theorem c2_prepare (l : Launch) (g : GG) (hG : Apart g NT) (N : Nat) (I : Mem) (k0 : Nat) (a1 : Int32) (a2 : Int32) (t0 : tag k0 = 1) (I0 : Mem) (h : f2_prepare N I k0 a1 a2 = some I0) : Mc l g yX2_prepare cX2_prepare 3 none rm2_prepare I [.ref (ga g k0), .int a1, .int a2] none I0 := by
  refine Mc.of hG (by decide +kernel) (Nat.le_of_ble_eq_true rfl) ?_
  intro p e s m args below meth c ls X hr hlk hP hS hl
  have X : Cx g p s m args c cX2_prepare RX2 3 := X
  have hx := X.hx
  have hb := X.hb
  have hl : lv_has ls 3 [(0, .ref (ga g k0)), (1, .int a1), (2, .int a2)] := hl
  have locs : List Loc := []
  unfold f2_prepare at h
  refine lv_aload_n hx hb dX2_prepare_0 rfl (lv_at hl 0 rfl) ?_
  refine g2_0 X hP t0 k_136 dX2_prepare_1 ?_
  refine lv_iload_n hx hb dX2_prepare_4 rfl (lv_at hl 1 rfl) ?_
  refine lv_icmp_ne (tgt := 17) hx hb dX2_prepare_5 (by decide) (fun c_1 => ?_) (fun c_1 => ?_)
  · replace h := ifn c_1 h
    exact L2_prepare_17 hG N k0 a1 a2 t0 X hr hlk I0 I h _ _ _ hP hS (lv_sub hl [0, 1, 2] rfl)
  · replace h := ifp c_1 h
    refine lv_aload_n hx hb dX2_prepare_8 rfl (lv_at hl 0 rfl) ?_
    refine g2_1 X hP t0 k_137 dX2_prepare_9 ?_
    refine lv_iload_n hx hb dX2_prepare_12 rfl (lv_at hl 2 rfl) ?_
    refine lv_icmp_ne (tgt := 17) hx hb dX2_prepare_13 (by decide) (fun c_16 => ?_) (fun c_16 => ?_)
    · replace h := ifn c_16 h
      exact L2_prepare_17 hG N k0 a1 a2 t0 X hr hlk I0 I h _ _ _ hP hS (lv_sub hl [0, 1, 2] rfl)
    · replace h := ifp c_16 h
      exact r_vret X hr hlk hP hS dX2_prepare_16 h
abbrev rm2_intervalOf : Room := { frames := 1, cells := 0, slots := 0, locals := 21 }
def f2_intervalOf (N : Nat) (I : Mem) (k0 : Nat) (a1 : Int32) : Option (Int32 × Mem) :=
    clP (f2_rampInterval N I k0 a1) (fun (q_1 : Int32) (I_2 : Mem) =>
    clP (fJ9_max_7cf53 N I_2 q_1 (I_2 k0 2)) (fun (q_4 : Int32) (I_5 : Mem) =>
    some (q_4, I_5)))
set_option maxHeartbeats 4000000 in
set_option maxRecDepth 100000 in
theorem c2_intervalOf (l : Launch) (g : GG) (hG : Apart g NT) (N : Nat) (I : Mem) (k0 : Nat) (a1 : Int32) (t0 : tag k0 = 1) (r0 : Int32) (I0 : Mem) (h : f2_intervalOf N I k0 a1 = some (r0, I0)) : Mc l g yX2_intervalOf cX2_intervalOf 2 (some .int) rm2_intervalOf I [.ref (ga g k0), .int a1] (some (.int r0)) I0 := by
  refine Mc.of hG (by decide +kernel) (Nat.le_of_ble_eq_true rfl) ?_
  intro p e s m args below meth c ls X hr hlk hP hS hl
  have X : Cx g p s m args c cX2_intervalOf RX2 2 := X
  have hx := X.hx
  have hb := X.hb
  have hl : lv_has ls 2 [(0, .ref (ga g k0)), (1, .int a1)] := hl
  have locs : List Loc := []
  unfold f2_intervalOf at h
  refine lv_aload_n hx hb dX2_intervalOf_0 rfl (lv_at hl 0 rfl) ?_
  refine lv_iload_n hx hb dX2_intervalOf_1 rfl (lv_at hl 1 rfl) ?_
  obtain ⟨q_1, I_2, hc_3, h⟩ := clP_e h
  refine r_callV (As := [.int a1]) [] X (c2_rampInterval l g hG N _ _ _ t0 _ _ hc_3) cal_X2_rampInterval (im_X2_rampInterval) (se_X2_rampInterval) k_281 (tag_lt t0 (by decide)) (by rw [lay, t0]; rfl) rfl rfl ⟨rfl, rfl⟩ ⟨Nat.le_of_ble_eq_true rfl, Nat.le_of_ble_eq_true rfl⟩ hP hS hl.1 rfl (Nat.le_of_ble_eq_true rfl) dX2_intervalOf_2 ⟨Nat.zero_le _, Nat.zero_le _⟩ (fun H locs hP hS => ?_)
  show W p l e rm2_intervalOf s m args below meth c H locs 0 0 _ (F0 m 5 ls [.int q_1])
  refine lv_aload_n hx hb dX2_intervalOf_5 rfl (lv_at hl 0 rfl) ?_
  refine g2_2 X hP t0 k_138 dX2_intervalOf_6 ?_
  obtain ⟨q_4, I_5, hc_6, h⟩ := clP_e h
  refine r_callS (As := [.int q_1, .int (I_2 k0 2)]) [] X (ccJ9_max_7cf53 l g hG N _ _ _ _ _ hc_6) cal_J9_max_7cf53 (sc_J9_max_7cf53) k_289 rfl ⟨rfl, rfl⟩ ⟨Nat.le_of_ble_eq_true rfl, Nat.le_of_ble_eq_true rfl⟩ hP hS hl.1 rfl (Nat.le_of_ble_eq_true rfl) dX2_intervalOf_9 ⟨Nat.zero_le _, Nat.zero_le _⟩ (fun H locs hP hS => ?_)
  show W p l e rm2_intervalOf s m args below meth c H locs 0 0 _ (F0 m 12 ls [.int q_4])
  exact r_iret X hr hlk hP hS dX2_intervalOf_12 h
abbrev rm2_ticksOfMove : Room := { frames := 2, cells := 0, slots := 0, locals := 42 }
def f2_ticksOfMove (N : Nat) (I : Mem) (k0 : Nat) (a1 : Int32) : Option (Int32 × Mem) :=
    clP (fJ9_min_7cf53 N I (a1 / (2 : Int32)) (I k0 3)) (fun (q_1 : Int32) (I_2 : Mem) =>
    if q_1 < (0 : Int32) then
    some ((0 : Int32), I_2)
    else
    if q_1 < (1001 : Int32) then
    if (q_1 < (0 : Int32) ∨ 1001 ≤ q_1.toNatClampNeg) then none else
    clP (f2_intervalOf N I_2 k0 q_1) (fun (q_7 : Int32) (I_8 : Mem) =>
    some ((((2 : Int32) * (I_2 (k0 + 1) (q_1.toNatClampNeg))) + ((a1 - ((2 : Int32) * q_1)) * q_7)), I_8))
    else
    some ((0 : Int32), I_2))
set_option maxHeartbeats 4000000 in
set_option maxRecDepth 100000 in
theorem c2_ticksOfMove (l : Launch) (g : GG) (hG : Apart g NT) (N : Nat) (I : Mem) (k0 : Nat) (a1 : Int32) (t0 : tag k0 = 1) (r0 : Int32) (I0 : Mem) (h : f2_ticksOfMove N I k0 a1 = some (r0, I0)) : Mc l g yX2_ticksOfMove cX2_ticksOfMove 3 (some .int) rm2_ticksOfMove I [.ref (ga g k0), .int a1] (some (.int r0)) I0 := by
  refine Mc.of hG (by decide +kernel) (Nat.le_of_ble_eq_true rfl) ?_
  intro p e s m args below meth c ls X hr hlk hP hS hl
  have X : Cx g p s m args c cX2_ticksOfMove RX2 3 := X
  have hx := X.hx
  have hb := X.hb
  have hl : lv_has ls 3 [(0, .ref (ga g k0)), (1, .int a1)] := hl
  have locs : List Loc := []
  unfold f2_ticksOfMove at h
  refine lv_iload_n hx hb dX2_ticksOfMove_0 rfl (lv_at hl 1 rfl) ?_
  refine lv_iconst (v := (2 : Int32)) hx hb dX2_ticksOfMove_1 (by decide +kernel) ?_
  refine lv_idiv hx hb dX2_ticksOfMove_2 (by decide) ?_
  refine lv_aload_n hx hb dX2_ticksOfMove_3 rfl (lv_at hl 0 rfl) ?_
  refine g2_3 X hP t0 k_139 dX2_ticksOfMove_4 ?_
  obtain ⟨q_1, I_2, hc_3, h⟩ := clP_e h
  refine r_callS (As := [.int (a1 / (2 : Int32)), .int (I k0 3)]) [] X (ccJ9_min_7cf53 l g hG N _ _ _ _ _ hc_3) cal_J9_min_7cf53 (sc_J9_min_7cf53) k_376 rfl ⟨rfl, rfl⟩ ⟨Nat.le_of_ble_eq_true rfl, Nat.le_of_ble_eq_true rfl⟩ hP hS hl.1 rfl (Nat.le_of_ble_eq_true rfl) dX2_ticksOfMove_7 ⟨Nat.zero_le _, Nat.zero_le _⟩ (fun H locs hP hS => ?_)
  show W p l e rm2_ticksOfMove s m args below meth c H locs 0 0 _ (F0 m 10 ls [.int q_1])
  refine lv_istore_n (lv' := [(2, .int q_1), (0, .ref (ga g k0)), (1, .int a1)]) hx hb dX2_ticksOfMove_10 rfl hl (by decide) rfl (fun ls hl => ?_)
  refine lv_iload_n hx hb dX2_ticksOfMove_11 rfl (lv_at hl 0 rfl) ?_
  refine lv_if_lt (tgt := 24) hx hb dX2_ticksOfMove_12 (by decide) (fun c_4 => ?_) (fun c_4 => ?_)
  · replace h := ifp c_4 h
    refine lv_iconst (v := (0 : Int32)) hx hb dX2_ticksOfMove_24 (by decide +kernel) ?_
    exact r_iret X hr hlk hP hS dX2_ticksOfMove_25 h
  · replace h := ifn c_4 h
    refine lv_iload_n hx hb dX2_ticksOfMove_15 rfl (lv_at hl 0 rfl) ?_
    refine lv_aload_n hx hb dX2_ticksOfMove_16 rfl (lv_at hl 1 rfl) ?_
    refine g2_4 X hP t0 k_142 dX2_ticksOfMove_17 ?_
    refine r_alen (n := 1001) (v := (1001 : Int32)) X hP (g2_4_t t0) (by decide +kernel) dX2_ticksOfMove_20 ?_
    refine lv_icmp_lt (tgt := 26) hx hb dX2_ticksOfMove_21 (by decide) (fun c_5 => ?_) (fun c_5 => ?_)
    · replace h := ifp c_5 h
      refine lv_iconst (v := (2 : Int32)) hx hb dX2_ticksOfMove_26 (by decide +kernel) ?_
      refine lv_aload_n hx hb dX2_ticksOfMove_27 rfl (lv_at hl 1 rfl) ?_
      refine g2_4 X hP t0 k_142 dX2_ticksOfMove_28 ?_
      refine lv_iload_n hx hb dX2_ticksOfMove_31 rfl (lv_at hl 0 rfl) ?_
      obtain ⟨g_6, h⟩ := gd_e h
      refine r_iald (n := 1001) X hP (g2_4_t t0) g_6 (j := q_1.toNatClampNeg) rfl dX2_ticksOfMove_32 ?_
      refine lv_imul hx hb dX2_ticksOfMove_33 ?_
      refine lv_iload_n hx hb dX2_ticksOfMove_34 rfl (lv_at hl 2 rfl) ?_
      refine lv_iconst (v := (2 : Int32)) hx hb dX2_ticksOfMove_35 (by decide +kernel) ?_
      refine lv_iload_n hx hb dX2_ticksOfMove_36 rfl (lv_at hl 0 rfl) ?_
      refine lv_imul hx hb dX2_ticksOfMove_37 ?_
      refine lv_isub hx hb dX2_ticksOfMove_38 ?_
      refine lv_aload_n hx hb dX2_ticksOfMove_39 rfl (lv_at hl 1 rfl) ?_
      refine lv_iload_n hx hb dX2_ticksOfMove_40 rfl (lv_at hl 0 rfl) ?_
      obtain ⟨q_7, I_8, hc_9, h⟩ := clP_e h
      refine r_callV (As := [.int q_1]) [.int (a1 - ((2 : Int32) * q_1)), .int ((2 : Int32) * (I_2 (k0 + 1) (q_1.toNatClampNeg)))] X (c2_intervalOf l g hG N _ _ _ t0 _ _ hc_9) cal_X2_intervalOf (im_X2_intervalOf) (se_X2_intervalOf) k_377 (tag_lt t0 (by decide)) (by rw [lay, t0]; rfl) rfl rfl ⟨rfl, rfl⟩ ⟨Nat.le_of_ble_eq_true rfl, Nat.le_of_ble_eq_true rfl⟩ hP hS hl.1 rfl (Nat.le_of_ble_eq_true rfl) dX2_ticksOfMove_41 ⟨Nat.zero_le _, Nat.zero_le _⟩ (fun H locs hP hS => ?_)
      show W p l e rm2_ticksOfMove s m args below meth c H locs 0 0 _ (F0 m 44 ls [.int q_7, .int (a1 - ((2 : Int32) * q_1)), .int ((2 : Int32) * (I_2 (k0 + 1) (q_1.toNatClampNeg)))])
      refine lv_imul hx hb dX2_ticksOfMove_44 ?_
      refine lv_iadd hx hb dX2_ticksOfMove_45 ?_
      exact r_iret X hr hlk hP hS dX2_ticksOfMove_46 h
    · replace h := ifn c_5 h
      refine lv_iconst (v := (0 : Int32)) hx hb dX2_ticksOfMove_24 (by decide +kernel) ?_
      exact r_iret X hr hlk hP hS dX2_ticksOfMove_25 h
abbrev rm2_approximation : Room := { frames := 0, cells := 0, slots := 0, locals := 0 }
def f2_approximation_20 (N : Nat) (k0 : Nat) (a1 : Int32) : Nat → Mem → Int32 → Int32 → Int32 → Option (Int32 × Mem)
  | 0, _, _, _, _ => none
  | cnt+1, I, v2, v3, v4 =>
    if a1 < v4 then
    some (v2, I)
    else
    letM (((2 : Int32) * v2) + v3) (fun x_3 : Int32 =>
    if (((4 : Int32) * v4) + (1 : Int32)) = (0 : Int32) then none else
    letM (v2 - (x_3 / (((4 : Int32) * v4) + (1 : Int32)))) (fun x_5 : Int32 =>
    if (((4 : Int32) * v4) + (1 : Int32)) = (0 : Int32) then none else
    letM (x_3 - x_3 / (((4 : Int32) * v4) + (1 : Int32)) * (((4 : Int32) * v4) + (1 : Int32))) (fun x_7 : Int32 =>
    letM (v4 + (1 : Int32)) (fun x_8 : Int32 =>
    f2_approximation_20 N k0 a1 cnt I x_5 x_7 x_8))))
def f2_approximation (N : Nat) (I : Mem) (k0 : Nat) (a1 : Int32) : Option (Int32 × Mem) :=
    letM (((676 : Int32) * (I (k0 + 1) 1)) / (1000 : Int32)) (fun x_1 : Int32 =>
    f2_approximation_20 N k0 a1 N I x_1 (0 : Int32) (1 : Int32))
set_option maxHeartbeats 4000000 in
set_option maxRecDepth 100000 in
theorem L2_approximation_20 (hG : Apart g NT) (N : Nat) (k0 : Nat) (a1 : Int32) (t0 : tag k0 = 1) (X : Cx g p s m args c cX2_approximation RX2 6) (hr : meth.sig.returnType = (some .int)) (hlk : meth.locks = false) (r0 : Int32) (I0 : Mem) : ∀ (cnt : Nat) (I : Mem) (v2 : Int32) (v3 : Int32) (v4 : Int32), f2_approximation_20 N k0 a1 cnt I v2 v3 v4 = some (r0, I0) → ∀ (H : Heap) (locs : List Loc) (ls : Array Slot), Wp g I H → va_S (gA g) s.heap H locs → lv_has ls 6 [(1, .int a1), (2, .int v2), (3, .int v3), (4, .int v4)] → W p l e rm2_approximation s m args below meth c H locs 0 0 (MQ below (Qg g (some (.int r0)) I0) args s 0 0 (gA g)) (F0 m 20 ls []) := by
  have hx := X.hx
  have hb := X.hb
  intro cnt
  induction cnt with
  | zero =>
    intro I v2 v3 v4 h
    rw [f2_approximation_20] at h
    cases h
  | succ cnt ih =>
    intro I v2 v3 v4 h H locs ls hP hS hl
    rw [f2_approximation_20] at h
    refine lv_iload hx hb dX2_approximation_20 (lv_at hl 3 rfl) ?_
    refine lv_iload_n hx hb dX2_approximation_22 rfl (lv_at hl 0 rfl) ?_
    refine lv_icmp_gt (tgt := 61) hx hb dX2_approximation_23 (by decide) (fun c_2 => ?_) (fun c_2 => ?_)
    · replace h := ifp c_2 h
      refine lv_iload_n hx hb dX2_approximation_61 rfl (lv_at hl 1 rfl) ?_
      exact r_iret X hr hlk hP hS dX2_approximation_62 h
    · replace h := ifn c_2 h
      refine lv_iconst (v := (2 : Int32)) hx hb dX2_approximation_26 (by decide +kernel) ?_
      refine lv_iload_n hx hb dX2_approximation_27 rfl (lv_at hl 1 rfl) ?_
      refine lv_imul hx hb dX2_approximation_28 ?_
      refine lv_iload_n hx hb dX2_approximation_29 rfl (lv_at hl 2 rfl) ?_
      refine lv_iadd hx hb dX2_approximation_30 ?_
      obtain ⟨x_3, ex_3, h⟩ := letM_e h
      refine r_nmi ex_3 ?_
      refine lv_istore (lv' := [(5, .int x_3), (1, .int a1), (2, .int v2), (3, .int v3), (4, .int v4)]) hx hb dX2_approximation_31 hl (by decide) rfl (fun ls hl => ?_)
      refine lv_iload_n hx hb dX2_approximation_33 rfl (lv_at hl 2 rfl) ?_
      refine lv_iload hx hb dX2_approximation_34 (lv_at hl 0 rfl) ?_
      refine lv_iconst (v := (4 : Int32)) hx hb dX2_approximation_36 (by decide +kernel) ?_
      refine lv_iload hx hb dX2_approximation_37 (lv_at hl 4 rfl) ?_
      refine lv_imul hx hb dX2_approximation_39 ?_
      refine lv_iconst (v := (1 : Int32)) hx hb dX2_approximation_40 (by decide +kernel) ?_
      refine lv_iadd hx hb dX2_approximation_41 ?_
      obtain ⟨g_4, h⟩ := gd_e h
      refine lv_idiv hx hb dX2_approximation_42 g_4 ?_
      refine lv_isub hx hb dX2_approximation_43 ?_
      obtain ⟨x_5, ex_5, h⟩ := letM_e h
      refine r_nmi ex_5 ?_
      refine lv_istore_n (lv' := [(2, .int x_5), (5, .int x_3), (1, .int a1), (3, .int v3), (4, .int v4)]) hx hb dX2_approximation_44 rfl hl (by decide) rfl (fun ls hl => ?_)
      refine lv_iload hx hb dX2_approximation_45 (lv_at hl 1 rfl) ?_
      refine lv_iconst (v := (4 : Int32)) hx hb dX2_approximation_47 (by decide +kernel) ?_
      refine lv_iload hx hb dX2_approximation_48 (lv_at hl 4 rfl) ?_
      refine lv_imul hx hb dX2_approximation_50 ?_
      refine lv_iconst (v := (1 : Int32)) hx hb dX2_approximation_51 (by decide +kernel) ?_
      refine lv_iadd hx hb dX2_approximation_52 ?_
      obtain ⟨g_6, h⟩ := gd_e h
      refine lv_irem hx hb dX2_approximation_53 g_6 ?_
      obtain ⟨x_7, ex_7, h⟩ := letM_e h
      refine r_nmi ex_7 ?_
      refine lv_istore_n (lv' := [(3, .int x_7), (2, .int x_5), (5, .int x_3), (1, .int a1), (4, .int v4)]) hx hb dX2_approximation_54 rfl hl (by decide) rfl (fun ls hl => ?_)
      obtain ⟨x_8, ex_8, h⟩ := letM_e h
      refine lv_iinc (v := x_8) (lv' := [(4, .int x_8), (3, .int x_7), (2, .int x_5), (5, .int x_3), (1, .int a1)]) hx hb dX2_approximation_55 hl (k := 4) rfl (by rw [ex_8]; rfl) (by decide) rfl (fun ls hl => ?_)
      refine lv_goto (tgt := 20) hx hb dX2_approximation_58 (by decide) ?_
      exact ih I x_5 x_7 x_8 h _ _ _ hP hS (lv_sub hl [4, 2, 1, 0] rfl)
set_option maxHeartbeats 4000000 in
set_option maxRecDepth 100000 in
theorem c2_approximation (l : Launch) (g : GG) (hG : Apart g NT) (N : Nat) (I : Mem) (k0 : Nat) (a1 : Int32) (t0 : tag k0 = 1) (r0 : Int32) (I0 : Mem) (h : f2_approximation N I k0 a1 = some (r0, I0)) : Mc l g yX2_approximation cX2_approximation 6 (some .int) rm2_approximation I [.ref (ga g k0), .int a1] (some (.int r0)) I0 := by
  refine Mc.of hG (by decide +kernel) (Nat.le_of_ble_eq_true rfl) ?_
  intro p e s m args below meth c ls X hr hlk hP hS hl
  have X : Cx g p s m args c cX2_approximation RX2 6 := X
  have hx := X.hx
  have hb := X.hb
  have hl : lv_has ls 6 [(0, .ref (ga g k0)), (1, .int a1)] := hl
  have locs : List Loc := []
  unfold f2_approximation at h
  refine lv_sipush (v := (676 : Int32)) hx hb dX2_approximation_0 (by decide +kernel) ?_
  refine lv_aload_n hx hb dX2_approximation_3 rfl (lv_at hl 0 rfl) ?_
  refine g2_4 X hP t0 k_142 dX2_approximation_4 ?_
  refine lv_iconst (v := (1 : Int32)) hx hb dX2_approximation_7 (by decide +kernel) ?_
  refine r_iald (n := 1001) X hP (g2_4_t t0) (by decide +kernel) (j := 1) (by decide +kernel) dX2_approximation_8 ?_
  refine lv_imul hx hb dX2_approximation_9 ?_
  refine lv_sipush (v := (1000 : Int32)) hx hb dX2_approximation_10 (by decide +kernel) ?_
  refine lv_idiv hx hb dX2_approximation_13 (by decide) ?_
  obtain ⟨x_1, ex_1, h⟩ := letM_e h
  refine r_nmi ex_1 ?_
  refine lv_istore_n (lv' := [(2, .int x_1), (0, .ref (ga g k0)), (1, .int a1)]) hx hb dX2_approximation_14 rfl hl (by decide) rfl (fun ls hl => ?_)
  refine lv_iconst (v := (0 : Int32)) hx hb dX2_approximation_15 (by decide +kernel) ?_
  refine lv_istore_n (lv' := [(3, .int (0 : Int32)), (2, .int x_1), (0, .ref (ga g k0)), (1, .int a1)]) hx hb dX2_approximation_16 rfl hl (by decide) rfl (fun ls hl => ?_)
  refine lv_iconst (v := (1 : Int32)) hx hb dX2_approximation_17 (by decide +kernel) ?_
  refine lv_istore (lv' := [(4, .int (1 : Int32)), (3, .int (0 : Int32)), (2, .int x_1), (0, .ref (ga g k0)), (1, .int a1)]) hx hb dX2_approximation_18 hl (by decide) rfl (fun ls hl => ?_)
  exact L2_approximation_20 hG N k0 a1 t0 X hr hlk r0 I0 N I x_1 (0 : Int32) (1 : Int32) h _ _ _ hP hS (lv_sub hl [4, 2, 1, 0] rfl)
abbrev rmJ9_abs_0f7a4 : Room := { frames := 0, cells := 0, slots := 0, locals := 0 }
def fJ9_abs_0f7a4 (N : Nat) (I : Mem) (a0 : Int32) : Option (Int32 × Mem) :=
    if (0 : Int32) ≤ a0 then
    some (a0, I)
    else
    some ((-a0), I)
set_option maxHeartbeats 4000000 in
set_option maxRecDepth 100000 in
theorem ccJ9_abs_0f7a4 (l : Launch) (g : GG) (hG : Apart g NT) (N : Nat) (I : Mem) (a0 : Int32) (r0 : Int32) (I0 : Mem) (h : fJ9_abs_0f7a4 N I a0 = some (r0, I0)) : Mc l g yJ9_abs_0f7a4 cJ9_abs_0f7a4 1 (some .int) rmJ9_abs_0f7a4 I [.int a0] (some (.int r0)) I0 := by
  refine Mc.of hG (by decide +kernel) (Nat.le_of_ble_eq_true rfl) ?_
  intro p e s m args below meth c ls X hr hlk hP hS hl
  have X : Cx g p s m args c cJ9_abs_0f7a4 RJ9 1 := X
  have hx := X.hx
  have hb := X.hb
  have hl : lv_has ls 1 [(0, .int a0)] := hl
  have locs : List Loc := []
  unfold fJ9_abs_0f7a4 at h
  refine lv_iload_n hx hb dJ9_abs_0f7a4_0 rfl (lv_at hl 0 rfl) ?_
  refine lv_if_ge (tgt := 9) hx hb dJ9_abs_0f7a4_1 (by decide) (fun c_1 => ?_) (fun c_1 => ?_)
  · replace h := ifp c_1 h
    refine lv_iload_n hx hb dJ9_abs_0f7a4_9 rfl (lv_at hl 0 rfl) ?_
    exact r_iret X hr hlk hP hS dJ9_abs_0f7a4_10 h
  · replace h := ifn c_1 h
    refine lv_iload_n hx hb dJ9_abs_0f7a4_4 rfl (lv_at hl 0 rfl) ?_
    refine lv_ineg hx hb dJ9_abs_0f7a4_5 ?_
    refine lv_goto (tgt := 10) hx hb dJ9_abs_0f7a4_6 (by decide) ?_
    exact r_iret X hr hlk hP hS dJ9_abs_0f7a4_10 h
abbrev rmJ9_max_f86c9 : Room := { frames := 0, cells := 0, slots := 0, locals := 0 }
def fJ9_max_f86c9 (N : Nat) (I : Mem) (j0 : Int64) (j2 : Int64) : Option (Int64 × Mem) :=
    if (lg_cmp j0 j2) < (0 : Int32) then
    some (j2, I)
    else
    some (j0, I)
set_option maxHeartbeats 4000000 in
set_option maxRecDepth 100000 in
theorem ccJ9_max_f86c9 (l : Launch) (g : GG) (hG : Apart g NT) (N : Nat) (I : Mem) (j0 : Int64) (j2 : Int64) (r0 : Int64) (I0 : Mem) (h : fJ9_max_f86c9 N I j0 j2 = some (r0, I0)) : Mc l g yJ9_max_f86c9 cJ9_max_f86c9 4 (some .long) rmJ9_max_f86c9 I [.long j0, .long j2] (some (.long r0)) I0 := by
  refine Mc.of hG (by decide +kernel) (Nat.le_of_ble_eq_true rfl) ?_
  intro p e s m args below meth c ls X hr hlk hP hS hl
  have X : Cx g p s m args c cJ9_max_f86c9 RJ9 4 := X
  have hx := X.hx
  have hb := X.hb
  have hl : lv_has ls 4 [(0, .long j0), (2, .long j2)] := hl
  have locs : List Loc := []
  unfold fJ9_max_f86c9 at h
  refine lv_lload_n hx hb dJ9_max_f86c9_0 rfl (lv_at hl 0 rfl) ?_
  refine lv_lload_n hx hb dJ9_max_f86c9_1 rfl (lv_at hl 1 rfl) ?_
  refine W.lcmp hx hb dJ9_max_f86c9_2 ?_
  refine lv_if_lt (tgt := 10) hx hb dJ9_max_f86c9_3 (by decide) (fun c_1 => ?_) (fun c_1 => ?_)
  · replace h := ifp c_1 h
    refine lv_lload_n hx hb dJ9_max_f86c9_10 rfl (lv_at hl 1 rfl) ?_
    exact r_lret X hr hlk hP hS dJ9_max_f86c9_11 h
  · replace h := ifn c_1 h
    refine lv_lload_n hx hb dJ9_max_f86c9_6 rfl (lv_at hl 0 rfl) ?_
    refine lv_goto (tgt := 11) hx hb dJ9_max_f86c9_7 (by decide) ?_
    exact r_lret X hr hlk hP hS dJ9_max_f86c9_11 h
end WALKS
