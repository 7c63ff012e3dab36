section WALKS
variable {p : Program} {l : Launch} {e : Env} {s : State} {m : MethodId} {args : Array Value} {below : List Frame} {meth : Method} {c : Code} {g : GG}
abbrev rm0_at : Room := { frames := 1, cells := 0, slots := 0, locals := 22 }
def f0_at (N : Nat) (I : Mem) (k0 : Nat) (a1 : Int32) : Option (Nat × Mem) :=
    clP (fJ9_floorMod_7cf53 N I a1 (14 : Int32)) (fun (q_1 : Int32) (I_2 : Mem) =>
    if (q_1 < (0 : Int32) ∨ 14 ≤ q_1.toNatClampNeg) then none else
    some (((k0 + 1) + 1 + 4 * q_1.toNatClampNeg), I_2))
set_option maxHeartbeats 4000000 in
set_option maxRecDepth 100000 in
theorem c0_at (l : Launch) (g : GG) (hG : Apart g NT) (N : Nat) (I : Mem) (k0 : Nat) (a1 : Int32) (t0 : tag k0 = 0) (r0 : Nat) (I0 : Mem) (h : f0_at N I k0 a1 = some (r0, I0)) : Mc l g yX0_at cX0_at 2 (some (.object RX5)) rm0_at I [.ref (ga g k0), .int a1] (some (.ref (ga g r0))) I0 := by
  refine Mc.of hG (by decide +kernel) (Nat.le_of_ble_eq_true rfl) ?_
  intro p e s m args below meth c ls X hr hlk hP hS hl
  have X : Cx g p s m args c cX0_at RX0 2 := X
  have hx := X.hx
  have hb := X.hb
  have hl : lv_has ls 2 [(0, .ref (ga g k0)), (1, .int a1)] := hl
  have locs : List Loc := []
  unfold f0_at at h
  refine lv_aload_n hx hb dX0_at_0 rfl (lv_at hl 0 rfl) ?_
  refine g0_0 X hP t0 k_103 dX0_at_1 ?_
  refine lv_iload_n hx hb dX0_at_4 rfl (lv_at hl 1 rfl) ?_
  refine lv_bipush (v := (14 : Int32)) hx hb dX0_at_5 (by decide +kernel) ?_
  obtain ⟨q_1, I_2, hc_3, h⟩ := clP_e h
  refine r_callS (As := [.int a1, .int (14 : Int32)]) [.ref (ga g (k0 + 1))] X (ccJ9_floorMod_7cf53 l g hG N _ _ _ _ _ hc_3) cal_J9_floorMod_7cf53 (sc_J9_floorMod_7cf53) k_314 rfl ⟨rfl, rfl⟩ ⟨Nat.le_of_ble_eq_true rfl, Nat.le_of_ble_eq_true rfl⟩ hP hS hl.1 rfl (Nat.le_of_ble_eq_true rfl) dX0_at_7 ⟨Nat.zero_le _, Nat.zero_le _⟩ (fun H locs hP hS => ?_)
  show W p l e rm0_at s m args below meth c H locs 0 0 _ (F0 m 10 ls [.int q_1, .ref (ga g (k0 + 1))])
  obtain ⟨g_4, h⟩ := gd_e h
  refine r_aald X hP (g0_0_t t0) g_4 dX0_at_10 ?_
  exact r_aret X hr hlk hP hS dX0_at_11 h
abbrev rm0_remember : Room := { frames := 2, cells := 0, slots := 0, locals := 43 }
def f0_remember (N : Nat) (I : Mem) (k0 : Nat) (k1 : Nat) : Option (Mem) :=
    clP (f0_at N I k0 (I k0 1)) (fun (q_1 : Nat) (I_2 : Mem) =>
    if ¬ tag q_1 = 4 then none else
    clM (f5_become N I_2 q_1 k1) (fun I_5 : Mem =>
    letM (st I_5 k0 1 ((I_5 k0 1) + (1 : Int32))) (fun I_7 : Mem =>
    clP (fJ9_min_7cf53 N I_7 ((I_7 k0 2) + (1 : Int32)) (14 : Int32)) (fun (q_8 : Int32) (I_9 : Mem) =>
    letM (st I_9 k0 2 q_8) (fun I_11 : Mem =>
    some I_11)))))
set_option maxHeartbeats 4000000 in
set_option maxRecDepth 100000 in
theorem c0_remember (l : Launch) (g : GG) (hG : Apart g NT) (N : Nat) (I : Mem) (k0 : Nat) (k1 : Nat) (t0 : tag k0 = 0) (t1 : tag k1 = 4) (I0 : Mem) (h : f0_remember N I k0 k1 = some I0) : Mc l g yX0_remember cX0_remember 2 none rm0_remember I [.ref (ga g k0), .ref (ga g k1)] none I0 := by
  refine Mc.of hG (by decide +kernel) (Nat.le_of_ble_eq_true rfl) ?_
  intro p e s m args below meth c ls X hr hlk hP hS hl
  have X : Cx g p s m args c cX0_remember RX0 2 := X
  have hx := X.hx
  have hb := X.hb
  have hl : lv_has ls 2 [(0, .ref (ga g k0)), (1, .ref (ga g k1))] := hl
  have locs : List Loc := []
  unfold f0_remember at h
  refine lv_aload_n hx hb dX0_remember_0 rfl (lv_at hl 0 rfl) ?_
  refine lv_aload_n hx hb dX0_remember_1 rfl (lv_at hl 0 rfl) ?_
  refine g0_1 X hP t0 k_104 dX0_remember_2 ?_
  obtain ⟨q_1, I_2, hc_3, h⟩ := clP_e h
  refine r_callV (As := [.int (I k0 1)]) [] X (c0_at l g hG N _ _ _ t0 _ _ hc_3) cal_X0_at (im_X0_at) (se_X0_at) k_310 (tag_lt t0 (by decide)) (by rw [lay, t0]; rfl) rfl rfl ⟨rfl, rfl⟩ ⟨Nat.le_of_ble_eq_true rfl, Nat.le_of_ble_eq_true rfl⟩ hP hS hl.1 rfl (Nat.le_of_ble_eq_true rfl) dX0_remember_5 ⟨Nat.zero_le _, Nat.zero_le _⟩ (fun H locs hP hS => ?_)
  obtain ⟨Tq_1, h⟩ := gd_e h
  replace Tq_1 := Classical.not_not.mp Tq_1
  show W p l e rm0_remember s m args below meth c H locs 0 0 _ (F0 m 8 ls [.ref (ga g q_1)])
  refine lv_aload_n hx hb dX0_remember_8 rfl (lv_at hl 1 rfl) ?_
  obtain ⟨I_5, hc_6, h⟩ := clM_e h
  refine r_callV (As := [.ref (ga g k1)]) [] X (c5_become l g hG N _ _ _ Tq_1 t1 _ hc_6) cal_X5_become (im_X5_become) (se_X5_become) k_317 (tag_lt Tq_1 (by decide)) (by rw [lay, Tq_1]; rfl) rfl rfl ⟨rfl, rfl⟩ ⟨Nat.le_of_ble_eq_true rfl, Nat.le_of_ble_eq_true rfl⟩ hP hS hl.1 rfl (Nat.le_of_ble_eq_true rfl) dX0_remember_9 ⟨Nat.zero_le _, Nat.zero_le _⟩ (fun H locs hP hS => ?_)
  show W p l e rm0_remember s m args below meth c H locs 0 0 _ (F0 m 12 ls [])
  refine lv_aload_n hx hb dX0_remember_12 rfl (lv_at hl 0 rfl) ?_
  refine lv_dup hx hb dX0_remember_13 rfl ?_
  refine g0_1 X hP t0 k_104 dX0_remember_14 ?_
  refine lv_iconst (v := (1 : Int32)) hx hb dX0_remember_17 (by decide +kernel) ?_
  refine lv_iadd hx hb dX0_remember_18 ?_
  obtain ⟨I_7, eI_7, h⟩ := letM_e h
  refine p0_1 X hP hS t0 k_104 eI_7 dX0_remember_19 (fun H locs hP hS => ?_)
  refine lv_aload_n hx hb dX0_remember_22 rfl (lv_at hl 0 rfl) ?_
  refine lv_aload_n hx hb dX0_remember_23 rfl (lv_at hl 0 rfl) ?_
  refine g0_2 X hP t0 k_105 dX0_remember_24 ?_
  refine lv_iconst (v := (1 : Int32)) hx hb dX0_remember_27 (by decide +kernel) ?_
  refine lv_iadd hx hb dX0_remember_28 ?_
  refine lv_bipush (v := (14 : Int32)) hx hb dX0_remember_29 (by decide +kernel) ?_
  obtain ⟨q_8, I_9, hc_10, h⟩ := clP_e h
  refine r_callS (As := [.int ((I_7 k0 2) + (1 : Int32)), .int (14 : Int32)]) [.ref (ga g k0)] X (ccJ9_min_7cf53 l g hG N _ _ _ _ _ hc_10) cal_J9_min_7cf53 (sc_J9_min_7cf53) k_321 rfl ⟨rfl, rfl⟩ ⟨Nat.le_of_ble_eq_true rfl, Nat.le_of_ble_eq_true rfl⟩ hP hS hl.1 rfl (Nat.le_of_ble_eq_true rfl) dX0_remember_31 ⟨Nat.zero_le _, Nat.zero_le _⟩ (fun H locs hP hS => ?_)
  show W p l e rm0_remember s m args below meth c H locs 0 0 _ (F0 m 34 ls [.int q_8, .ref (ga g k0)])
  obtain ⟨I_11, eI_11, h⟩ := letM_e h
  refine p0_2 X hP hS t0 k_105 eI_11 dX0_remember_34 (fun H locs hP hS => ?_)
  exact r_vret X hr hlk hP hS dX0_remember_37 h
abbrev rm0_takeBack : Room := { frames := 2, cells := 0, slots := 0, locals := 43 }
def f0_takeBack (N : Nat) (I : Mem) (k0 : Nat) (k1 : Nat) : Option (Int32 × Mem) :=
    if (I k0 2) = (0 : Int32) then
    some ((0 : Int32), I)
    else
    letM (st I k0 2 ((I k0 2) - (1 : Int32))) (fun I_2 : Mem =>
    letM (st I_2 k0 1 ((I_2 k0 1) - (1 : Int32))) (fun I_3 : Mem =>
    clP (f0_at N I_3 k0 (I_3 k0 1)) (fun (q_4 : Nat) (I_5 : Mem) =>
    if ¬ tag q_4 = 4 then none else
    clM (f5_become N I_5 k1 q_4) (fun I_8 : Mem =>
    some ((1 : Int32), I_8)))))
set_option maxHeartbeats 4000000 in
set_option maxRecDepth 100000 in
theorem c0_takeBack (l : Launch) (g : GG) (hG : Apart g NT) (N : Nat) (I : Mem) (k0 : Nat) (k1 : Nat) (t0 : tag k0 = 0) (t1 : tag k1 = 4) (r0 : Int32) (I0 : Mem) (h : f0_takeBack N I k0 k1 = some (r0, I0)) : Mc l g yX0_takeBack cX0_takeBack 2 (some .boolean) rm0_takeBack I [.ref (ga g k0), .ref (ga g k1)] (some (.int r0)) I0 := by
  refine Mc.of hG (by decide +kernel) (Nat.le_of_ble_eq_true rfl) ?_
  intro p e s m args below meth c ls X hr hlk hP hS hl
  have X : Cx g p s m args c cX0_takeBack RX0 2 := X
  have hx := X.hx
  have hb := X.hb
  have hl : lv_has ls 2 [(0, .ref (ga g k0)), (1, .ref (ga g k1))] := hl
  have locs : List Loc := []
  unfold f0_takeBack at h
  refine lv_aload_n hx hb dX0_takeBack_0 rfl (lv_at hl 0 rfl) ?_
  refine g0_2 X hP t0 k_105 dX0_takeBack_1 ?_
  refine lv_if_ne (tgt := 9) hx hb dX0_takeBack_4 (by decide) (fun c_1 => ?_) (fun c_1 => ?_)
  · replace h := ifn c_1 h
    refine lv_aload_n hx hb dX0_takeBack_9 rfl (lv_at hl 0 rfl) ?_
    refine lv_dup hx hb dX0_takeBack_10 rfl ?_
    refine g0_2 X hP t0 k_105 dX0_takeBack_11 ?_
    refine lv_iconst (v := (1 : Int32)) hx hb dX0_takeBack_14 (by decide +kernel) ?_
    refine lv_isub hx hb dX0_takeBack_15 ?_
    obtain ⟨I_2, eI_2, h⟩ := letM_e h
    refine p0_2 X hP hS t0 k_105 eI_2 dX0_takeBack_16 (fun H locs hP hS => ?_)
    refine lv_aload_n hx hb dX0_takeBack_19 rfl (lv_at hl 0 rfl) ?_
    refine lv_dup hx hb dX0_takeBack_20 rfl ?_
    refine g0_1 X hP t0 k_104 dX0_takeBack_21 ?_
    refine lv_iconst (v := (1 : Int32)) hx hb dX0_takeBack_24 (by decide +kernel) ?_
    refine lv_isub hx hb dX0_takeBack_25 ?_
    obtain ⟨I_3, eI_3, h⟩ := letM_e h
    refine p0_1 X hP hS t0 k_104 eI_3 dX0_takeBack_26 (fun H locs hP hS => ?_)
    refine lv_aload_n hx hb dX0_takeBack_29 rfl (lv_at hl 1 rfl) ?_
    refine lv_aload_n hx hb dX0_takeBack_30 rfl (lv_at hl 0 rfl) ?_
    refine lv_aload_n hx hb dX0_takeBack_31 rfl (lv_at hl 0 rfl) ?_
    refine g0_1 X hP t0 k_104 dX0_takeBack_32 ?_
    obtain ⟨q_4, I_5, hc_6, h⟩ := clP_e h
    refine r_callV (As := [.int (I_3 k0 1)]) [.ref (ga g k1)] X (c0_at l g hG N _ _ _ t0 _ _ hc_6) cal_X0_at (im_X0_at) (se_X0_at) k_310 (tag_lt t0 (by decide)) (by rw [lay, t0]; rfl) rfl rfl ⟨rfl, rfl⟩ ⟨Nat.le_of_ble_eq_true rfl, Nat.le_of_ble_eq_true rfl⟩ hP hS hl.1 rfl (Nat.le_of_ble_eq_true rfl) dX0_takeBack_35 ⟨Nat.zero_le _, Nat.zero_le _⟩ (fun H locs hP hS => ?_)
    obtain ⟨Tq_4, h⟩ := gd_e h
    replace Tq_4 := Classical.not_not.mp Tq_4
    show W p l e rm0_takeBack s m args below meth c H locs 0 0 _ (F0 m 38 ls [.ref (ga g q_4), .ref (ga g k1)])
    obtain ⟨I_8, hc_9, h⟩ := clM_e h
    refine r_callV (As := [.ref (ga g q_4)]) [] X (c5_become l g hG N _ _ _ t1 Tq_4 _ hc_9) cal_X5_become (im_X5_become) (se_X5_become) k_317 (tag_lt t1 (by decide)) (by rw [lay, t1]; rfl) rfl rfl ⟨rfl, rfl⟩ ⟨Nat.le_of_ble_eq_true rfl, Nat.le_of_ble_eq_true rfl⟩ hP hS hl.1 rfl (Nat.le_of_ble_eq_true rfl) dX0_takeBack_38 ⟨Nat.zero_le _, Nat.zero_le _⟩ (fun H locs hP hS => ?_)
    show W p l e rm0_takeBack s m args below meth c H locs 0 0 _ (F0 m 41 ls [])
    refine lv_iconst (v := (1 : Int32)) hx hb dX0_takeBack_41 (by decide +kernel) ?_
    exact r_zret X hr hlk hP hS rfl dX0_takeBack_42 h
  · replace h := ifp c_1 h
    refine lv_iconst (v := (0 : Int32)) hx hb dX0_takeBack_7 (by decide +kernel) ?_
    exact r_zret X hr hlk hP hS rfl dX0_takeBack_8 h
abbrev rm0_forget : Room := { frames := 0, cells := 0, slots := 0, locals := 0 }
def f0_forget (N : Nat) (I : Mem) (k0 : Nat) : Option (Mem) :=
    letM (st I k0 2 (0 : Int32)) (fun I_1 : Mem =>
    some I_1)
set_option maxHeartbeats 4000000 in
set_option maxRecDepth 100000 in
theorem c0_forget (l : Launch) (g : GG) (hG : Apart g NT) (N : Nat) (I : Mem) (k0 : Nat) (t0 : tag k0 = 0) (I0 : Mem) (h : f0_forget N I k0 = some I0) : Mc l g yX0_forget cX0_forget 1 none rm0_forget I [.ref (ga g k0)] none I0 := by
  refine Mc.of hG (by decide +kernel) (Nat.le_of_ble_eq_true rfl) ?_
  intro p e s m args below meth c ls X hr hlk hP hS hl
  have X : Cx g p s m args c cX0_forget RX0 1 := X
  have hx := X.hx
  have hb := X.hb
  have hl : lv_has ls 1 [(0, .ref (ga g k0))] := hl
  have locs : List Loc := []
  unfold f0_forget at h
  refine lv_aload_n hx hb dX0_forget_0 rfl (lv_at hl 0 rfl) ?_
  refine lv_iconst (v := (0 : Int32)) hx hb dX0_forget_1 (by decide +kernel) ?_
  obtain ⟨I_1, eI_1, h⟩ := letM_e h
  refine p0_2 X hP hS t0 k_105 eI_1 dX0_forget_2 (fun H locs hP hS => ?_)
  exact r_vret X hr hlk hP hS dX0_forget_5 h
abbrev rm6_append : Room := { frames := 1, cells := 0, slots := 0, locals := 21 }
def f6_append (N : Nat) (I : Mem) (k0 : Nat) (a1 : Int32) : Option (Int32 × Mem) :=
    if a1 < (0 : Int32) then
    some ((-2 : Int32), I)
    else
    if a1 ≤ (255 : Int32) then
    clP (f4_add N I (k0 + 1) a1) (fun (q_3 : Int32) (I_4 : Mem) =>
    if q_3 = (0 : Int32) then
    some ((-4 : Int32), I_4)
    else
    some ((I_4 (k0 + 1) 1), I_4))
    else
    some ((-2 : Int32), I)
set_option maxHeartbeats 4000000 in
set_option maxRecDepth 100000 in
theorem c6_append (l : Launch) (g : GG) (hG : Apart g NT) (N : Nat) (I : Mem) (k0 : Nat) (a1 : Int32) (t0 : tag k0 = 5) (r0 : Int32) (I0 : Mem) (h : f6_append N I k0 a1 = some (r0, I0)) : Mc l g yX6_append cX6_append 2 (some .int) rm6_append I [.ref (ga g k0), .int a1] (some (.int r0)) I0 := by
  refine Mc.of hG (by decide +kernel) (Nat.le_of_ble_eq_true rfl) ?_
  intro p e s m args below meth c ls X hr hlk hP hS hl
  have X : Cx g p s m args c cX6_append RX6 2 := X
  have hx := X.hx
  have hb := X.hb
  have hl : lv_has ls 2 [(0, .ref (ga g k0)), (1, .int a1)] := hl
  have locs : List Loc := []
  unfold f6_append at h
  refine lv_iload_n hx hb dX6_append_0 rfl (lv_at hl 1 rfl) ?_
  refine lv_if_lt (tgt := 11) hx hb dX6_append_1 (by decide) (fun c_1 => ?_) (fun c_1 => ?_)
  · replace h := ifp c_1 h
    refine lv_bipush (v := (-2 : Int32)) hx hb dX6_append_11 (by decide +kernel) ?_
    exact r_iret X hr hlk hP hS dX6_append_13 h
  · replace h := ifn c_1 h
    refine lv_iload_n hx hb dX6_append_4 rfl (lv_at hl 1 rfl) ?_
    refine lv_sipush (v := (255 : Int32)) hx hb dX6_append_5 (by decide +kernel) ?_
    refine lv_icmp_le (tgt := 14) hx hb dX6_append_8 (by decide) (fun c_2 => ?_) (fun c_2 => ?_)
    · replace h := ifp c_2 h
      refine lv_aload_n hx hb dX6_append_14 rfl (lv_at hl 0 rfl) ?_
      refine g6_0 X hP t0 k_154 dX6_append_15 ?_
      refine lv_iload_n hx hb dX6_append_18 rfl (lv_at hl 1 rfl) ?_
      obtain ⟨q_3, I_4, hc_5, h⟩ := clP_e h
      refine r_callV (As := [.int a1]) [] X (c4_add l g hG N _ _ _ (g6_0_t t0) _ _ hc_5) cal_X4_add (im_X4_add) (se_X4_add) k_192 (tag_lt (g6_0_t t0) (by decide)) (by rw [lay, (g6_0_t t0)]; rfl) rfl rfl ⟨rfl, rfl⟩ ⟨Nat.le_of_ble_eq_true rfl, Nat.le_of_ble_eq_true rfl⟩ hP hS hl.1 rfl (Nat.le_of_ble_eq_true rfl) dX6_append_19 ⟨Nat.zero_le _, Nat.zero_le _⟩ (fun H locs hP hS => ?_)
      show W p l e rm6_append s m args below meth c H locs 0 0 _ (F0 m 22 ls [.int q_3])
      refine lv_if_eq (tgt := 35) hx hb dX6_append_22 (by decide) (fun c_6 => ?_) (fun c_6 => ?_)
      · replace h := ifp c_6 h
        refine lv_bipush (v := (-4 : Int32)) hx hb dX6_append_35 (by decide +kernel) ?_
        exact r_iret X hr hlk hP hS dX6_append_37 h
      · replace h := ifn c_6 h
        refine lv_aload_n hx hb dX6_append_25 rfl (lv_at hl 0 rfl) ?_
        refine g6_0 X hP t0 k_154 dX6_append_26 ?_
        refine g4_1 X hP (g6_0_t t0) k_29 dX6_append_29 ?_
        refine lv_goto (tgt := 37) hx hb dX6_append_32 (by decide) ?_
        exact r_iret X hr hlk hP hS dX6_append_37 h
    · replace h := ifn c_2 h
      refine lv_bipush (v := (-2 : Int32)) hx hb dX6_append_11 (by decide +kernel) ?_
      exact r_iret X hr hlk hP hS dX6_append_13 h
abbrev rm6_clearText : Room := { frames := 0, cells := 0, slots := 0, locals := 0 }
def f6_clearText (N : Nat) (I : Mem) (k0 : Nat) : Option (Int32 × Mem) :=
    letM (I (k0 + 1) 1) (fun x_1 : Int32 =>
    letM (st I (k0 + 1) 1 (0 : Int32)) (fun I_2 : Mem =>
    some (x_1, I_2)))
set_option maxHeartbeats 4000000 in
set_option maxRecDepth 100000 in
theorem c6_clearText (l : Launch) (g : GG) (hG : Apart g NT) (N : Nat) (I : Mem) (k0 : Nat) (t0 : tag k0 = 5) (r0 : Int32) (I0 : Mem) (h : f6_clearText N I k0 = some (r0, I0)) : Mc l g yX6_clearText cX6_clearText 2 (some .int) rm6_clearText I [.ref (ga g k0)] (some (.int r0)) I0 := by
  refine Mc.of hG (by decide +kernel) (Nat.le_of_ble_eq_true rfl) ?_
  intro p e s m args below meth c ls X hr hlk hP hS hl
  have X : Cx g p s m args c cX6_clearText RX6 2 := X
  have hx := X.hx
  have hb := X.hb
  have hl : lv_has ls 2 [(0, .ref (ga g k0))] := hl
  have locs : List Loc := []
  unfold f6_clearText at h
  refine lv_aload_n hx hb dX6_clearText_0 rfl (lv_at hl 0 rfl) ?_
  refine g6_0 X hP t0 k_154 dX6_clearText_1 ?_
  refine g4_1 X hP (g6_0_t t0) k_29 dX6_clearText_4 ?_
  obtain ⟨x_1, ex_1, h⟩ := letM_e h
  refine r_nmi ex_1 ?_
  refine lv_istore_n (lv' := [(1, .int x_1), (0, .ref (ga g k0))]) hx hb dX6_clearText_7 rfl hl (by decide) rfl (fun ls hl => ?_)
  refine lv_aload_n hx hb dX6_clearText_8 rfl (lv_at hl 1 rfl) ?_
  refine g6_0 X hP t0 k_154 dX6_clearText_9 ?_
  refine lv_iconst (v := (0 : Int32)) hx hb dX6_clearText_12 (by decide +kernel) ?_
  obtain ⟨I_2, eI_2, h⟩ := letM_e h
  refine p4_1 X hP hS (g6_0_t t0) k_29 eI_2 dX6_clearText_13 (fun H locs hP hS => ?_)
  refine lv_iload_n hx hb dX6_clearText_16 rfl (lv_at hl 0 rfl) ?_
  exact r_iret X hr hlk hP hS dX6_clearText_17 h
abbrev rm6_errorPosition : Room := { frames := 5, cells := 0, slots := 0, locals := 113 }
def f6_errorPosition (N : Nat) (I : Mem) (k0 : Nat) : Option (Int32 × Mem) :=
    clP (f4_readInto N I (k0 + 1) (k0 + 7)) (fun (q_1 : Int32) (I_2 : Mem) =>
    some (q_1, I_2))
set_option maxHeartbeats 4000000 in
set_option maxRecDepth 100000 in
theorem c6_errorPosition (l : Launch) (g : GG) (hG : Apart g NT) (N : Nat) (I : Mem) (k0 : Nat) (t0 : tag k0 = 5) (r0 : Int32) (I0 : Mem) (h : f6_errorPosition N I k0 = some (r0, I0)) : Mc l g yX6_errorPosition cX6_errorPosition 1 (some .int) rm6_errorPosition I [.ref (ga g k0)] (some (.int r0)) I0 := by
  refine Mc.of hG (by decide +kernel) (Nat.le_of_ble_eq_true rfl) ?_
  intro p e s m args below meth c ls X hr hlk hP hS hl
  have X : Cx g p s m args c cX6_errorPosition RX6 1 := X
  have hx := X.hx
  have hb := X.hb
  have hl : lv_has ls 1 [(0, .ref (ga g k0))] := hl
  have locs : List Loc := []
  unfold f6_errorPosition at h
  refine lv_aload_n hx hb dX6_errorPosition_0 rfl (lv_at hl 0 rfl) ?_
  refine g6_0 X hP t0 k_154 dX6_errorPosition_1 ?_
  refine lv_aload_n hx hb dX6_errorPosition_4 rfl (lv_at hl 0 rfl) ?_
  refine g6_2 X hP t0 k_156 dX6_errorPosition_5 ?_
  obtain ⟨q_1, I_2, hc_3, h⟩ := clP_e h
  refine r_callV (As := [.ref (ga g (k0 + 7))]) [] X (c4_readInto l g hG N _ _ _ (g6_0_t t0) (g6_2_t t0) _ _ hc_3) cal_X4_readInto (im_X4_readInto) (se_X4_readInto) k_552 (tag_lt (g6_0_t t0) (by decide)) (by rw [lay, (g6_0_t t0)]; rfl) rfl rfl ⟨rfl, rfl⟩ ⟨Nat.le_of_ble_eq_true rfl, Nat.le_of_ble_eq_true rfl⟩ hP hS hl.1 rfl (Nat.le_of_ble_eq_true rfl) dX6_errorPosition_8 ⟨Nat.zero_le _, Nat.zero_le _⟩ (fun H locs hP hS => ?_)
  show W p l e rm6_errorPosition s m args below meth c H locs 0 0 _ (F0 m 11 ls [.int q_1])
  exact r_iret X hr hlk hP hS dX6_errorPosition_11 h
abbrev rm6_load : Room := { frames := 5, cells := 0, slots := 0, locals := 113 }
def f6_load (N : Nat) (I : Mem) (k0 : Nat) : Option (Int32 × Mem) :=
    clP (f4_readInto N I (k0 + 1) (k0 + 7)) (fun (q_1 : Int32) (I_2 : Mem) =>
    if q_1 = (-9 : Int32) then
    clM (f5_become N I_2 (k0 + 3) (k0 + 7)) (fun I_6 : Mem =>
    clM (f0_forget N I_6 (k0 + 11)) (fun I_9 : Mem =>
    letM (st I_9 (k0 + 69) 1 (0 : Int32)) (fun I_11 : Mem =>
    letM (st I_11 (k0 + 74) 1 (0 : Int32)) (fun I_12 : Mem =>
    some ((I_12 (k0 + 3) 5), I_12)))))
    else
    some ((-3 : Int32), I_2))
set_option maxHeartbeats 4000000 in
set_option maxRecDepth 100000 in
theorem c6_load (l : Launch) (g : GG) (hG : Apart g NT) (N : Nat) (I : Mem) (k0 : Nat) (t0 : tag k0 = 5) (r0 : Int32) (I0 : Mem) (h : f6_load N I k0 = some (r0, I0)) : Mc l g yX6_load cX6_load 1 (some .int) rm6_load I [.ref (ga g k0)] (some (.int r0)) I0 := by
  refine Mc.of hG (by decide +kernel) (Nat.le_of_ble_eq_true rfl) ?_
  intro p e s m args below meth c ls X hr hlk hP hS hl
  have X : Cx g p s m args c cX6_load RX6 1 := X
  have hx := X.hx
  have hb := X.hb
  have hl : lv_has ls 1 [(0, .ref (ga g k0))] := hl
  have locs : List Loc := []
  unfold f6_load at h
  refine lv_aload_n hx hb dX6_load_0 rfl (lv_at hl 0 rfl) ?_
  refine g6_0 X hP t0 k_154 dX6_load_1 ?_
  refine lv_aload_n hx hb dX6_load_4 rfl (lv_at hl 0 rfl) ?_
  refine g6_2 X hP t0 k_156 dX6_load_5 ?_
  obtain ⟨q_1, I_2, hc_3, h⟩ := clP_e h
  refine r_callV (As := [.ref (ga g (k0 + 7))]) [] X (c4_readInto l g hG N _ _ _ (g6_0_t t0) (g6_2_t t0) _ _ hc_3) cal_X4_readInto (im_X4_readInto) (se_X4_readInto) k_552 (tag_lt (g6_0_t t0) (by decide)) (by rw [lay, (g6_0_t t0)]; rfl) rfl rfl ⟨rfl, rfl⟩ ⟨Nat.le_of_ble_eq_true rfl, Nat.le_of_ble_eq_true rfl⟩ hP hS hl.1 rfl (Nat.le_of_ble_eq_true rfl) dX6_load_8 ⟨Nat.zero_le _, Nat.zero_le _⟩ (fun H locs hP hS => ?_)
  show W p l e rm6_load s m args below meth c H locs 0 0 _ (F0 m 11 ls [.int q_1])
  refine lv_bipush (v := (-9 : Int32)) hx hb dX6_load_11 (by decide +kernel) ?_
  refine lv_icmp_eq (tgt := 19) hx hb dX6_load_13 (by decide) (fun c_4 => ?_) (fun c_4 => ?_)
  · replace h := ifp c_4 h
    refine lv_aload_n hx hb dX6_load_19 rfl (lv_at hl 0 rfl) ?_
    refine g6_1 X hP t0 k_155 dX6_load_20 ?_
    refine lv_aload_n hx hb dX6_load_23 rfl (lv_at hl 0 rfl) ?_
    refine g6_2 X hP t0 k_156 dX6_load_24 ?_
    obtain ⟨I_6, hc_7, h⟩ := clM_e h
    refine r_callV (As := [.ref (ga g (k0 + 7))]) [] X (c5_become l g hG N _ _ _ (g6_1_t t0) (g6_2_t t0) _ hc_7) cal_X5_become (im_X5_become) (se_X5_become) k_414 (tag_lt (g6_1_t t0) (by decide)) (by rw [lay, (g6_1_t t0)]; rfl) rfl rfl ⟨rfl, rfl⟩ ⟨Nat.le_of_ble_eq_true rfl, Nat.le_of_ble_eq_true rfl⟩ hP hS hl.1 rfl (Nat.le_of_ble_eq_true rfl) dX6_load_27 ⟨Nat.zero_le _, Nat.zero_le _⟩ (fun H locs hP hS => ?_)
    show W p l e rm6_load s m args below meth c H locs 0 0 _ (F0 m 30 ls [])
    refine lv_aload_n hx hb dX6_load_30 rfl (lv_at hl 0 rfl) ?_
    refine g6_3 X hP t0 k_157 dX6_load_31 ?_
    obtain ⟨I_9, hc_10, h⟩ := clM_e h
    refine r_callV (As := []) [] X (c0_forget l g hG N _ _ (g6_3_t t0) _ hc_10) cal_X0_forget (im_X0_forget) (se_X0_forget) k_473 (tag_lt (g6_3_t t0) (by decide)) (by rw [lay, (g6_3_t t0)]; rfl) rfl rfl ⟨rfl, rfl⟩ ⟨Nat.le_of_ble_eq_true rfl, Nat.le_of_ble_eq_true rfl⟩ hP hS hl.1 rfl (Nat.le_of_ble_eq_true rfl) dX6_load_34 ⟨Nat.zero_le _, Nat.zero_le _⟩ (fun H locs hP hS => ?_)
    show W p l e rm6_load s m args below meth c H locs 0 0 _ (F0 m 37 ls [])
    refine lv_aload_n hx hb dX6_load_37 rfl (lv_at hl 0 rfl) ?_
    refine g6_4 X hP t0 k_158 dX6_load_38 ?_
    refine lv_iconst (v := (0 : Int32)) hx hb dX6_load_41 (by decide +kernel) ?_
    obtain ⟨I_11, eI_11, h⟩ := letM_e h
    refine p3_1 X hP hS (g6_4_t t0) k_124 eI_11 ⟨rfl, rfl⟩ dX6_load_42 (fun H locs hP hS => ?_)
    refine lv_aload_n hx hb dX6_load_45 rfl (lv_at hl 0 rfl) ?_
    refine g6_5 X hP t0 k_159 dX6_load_46 ?_
    refine lv_iconst (v := (0 : Int32)) hx hb dX6_load_49 (by decide +kernel) ?_
    obtain ⟨I_12, eI_12, h⟩ := letM_e h
    refine p3_1 X hP hS (g6_5_t t0) k_124 eI_12 ⟨rfl, rfl⟩ dX6_load_50 (fun H locs hP hS => ?_)
    refine lv_aload_n hx hb dX6_load_53 rfl (lv_at hl 0 rfl) ?_
    refine g6_1 X hP t0 k_155 dX6_load_54 ?_
    refine g5_5 X hP (g6_1_t t0) k_60 dX6_load_57 ?_
    exact r_iret X hr hlk hP hS dX6_load_60 h
  · replace h := ifn c_4 h
    refine lv_bipush (v := (-3 : Int32)) hx hb dX6_load_16 (by decide +kernel) ?_
    exact r_iret X hr hlk hP hS dX6_load_18 h
abbrev rm6_isAxis : Room := { frames := 0, cells := 0, slots := 0, locals := 0 }
def f6_isAxis (N : Nat) (I : Mem) (a0 : Int32) : Option (Int32 × Mem) :=
    if a0 = (0 : Int32) then
    some ((1 : Int32), I)
    else
    if a0 = (1 : Int32) then
    some ((1 : Int32), I)
    else
    some ((0 : Int32), I)
set_option maxHeartbeats 4000000 in
set_option maxRecDepth 100000 in
theorem c6_isAxis (l : Launch) (g : GG) (hG : Apart g NT) (N : Nat) (I : Mem) (a0 : Int32) (r0 : Int32) (I0 : Mem) (h : f6_isAxis N I a0 = some (r0, I0)) : Mc l g yX6_isAxis cX6_isAxis 1 (some .boolean) rm6_isAxis I [.int a0] (some (.int r0)) I0 := by
  refine Mc.of hG (by decide +kernel) (Nat.le_of_ble_eq_true rfl) ?_
  intro p e s m args below meth c ls X hr hlk hP hS hl
  have X : Cx g p s m args c cX6_isAxis RX6 1 := X
  have hx := X.hx
  have hb := X.hb
  have hl : lv_has ls 1 [(0, .int a0)] := hl
  have locs : List Loc := []
  unfold f6_isAxis at h
  refine lv_iload_n hx hb dX6_isAxis_0 rfl (lv_at hl 0 rfl) ?_
  refine lv_if_eq (tgt := 9) hx hb dX6_isAxis_1 (by decide) (fun c_1 => ?_) (fun c_1 => ?_)
  · replace h := ifp c_1 h
    refine lv_iconst (v := (1 : Int32)) hx hb dX6_isAxis_9 (by decide +kernel) ?_
    refine lv_goto (tgt := 14) hx hb dX6_isAxis_10 (by decide) ?_
    exact r_zret X hr hlk hP hS rfl dX6_isAxis_14 h
  · replace h := ifn c_1 h
    refine lv_iload_n hx hb dX6_isAxis_4 rfl (lv_at hl 0 rfl) ?_
    refine lv_iconst (v := (1 : Int32)) hx hb dX6_isAxis_5 (by decide +kernel) ?_
    refine lv_icmp_ne (tgt := 13) hx hb dX6_isAxis_6 (by decide) (fun c_2 => ?_) (fun c_2 => ?_)
    · replace h := ifn c_2 h
      refine lv_iconst (v := (0 : Int32)) hx hb dX6_isAxis_13 (by decide +kernel) ?_
      exact r_zret X hr hlk hP hS rfl dX6_isAxis_14 h
    · replace h := ifp c_2 h
      refine lv_iconst (v := (1 : Int32)) hx hb dX6_isAxis_9 (by decide +kernel) ?_
      refine lv_goto (tgt := 14) hx hb dX6_isAxis_10 (by decide) ?_
      exact r_zret X hr hlk hP hS rfl dX6_isAxis_14 h
abbrev rm6_position : Room := { frames := 1, cells := 0, slots := 0, locals := 21 }
def f6_position (N : Nat) (I : Mem) (k0 : Nat) (a1 : Int32) : Option (Int32 × Mem) :=
    clP (f6_isAxis N I a1) (fun (q_1 : Int32) (I_2 : Mem) =>
    if q_1 = (0 : Int32) then
    some ((-1 : Int32), I_2)
    else
    clP (f5_shownPosition N I_2 (k0 + 3) a1) (fun (q_5 : Int32) (I_6 : Mem) =>
    some (q_5, I_6)))
set_option maxHeartbeats 4000000 in
set_option maxRecDepth 100000 in
theorem c6_position (l : Launch) (g : GG) (hG : Apart g NT) (N : Nat) (I : Mem) (k0 : Nat) (a1 : Int32) (t0 : tag k0 = 5) (r0 : Int32) (I0 : Mem) (h : f6_position N I k0 a1 = some (r0, I0)) : Mc l g yX6_position cX6_position 2 (some .int) rm6_position I [.ref (ga g k0), .int a1] (some (.int r0)) I0 := by
  refine Mc.of hG (by decide +kernel) (Nat.le_of_ble_eq_true rfl) ?_
  intro p e s m args below meth c ls X hr hlk hP hS hl
  have X : Cx g p s m args c cX6_position RX6 2 := X
  have hx := X.hx
  have hb := X.hb
  have hl : lv_has ls 2 [(0, .ref (ga g k0)), (1, .int a1)] := hl
  have locs : List Loc := []
  unfold f6_position at h
  refine lv_iload_n hx hb dX6_position_0 rfl (lv_at hl 1 rfl) ?_
  obtain ⟨q_1, I_2, hc_3, h⟩ := clP_e h
  refine r_callS (As := [.int a1]) [] X (c6_isAxis l g hG N _ _ _ _ hc_3) cal_X6_isAxis (sc_X6_isAxis) k_200 rfl ⟨rfl, rfl⟩ ⟨Nat.le_of_ble_eq_true rfl, Nat.le_of_ble_eq_true rfl⟩ hP hS hl.1 rfl (Nat.le_of_ble_eq_true rfl) dX6_position_1 ⟨Nat.zero_le _, Nat.zero_le _⟩ (fun H locs hP hS => ?_)
  show W p l e rm6_position s m args below meth c H locs 0 0 _ (F0 m 4 ls [.int q_1])
  refine lv_if_eq (tgt := 18) hx hb dX6_position_4 (by decide) (fun c_4 => ?_) (fun c_4 => ?_)
  · replace h := ifp c_4 h
    refine lv_iconst (v := (-1 : Int32)) hx hb dX6_position_18 (by decide +kernel) ?_
    exact r_iret X hr hlk hP hS dX6_position_19 h
  · replace h := ifn c_4 h
    refine lv_aload_n hx hb dX6_position_7 rfl (lv_at hl 0 rfl) ?_
    refine g6_1 X hP t0 k_155 dX6_position_8 ?_
    refine lv_iload_n hx hb dX6_position_11 rfl (lv_at hl 1 rfl) ?_
    obtain ⟨q_5, I_6, hc_7, h⟩ := clP_e h
    refine r_callV (As := [.int a1]) [] X (c5_shownPosition l g hG N _ _ _ (g6_1_t t0) _ _ hc_7) cal_X5_shownPosition (im_X5_shownPosition) (se_X5_shownPosition) k_203 (tag_lt (g6_1_t t0) (by decide)) (by rw [lay, (g6_1_t t0)]; rfl) rfl rfl ⟨rfl, rfl⟩ ⟨Nat.le_of_ble_eq_true rfl, Nat.le_of_ble_eq_true rfl⟩ hP hS hl.1 rfl (Nat.le_of_ble_eq_true rfl) dX6_position_12 ⟨Nat.zero_le _, Nat.zero_le _⟩ (fun H locs hP hS => ?_)
    show W p l e rm6_position s m args below meth c H locs 0 0 _ (F0 m 15 ls [.int q_5])
    refine lv_goto (tgt := 19) hx hb dX6_position_15 (by decide) ?_
    exact r_iret X hr hlk hP hS dX6_position_19 h
abbrev rm6_clock : Room := { frames := 0, cells := 0, slots := 0, locals := 0 }
def f6_clock (N : Nat) (I : Mem) (k0 : Nat) : Option (Int32 × Mem) :=
    some ((I (k0 + 3) 4), I)
set_option maxHeartbeats 4000000 in
set_option maxRecDepth 100000 in
theorem c6_clock (l : Launch) (g : GG) (hG : Apart g NT) (N : Nat) (I : Mem) (k0 : Nat) (t0 : tag k0 = 5) (r0 : Int32) (I0 : Mem) (h : f6_clock N I k0 = some (r0, I0)) : Mc l g yX6_clock cX6_clock 1 (some .int) rm6_clock I [.ref (ga g k0)] (some (.int r0)) I0 := by
  refine Mc.of hG (by decide +kernel) (Nat.le_of_ble_eq_true rfl) ?_
  intro p e s m args below meth c ls X hr hlk hP hS hl
  have X : Cx g p s m args c cX6_clock RX6 1 := X
  have hx := X.hx
  have hb := X.hb
  have hl : lv_has ls 1 [(0, .ref (ga g k0))] := hl
  have locs : List Loc := []
  unfold f6_clock at h
  refine lv_aload_n hx hb dX6_clock_0 rfl (lv_at hl 0 rfl) ?_
  refine g6_1 X hP t0 k_155 dX6_clock_1 ?_
  refine g5_4 X hP (g6_1_t t0) k_58 dX6_clock_4 ?_
  exact r_iret X hr hlk hP hS dX6_clock_7 h
abbrev rm6_queueLength : Room := { frames := 0, cells := 0, slots := 0, locals := 0 }
def f6_queueLength (N : Nat) (I : Mem) (k0 : Nat) : Option (Int32 × Mem) :=
    some ((I (k0 + 3) 5), I)
set_option maxHeartbeats 4000000 in
set_option maxRecDepth 100000 in
theorem c6_queueLength (l : Launch) (g : GG) (hG : Apart g NT) (N : Nat) (I : Mem) (k0 : Nat) (t0 : tag k0 = 5) (r0 : Int32) (I0 : Mem) (h : f6_queueLength N I k0 = some (r0, I0)) : Mc l g yX6_queueLength cX6_queueLength 1 (some .int) rm6_queueLength I [.ref (ga g k0)] (some (.int r0)) I0 := by
  refine Mc.of hG (by decide +kernel) (Nat.le_of_ble_eq_true rfl) ?_
  intro p e s m args below meth c ls X hr hlk hP hS hl
  have X : Cx g p s m args c cX6_queueLength RX6 1 := X
  have hx := X.hx
  have hb := X.hb
  have hl : lv_has ls 1 [(0, .ref (ga g k0))] := hl
  have locs : List Loc := []
  unfold f6_queueLength at h
  refine lv_aload_n hx hb dX6_queueLength_0 rfl (lv_at hl 0 rfl) ?_
  refine g6_1 X hP t0 k_155 dX6_queueLength_1 ?_
  refine g5_5 X hP (g6_1_t t0) k_60 dX6_queueLength_4 ?_
  exact r_iret X hr hlk hP hS dX6_queueLength_7 h
abbrev rm6_itemAt : Room := { frames := 3, cells := 0, slots := 0, locals := 63 }
def f6_itemAt (N : Nat) (I : Mem) (k0 : Nat) (a1 : Int32) : Option (Int32 × Mem) :=
    clP (f5_hasItem N I (k0 + 3) a1) (fun (q_1 : Int32) (I_2 : Mem) =>
    if q_1 = (0 : Int32) then
    some ((-1 : Int32), I_2)
    else
    clP (f5_isWait N I_2 (k0 + 3) a1) (fun (q_5 : Int32) (I_6 : Mem) =>
    if q_5 = (0 : Int32) then
    clP (f5_stepsLeftOf N I_6 (k0 + 3) a1) (fun (q_9 : Int32) (I_10 : Mem) =>
    some (q_9, I_10))
    else
    if (a1 < (0 : Int32) ∨ 8 ≤ a1.toNatClampNeg) then none else
    some (((I_6 ((k0 + 3) + 3) (a1.toNatClampNeg)) + (10000 : Int32)), I_6)))
set_option maxHeartbeats 4000000 in
set_option maxRecDepth 100000 in
theorem c6_itemAt (l : Launch) (g : GG) (hG : Apart g NT) (N : Nat) (I : Mem) (k0 : Nat) (a1 : Int32) (t0 : tag k0 = 5) (r0 : Int32) (I0 : Mem) (h : f6_itemAt N I k0 a1 = some (r0, I0)) : Mc l g yX6_itemAt cX6_itemAt 2 (some .int) rm6_itemAt I [.ref (ga g k0), .int a1] (some (.int r0)) I0 := by
  refine Mc.of hG (by decide +kernel) (Nat.le_of_ble_eq_true rfl) ?_
  intro p e s m args below meth c ls X hr hlk hP hS hl
  have X : Cx g p s m args c cX6_itemAt RX6 2 := X
  have hx := X.hx
  have hb := X.hb
  have hl : lv_has ls 2 [(0, .ref (ga g k0)), (1, .int a1)] := hl
  have locs : List Loc := []
  unfold f6_itemAt at h
  refine lv_aload_n hx hb dX6_itemAt_0 rfl (lv_at hl 0 rfl) ?_
  refine g6_1 X hP t0 k_155 dX6_itemAt_1 ?_
  refine lv_iload_n hx hb dX6_itemAt_4 rfl (lv_at hl 1 rfl) ?_
  obtain ⟨q_1, I_2, hc_3, h⟩ := clP_e h
  refine r_callV (As := [.int a1]) [] X (c5_hasItem l g hG N _ _ _ (g6_1_t t0) _ _ hc_3) cal_X5_hasItem (im_X5_hasItem) (se_X5_hasItem) k_212 (tag_lt (g6_1_t t0) (by decide)) (by rw [lay, (g6_1_t t0)]; rfl) rfl rfl ⟨rfl, rfl⟩ ⟨Nat.le_of_ble_eq_true rfl, Nat.le_of_ble_eq_true rfl⟩ hP hS hl.1 rfl (Nat.le_of_ble_eq_true rfl) dX6_itemAt_5 ⟨Nat.zero_le _, Nat.zero_le _⟩ (fun H locs hP hS => ?_)
  show W p l e rm6_itemAt s m args below meth c H locs 0 0 _ (F0 m 8 ls [.int q_1])
  refine lv_if_ne (tgt := 13) hx hb dX6_itemAt_8 (by decide) (fun c_4 => ?_) (fun c_4 => ?_)
  · replace h := ifn c_4 h
    refine lv_aload_n hx hb dX6_itemAt_13 rfl (lv_at hl 0 rfl) ?_
    refine g6_1 X hP t0 k_155 dX6_itemAt_14 ?_
    refine lv_iload_n hx hb dX6_itemAt_17 rfl (lv_at hl 1 rfl) ?_
    obtain ⟨q_5, I_6, hc_7, h⟩ := clP_e h
    refine r_callV (As := [.int a1]) [] X (c5_isWait l g hG N _ _ _ (g6_1_t t0) _ _ hc_7) cal_X5_isWait (im_X5_isWait) (se_X5_isWait) k_216 (tag_lt (g6_1_t t0) (by decide)) (by rw [lay, (g6_1_t t0)]; rfl) rfl rfl ⟨rfl, rfl⟩ ⟨Nat.le_of_ble_eq_true rfl, Nat.le_of_ble_eq_true rfl⟩ hP hS hl.1 rfl (Nat.le_of_ble_eq_true rfl) dX6_itemAt_18 ⟨Nat.zero_le _, Nat.zero_le _⟩ (fun H locs hP hS => ?_)
    show W p l e rm6_itemAt s m args below meth c H locs 0 0 _ (F0 m 21 ls [.int q_5])
    refine lv_if_eq (tgt := 40) hx hb dX6_itemAt_21 (by decide) (fun c_8 => ?_) (fun c_8 => ?_)
    · replace h := ifp c_8 h
      refine lv_aload_n hx hb dX6_itemAt_40 rfl (lv_at hl 0 rfl) ?_
      refine g6_1 X hP t0 k_155 dX6_itemAt_41 ?_
      refine lv_iload_n hx hb dX6_itemAt_44 rfl (lv_at hl 1 rfl) ?_
      obtain ⟨q_9, I_10, hc_11, h⟩ := clP_e h
      refine r_callV (As := [.int a1]) [] X (c5_stepsLeftOf l g hG N _ _ _ (g6_1_t t0) _ _ hc_11) cal_X5_stepsLeftOf (im_X5_stepsLeftOf) (se_X5_stepsLeftOf) k_221 (tag_lt (g6_1_t t0) (by decide)) (by rw [lay, (g6_1_t t0)]; rfl) rfl rfl ⟨rfl, rfl⟩ ⟨Nat.le_of_ble_eq_true rfl, Nat.le_of_ble_eq_true rfl⟩ hP hS hl.1 rfl (Nat.le_of_ble_eq_true rfl) dX6_itemAt_45 ⟨Nat.zero_le _, Nat.zero_le _⟩ (fun H locs hP hS => ?_)
      show W p l e rm6_itemAt s m args below meth c H locs 0 0 _ (F0 m 48 ls [.int q_9])
      exact r_iret X hr hlk hP hS dX6_itemAt_48 h
    · replace h := ifn c_8 h
      refine lv_aload_n hx hb dX6_itemAt_24 rfl (lv_at hl 0 rfl) ?_
      refine g6_1 X hP t0 k_155 dX6_itemAt_25 ?_
      refine g5_8 X hP (g6_1_t t0) k_64 dX6_itemAt_28 ?_
      refine lv_iload_n hx hb dX6_itemAt_31 rfl (lv_at hl 1 rfl) ?_
      obtain ⟨g_12, h⟩ := gd_e h
      refine r_iald (n := 8) X hP (g5_8_t (g6_1_t t0)) g_12 (j := a1.toNatClampNeg) rfl dX6_itemAt_32 ?_
      refine lv_sipush (v := (10000 : Int32)) hx hb dX6_itemAt_33 (by decide +kernel) ?_
      refine lv_iadd hx hb dX6_itemAt_36 ?_
      refine lv_goto (tgt := 48) hx hb dX6_itemAt_37 (by decide) ?_
      exact r_iret X hr hlk hP hS dX6_itemAt_48 h
  · replace h := ifp c_4 h
    refine lv_iconst (v := (-1 : Int32)) hx hb dX6_itemAt_11 (by decide +kernel) ?_
    exact r_iret X hr hlk hP hS dX6_itemAt_12 h
abbrev rm6_rampIndex : Room := { frames := 1, cells := 0, slots := 0, locals := 20 }
def f6_rampIndex (N : Nat) (I : Mem) (k0 : Nat) : Option (Int32 × Mem) :=
    clP (f5_isMoving N I (k0 + 3)) (fun (q_1 : Int32) (I_2 : Mem) =>
    if q_1 = (0 : Int32) then
    some ((-9 : Int32), I_2)
    else
    some ((I_2 (k0 + 3) 11), I_2))
set_option maxHeartbeats 4000000 in
set_option maxRecDepth 100000 in
theorem c6_rampIndex (l : Launch) (g : GG) (hG : Apart g NT) (N : Nat) (I : Mem) (k0 : Nat) (t0 : tag k0 = 5) (r0 : Int32) (I0 : Mem) (h : f6_rampIndex N I k0 = some (r0, I0)) : Mc l g yX6_rampIndex cX6_rampIndex 1 (some .int) rm6_rampIndex I [.ref (ga g k0)] (some (.int r0)) I0 := by
  refine Mc.of hG (by decide +kernel) (Nat.le_of_ble_eq_true rfl) ?_
  intro p e s m args below meth c ls X hr hlk hP hS hl
  have X : Cx g p s m args c cX6_rampIndex RX6 1 := X
  have hx := X.hx
  have hb := X.hb
  have hl : lv_has ls 1 [(0, .ref (ga g k0))] := hl
  have locs : List Loc := []
  unfold f6_rampIndex at h
  refine lv_aload_n hx hb dX6_rampIndex_0 rfl (lv_at hl 0 rfl) ?_
  refine g6_1 X hP t0 k_155 dX6_rampIndex_1 ?_
  obtain ⟨q_1, I_2, hc_3, h⟩ := clP_e h
  refine r_callV (As := []) [] X (c5_isMoving l g hG N _ _ (g6_1_t t0) _ _ hc_3) cal_X5_isMoving (im_X5_isMoving) (se_X5_isMoving) k_305 (tag_lt (g6_1_t t0) (by decide)) (by rw [lay, (g6_1_t t0)]; rfl) rfl rfl ⟨rfl, rfl⟩ ⟨Nat.le_of_ble_eq_true rfl, Nat.le_of_ble_eq_true rfl⟩ hP hS hl.1 rfl (Nat.le_of_ble_eq_true rfl) dX6_rampIndex_4 ⟨Nat.zero_le _, Nat.zero_le _⟩ (fun H locs hP hS => ?_)
  show W p l e rm6_rampIndex s m args below meth c H locs 0 0 _ (F0 m 7 ls [.int q_1])
  refine lv_if_eq (tgt := 20) hx hb dX6_rampIndex_7 (by decide) (fun c_4 => ?_) (fun c_4 => ?_)
  · replace h := ifp c_4 h
    refine lv_bipush (v := (-9 : Int32)) hx hb dX6_rampIndex_20 (by decide +kernel) ?_
    exact r_iret X hr hlk hP hS dX6_rampIndex_22 h
  · replace h := ifn c_4 h
    refine lv_aload_n hx hb dX6_rampIndex_10 rfl (lv_at hl 0 rfl) ?_
    refine g6_1 X hP t0 k_155 dX6_rampIndex_11 ?_
    refine g5_11 X hP (g6_1_t t0) k_68 dX6_rampIndex_14 ?_
    refine lv_goto (tgt := 22) hx hb dX6_rampIndex_17 (by decide) ?_
    exact r_iret X hr hlk hP hS dX6_rampIndex_22 h
abbrev rm6_presentRamp : Room := { frames := 4, cells := 0, slots := 0, locals := 95 }
def f6_presentRamp (N : Nat) (I : Mem) (k0 : Nat) : Option (Nat × Mem) :=
    clM (f2_prepare N I (k0 + 79) (I (k0 + 3) 0) (I (k0 + 3) 1)) (fun I_2 : Mem =>
    some ((k0 + 79), I_2))
set_option maxHeartbeats 4000000 in
set_option maxRecDepth 100000 in
theorem c6_presentRamp (l : Launch) (g : GG) (hG : Apart g NT) (N : Nat) (I : Mem) (k0 : Nat) (t0 : tag k0 = 5) (r0 : Nat) (I0 : Mem) (h : f6_presentRamp N I k0 = some (r0, I0)) : Mc l g yX6_presentRamp cX6_presentRamp 1 (some (.object RX2)) rm6_presentRamp I [.ref (ga g k0)] (some (.ref (ga g r0))) I0 := by
  refine Mc.of hG (by decide +kernel) (Nat.le_of_ble_eq_true rfl) ?_
  intro p e s m args below meth c ls X hr hlk hP hS hl
  have X : Cx g p s m args c cX6_presentRamp RX6 1 := X
  have hx := X.hx
  have hb := X.hb
  have hl : lv_has ls 1 [(0, .ref (ga g k0))] := hl
  have locs : List Loc := []
  unfold f6_presentRamp at h
  refine lv_aload_n hx hb dX6_presentRamp_0 rfl (lv_at hl 0 rfl) ?_
  refine g6_6 X hP t0 k_160 dX6_presentRamp_1 ?_
  refine lv_aload_n hx hb dX6_presentRamp_4 rfl (lv_at hl 0 rfl) ?_
  refine g6_1 X hP t0 k_155 dX6_presentRamp_5 ?_
  refine g5_0 X hP (g6_1_t t0) k_50 dX6_presentRamp_8 ?_
  refine lv_aload_n hx hb dX6_presentRamp_11 rfl (lv_at hl 0 rfl) ?_
  refine g6_1 X hP t0 k_155 dX6_presentRamp_12 ?_
  refine g5_1 X hP (g6_1_t t0) k_53 dX6_presentRamp_15 ?_
  obtain ⟨I_2, hc_3, h⟩ := clM_e h
  refine r_callV (As := [.int (I (k0 + 3) 0), .int (I (k0 + 3) 1)]) [] X (c2_prepare l g hG N _ _ _ _ (g6_6_t t0) _ hc_3) cal_X2_prepare (im_X2_prepare) (se_X2_prepare) k_250 (tag_lt (g6_6_t t0) (by decide)) (by rw [lay, (g6_6_t t0)]; rfl) rfl rfl ⟨rfl, rfl⟩ ⟨Nat.le_of_ble_eq_true rfl, Nat.le_of_ble_eq_true rfl⟩ hP hS hl.1 rfl (Nat.le_of_ble_eq_true rfl) dX6_presentRamp_18 ⟨Nat.zero_le _, Nat.zero_le _⟩ (fun H locs hP hS => ?_)
  show W p l e rm6_presentRamp s m args below meth c H locs 0 0 _ (F0 m 21 ls [])
  refine lv_aload_n hx hb dX6_presentRamp_21 rfl (lv_at hl 0 rfl) ?_
  refine g6_6 X hP t0 k_160 dX6_presentRamp_22 ?_
  exact r_aret X hr hlk hP hS dX6_presentRamp_25 h
abbrev rm6_topIndex : Room := { frames := 5, cells := 0, slots := 0, locals := 115 }
def f6_topIndex (N : Nat) (I : Mem) (k0 : Nat) : Option (Int32 × Mem) :=
    clP (f6_presentRamp N I k0) (fun (q_1 : Nat) (I_2 : Mem) =>
    if ¬ tag q_1 = 1 then none else
    some ((I_2 q_1 3), I_2))
set_option maxHeartbeats 4000000 in
set_option maxRecDepth 100000 in
theorem c6_topIndex (l : Launch) (g : GG) (hG : Apart g NT) (N : Nat) (I : Mem) (k0 : Nat) (t0 : tag k0 = 5) (r0 : Int32) (I0 : Mem) (h : f6_topIndex N I k0 = some (r0, I0)) : Mc l g yX6_topIndex cX6_topIndex 1 (some .int) rm6_topIndex I [.ref (ga g k0)] (some (.int r0)) I0 := by
  refine Mc.of hG (by decide +kernel) (Nat.le_of_ble_eq_true rfl) ?_
  intro p e s m args below meth c ls X hr hlk hP hS hl
  have X : Cx g p s m args c cX6_topIndex RX6 1 := X
  have hx := X.hx
  have hb := X.hb
  have hl : lv_has ls 1 [(0, .ref (ga g k0))] := hl
  have locs : List Loc := []
  unfold f6_topIndex at h
  refine lv_aload_n hx hb dX6_topIndex_0 rfl (lv_at hl 0 rfl) ?_
  obtain ⟨q_1, I_2, hc_3, h⟩ := clP_e h
  refine r_callV (As := []) [] X (c6_presentRamp l g hG N _ _ t0 _ _ hc_3) cal_X6_presentRamp (im_X6_presentRamp) (se_X6_presentRamp) k_246 (tag_lt t0 (by decide)) (by rw [lay, t0]; rfl) rfl rfl ⟨rfl, rfl⟩ ⟨Nat.le_of_ble_eq_true rfl, Nat.le_of_ble_eq_true rfl⟩ hP hS hl.1 rfl (Nat.le_of_ble_eq_true rfl) dX6_topIndex_1 ⟨Nat.zero_le _, Nat.zero_le _⟩ (fun H locs hP hS => ?_)
  obtain ⟨Tq_1, h⟩ := gd_e h
  replace Tq_1 := Classical.not_not.mp Tq_1
  show W p l e rm6_topIndex s m args below meth c H locs 0 0 _ (F0 m 4 ls [.ref (ga g q_1)])
  refine g2_3 X hP Tq_1 k_140 dX6_topIndex_4 ?_
  exact r_iret X hr hlk hP hS dX6_topIndex_7 h
abbrev rm6_isIndex : Room := { frames := 0, cells := 0, slots := 0, locals := 0 }
def f6_isIndex (N : Nat) (I : Mem) (a0 : Int32) : Option (Int32 × Mem) :=
    if a0 < (0 : Int32) then
    some ((0 : Int32), I)
    else
    if (999 : Int32) < a0 then
    some ((0 : Int32), I)
    else
    some ((1 : Int32), I)
set_option maxHeartbeats 4000000 in
set_option maxRecDepth 100000 in
theorem c6_isIndex (l : Launch) (g : GG) (hG : Apart g NT) (N : Nat) (I : Mem) (a0 : Int32) (r0 : Int32) (I0 : Mem) (h : f6_isIndex N I a0 = some (r0, I0)) : Mc l g yX6_isIndex cX6_isIndex 1 (some .boolean) rm6_isIndex I [.int a0] (some (.int r0)) I0 := by
  refine Mc.of hG (by decide +kernel) (Nat.le_of_ble_eq_true rfl) ?_
  intro p e s m args below meth c ls X hr hlk hP hS hl
  have X : Cx g p s m args c cX6_isIndex RX6 1 := X
  have hx := X.hx
  have hb := X.hb
  have hl : lv_has ls 1 [(0, .int a0)] := hl
  have locs : List Loc := []
  unfold f6_isIndex at h
  refine lv_iload_n hx hb dX6_isIndex_0 rfl (lv_at hl 0 rfl) ?_
  refine lv_if_lt (tgt := 15) hx hb dX6_isIndex_1 (by decide) (fun c_1 => ?_) (fun c_1 => ?_)
  · replace h := ifp c_1 h
    refine lv_iconst (v := (0 : Int32)) hx hb dX6_isIndex_15 (by decide +kernel) ?_
    exact r_zret X hr hlk hP hS rfl dX6_isIndex_16 h
  · replace h := ifn c_1 h
    refine lv_iload_n hx hb dX6_isIndex_4 rfl (lv_at hl 0 rfl) ?_
    refine lv_sipush (v := (999 : Int32)) hx hb dX6_isIndex_5 (by decide +kernel) ?_
    refine lv_icmp_gt (tgt := 15) hx hb dX6_isIndex_8 (by decide) (fun c_2 => ?_) (fun c_2 => ?_)
    · replace h := ifp c_2 h
      refine lv_iconst (v := (0 : Int32)) hx hb dX6_isIndex_15 (by decide +kernel) ?_
      exact r_zret X hr hlk hP hS rfl dX6_isIndex_16 h
    · replace h := ifn c_2 h
      refine lv_iconst (v := (1 : Int32)) hx hb dX6_isIndex_11 (by decide +kernel) ?_
      refine lv_goto (tgt := 16) hx hb dX6_isIndex_12 (by decide) ?_
      exact r_zret X hr hlk hP hS rfl dX6_isIndex_16 h
abbrev rm6_interval : Room := { frames := 5, cells := 0, slots := 0, locals := 115 }
def f6_interval (N : Nat) (I : Mem) (k0 : Nat) (a1 : Int32) : Option (Int32 × Mem) :=
    clP (f6_isIndex N I a1) (fun (q_1 : Int32) (I_2 : Mem) =>
    if q_1 = (0 : Int32) then
    some ((-2 : Int32), I_2)
    else
    clP (f6_presentRamp N I_2 k0) (fun (q_5 : Nat) (I_6 : Mem) =>
    if ¬ tag q_5 = 1 then none else
    clP (f2_intervalOf N I_6 q_5 a1) (fun (q_8 : Int32) (I_9 : Mem) =>
    some (q_8, I_9))))
set_option maxHeartbeats 4000000 in
set_option maxRecDepth 100000 in
theorem c6_interval (l : Launch) (g : GG) (hG : Apart g NT) (N : Nat) (I : Mem) (k0 : Nat) (a1 : Int32) (t0 : tag k0 = 5) (r0 : Int32) (I0 : Mem) (h : f6_interval N I k0 a1 = some (r0, I0)) : Mc l g yX6_interval cX6_interval 2 (some .int) rm6_interval I [.ref (ga g k0), .int a1] (some (.int r0)) I0 := by
  refine Mc.of hG (by decide +kernel) (Nat.le_of_ble_eq_true rfl) ?_
  intro p e s m args below meth c ls X hr hlk hP hS hl
  have X : Cx g p s m args c cX6_interval RX6 2 := X
  have hx := X.hx
  have hb := X.hb
  have hl : lv_has ls 2 [(0, .ref (ga g k0)), (1, .int a1)] := hl
  have locs : List Loc := []
  unfold f6_interval at h
  refine lv_iload_n hx hb dX6_interval_0 rfl (lv_at hl 1 rfl) ?_
  obtain ⟨q_1, I_2, hc_3, h⟩ := clP_e h
  refine r_callS (As := [.int a1]) [] X (c6_isIndex l g hG N _ _ _ _ hc_3) cal_X6_isIndex (sc_X6_isIndex) k_243 rfl ⟨rfl, rfl⟩ ⟨Nat.le_of_ble_eq_true rfl, Nat.le_of_ble_eq_true rfl⟩ hP hS hl.1 rfl (Nat.le_of_ble_eq_true rfl) dX6_interval_1 ⟨Nat.zero_le _, Nat.zero_le _⟩ (fun H locs hP hS => ?_)
  show W p l e rm6_interval s m args below meth c H locs 0 0 _ (F0 m 4 ls [.int q_1])
  refine lv_if_eq (tgt := 18) hx hb dX6_interval_4 (by decide) (fun c_4 => ?_) (fun c_4 => ?_)
  · replace h := ifp c_4 h
    refine lv_bipush (v := (-2 : Int32)) hx hb dX6_interval_18 (by decide +kernel) ?_
    exact r_iret X hr hlk hP hS dX6_interval_20 h
  · replace h := ifn c_4 h
    refine lv_aload_n hx hb dX6_interval_7 rfl (lv_at hl 0 rfl) ?_
    obtain ⟨q_5, I_6, hc_7, h⟩ := clP_e h
    refine r_callV (As := []) [] X (c6_presentRamp l g hG N _ _ t0 _ _ hc_7) cal_X6_presentRamp (im_X6_presentRamp) (se_X6_presentRamp) k_246 (tag_lt t0 (by decide)) (by rw [lay, t0]; rfl) rfl rfl ⟨rfl, rfl⟩ ⟨Nat.le_of_ble_eq_true rfl, Nat.le_of_ble_eq_true rfl⟩ hP hS hl.1 rfl (Nat.le_of_ble_eq_true rfl) dX6_interval_8 ⟨Nat.zero_le _, Nat.zero_le _⟩ (fun H locs hP hS => ?_)
    obtain ⟨Tq_5, h⟩ := gd_e h
    replace Tq_5 := Classical.not_not.mp Tq_5
    show W p l e rm6_interval s m args below meth c H locs 0 0 _ (F0 m 11 ls [.ref (ga g q_5)])
    refine lv_iload_n hx hb dX6_interval_11 rfl (lv_at hl 1 rfl) ?_
    obtain ⟨q_8, I_9, hc_10, h⟩ := clP_e h
    refine r_callV (As := [.int a1]) [] X (c2_intervalOf l g hG N _ _ _ Tq_5 _ _ hc_10) cal_X2_intervalOf (im_X2_intervalOf) (se_X2_intervalOf) k_285 (tag_lt Tq_5 (by decide)) (by rw [lay, Tq_5]; rfl) rfl rfl ⟨rfl, rfl⟩ ⟨Nat.le_of_ble_eq_true rfl, Nat.le_of_ble_eq_true rfl⟩ hP hS hl.1 rfl (Nat.le_of_ble_eq_true rfl) dX6_interval_12 ⟨Nat.zero_le _, Nat.zero_le _⟩ (fun H locs hP hS => ?_)
    show W p l e rm6_interval s m args below meth c H locs 0 0 _ (F0 m 15 ls [.int q_8])
    refine lv_goto (tgt := 20) hx hb dX6_interval_15 (by decide) ?_
    exact r_iret X hr hlk hP hS dX6_interval_20 h
abbrev rm6_approximateInterval : Room := { frames := 5, cells := 0, slots := 0, locals := 115 }
def f6_approximateInterval (N : Nat) (I : Mem) (k0 : Nat) (a1 : Int32) : Option (Int32 × Mem) :=
    clP (f6_isIndex N I a1) (fun (q_1 : Int32) (I_2 : Mem) =>
    if q_1 = (0 : Int32) then
    some ((-2 : Int32), I_2)
    else
    clP (f6_presentRamp N I_2 k0) (fun (q_5 : Nat) (I_6 : Mem) =>
    if ¬ tag q_5 = 1 then none else
    clP (f2_approximation N I_6 q_5 a1) (fun (q_8 : Int32) (I_9 : Mem) =>
    some (q_8, I_9))))
set_option maxHeartbeats 4000000 in
set_option maxRecDepth 100000 in
theorem c6_approximateInterval (l : Launch) (g : GG) (hG : Apart g NT) (N : Nat) (I : Mem) (k0 : Nat) (a1 : Int32) (t0 : tag k0 = 5) (r0 : Int32) (I0 : Mem) (h : f6_approximateInterval N I k0 a1 = some (r0, I0)) : Mc l g yX6_approximateInterval cX6_approximateInterval 2 (some .int) rm6_approximateInterval I [.ref (ga g k0), .int a1] (some (.int r0)) I0 := by
  refine Mc.of hG (by decide +kernel) (Nat.le_of_ble_eq_true rfl) ?_
  intro p e s m args below meth c ls X hr hlk hP hS hl
  have X : Cx g p s m args c cX6_approximateInterval RX6 2 := X
  have hx := X.hx
  have hb := X.hb
  have hl : lv_has ls 2 [(0, .ref (ga g k0)), (1, .int a1)] := hl
  have locs : List Loc := []
  unfold f6_approximateInterval at h
  refine lv_iload_n hx hb dX6_approximateInterval_0 rfl (lv_at hl 1 rfl) ?_
  obtain ⟨q_1, I_2, hc_3, h⟩ := clP_e h
  refine r_callS (As := [.int a1]) [] X (c6_isIndex l g hG N _ _ _ _ hc_3) cal_X6_isIndex (sc_X6_isIndex) k_243 rfl ⟨rfl, rfl⟩ ⟨Nat.le_of_ble_eq_true rfl, Nat.le_of_ble_eq_true rfl⟩ hP hS hl.1 rfl (Nat.le_of_ble_eq_true rfl) dX6_approximateInterval_1 ⟨Nat.zero_le _, Nat.zero_le _⟩ (fun H locs hP hS => ?_)
  show W p l e rm6_approximateInterval s m args below meth c H locs 0 0 _ (F0 m 4 ls [.int q_1])
  refine lv_if_eq (tgt := 18) hx hb dX6_approximateInterval_4 (by decide) (fun c_4 => ?_) (fun c_4 => ?_)
  · replace h := ifp c_4 h
    refine lv_bipush (v := (-2 : Int32)) hx hb dX6_approximateInterval_18 (by decide +kernel) ?_
    exact r_iret X hr hlk hP hS dX6_approximateInterval_20 h
  · replace h := ifn c_4 h
    refine lv_aload_n hx hb dX6_approximateInterval_7 rfl (lv_at hl 0 rfl) ?_
    obtain ⟨q_5, I_6, hc_7, h⟩ := clP_e h
    refine r_callV (As := []) [] X (c6_presentRamp l g hG N _ _ t0 _ _ hc_7) cal_X6_presentRamp (im_X6_presentRamp) (se_X6_presentRamp) k_246 (tag_lt t0 (by decide)) (by rw [lay, t0]; rfl) rfl rfl ⟨rfl, rfl⟩ ⟨Nat.le_of_ble_eq_true rfl, Nat.le_of_ble_eq_true rfl⟩ hP hS hl.1 rfl (Nat.le_of_ble_eq_true rfl) dX6_approximateInterval_8 ⟨Nat.zero_le _, Nat.zero_le _⟩ (fun H locs hP hS => ?_)
    obtain ⟨Tq_5, h⟩ := gd_e h
    replace Tq_5 := Classical.not_not.mp Tq_5
    show W p l e rm6_approximateInterval s m args below meth c H locs 0 0 _ (F0 m 11 ls [.ref (ga g q_5)])
    refine lv_iload_n hx hb dX6_approximateInterval_11 rfl (lv_at hl 1 rfl) ?_
    obtain ⟨q_8, I_9, hc_10, h⟩ := clP_e h
    refine r_callV (As := [.int a1]) [] X (c2_approximation l g hG N _ _ _ Tq_5 _ _ hc_10) cal_X2_approximation (im_X2_approximation) (se_X2_approximation) k_294 (tag_lt Tq_5 (by decide)) (by rw [lay, Tq_5]; rfl) rfl rfl ⟨rfl, rfl⟩ ⟨Nat.le_of_ble_eq_true rfl, Nat.le_of_ble_eq_true rfl⟩ hP hS hl.1 rfl (Nat.le_of_ble_eq_true rfl) dX6_approximateInterval_12 ⟨Nat.zero_le _, Nat.zero_le _⟩ (fun H locs hP hS => ?_)
    show W p l e rm6_approximateInterval s m args below meth c H locs 0 0 _ (F0 m 15 ls [.int q_8])
    refine lv_goto (tgt := 20) hx hb dX6_approximateInterval_15 (by decide) ?_
    exact r_iret X hr hlk hP hS dX6_approximateInterval_20 h
abbrev rm6_isPositive : Room := { frames := 0, cells := 0, slots := 0, locals := 0 }
def f6_isPositive (N : Nat) (I : Mem) (a0 : Int32) (a1 : Int32) : Option (Int32 × Mem) :=
    if a0 < (1 : Int32) then
    some ((0 : Int32), I)
    else
    if a1 < a0 then
    some ((0 : Int32), I)
    else
    some ((1 : Int32), I)
set_option maxHeartbeats 4000000 in
set_option maxRecDepth 100000 in
theorem c6_isPositive (l : Launch) (g : GG) (hG : Apart g NT) (N : Nat) (I : Mem) (a0 : Int32) (a1 : Int32) (r0 : Int32) (I0 : Mem) (h : f6_isPositive N I a0 a1 = some (r0, I0)) : Mc l g yX6_isPositive cX6_isPositive 2 (some .boolean) rm6_isPositive I [.int a0, .int a1] (some (.int r0)) I0 := by
  refine Mc.of hG (by decide +kernel) (Nat.le_of_ble_eq_true rfl) ?_
  intro p e s m args below meth c ls X hr hlk hP hS hl
  have X : Cx g p s m args c cX6_isPositive RX6 2 := X
  have hx := X.hx
  have hb := X.hb
  have hl : lv_has ls 2 [(0, .int a0), (1, .int a1)] := hl
  have locs : List Loc := []
  unfold f6_isPositive at h
  refine lv_iload_n hx hb dX6_isPositive_0 rfl (lv_at hl 0 rfl) ?_
  refine lv_iconst (v := (1 : Int32)) hx hb dX6_isPositive_1 (by decide +kernel) ?_
  refine lv_icmp_lt (tgt := 14) hx hb dX6_isPositive_2 (by decide) (fun c_1 => ?_) (fun c_1 => ?_)
  · replace h := ifp c_1 h
    refine lv_iconst (v := (0 : Int32)) hx hb dX6_isPositive_14 (by decide +kernel) ?_
    exact r_zret X hr hlk hP hS rfl dX6_isPositive_15 h
  · replace h := ifn c_1 h
    refine lv_iload_n hx hb dX6_isPositive_5 rfl (lv_at hl 0 rfl) ?_
    refine lv_iload_n hx hb dX6_isPositive_6 rfl (lv_at hl 1 rfl) ?_
    refine lv_icmp_gt (tgt := 14) hx hb dX6_isPositive_7 (by decide) (fun c_2 => ?_) (fun c_2 => ?_)
    · replace h := ifp c_2 h
      refine lv_iconst (v := (0 : Int32)) hx hb dX6_isPositive_14 (by decide +kernel) ?_
      exact r_zret X hr hlk hP hS rfl dX6_isPositive_15 h
    · replace h := ifn c_2 h
      refine lv_iconst (v := (1 : Int32)) hx hb dX6_isPositive_10 (by decide +kernel) ?_
      refine lv_goto (tgt := 15) hx hb dX6_isPositive_11 (by decide) ?_
      exact r_zret X hr hlk hP hS rfl dX6_isPositive_15 h
abbrev rm6_setAcceleration : Room := { frames := 3, cells := 0, slots := 0, locals := 64 }
def f6_setAcceleration (N : Nat) (I : Mem) (k0 : Nat) (a1 : Int32) : Option (Int32 × Mem) :=
    clP (f6_isPositive N I a1 (999 : Int32)) (fun (q_1 : Int32) (I_2 : Mem) =>
    if q_1 = (0 : Int32) then
    some ((-2 : Int32), I_2)
    else
    clP (f5_isMoving N I_2 (k0 + 3)) (fun (q_5 : Int32) (I_6 : Mem) =>
    if q_5 = (0 : Int32) then
    clM (f0_remember N I_6 (k0 + 11) (k0 + 3)) (fun I_10 : Mem =>
    letM (I_10 (k0 + 3) 0) (fun x_12 : Int32 =>
    letM (st I_10 (k0 + 3) 0 a1) (fun I_13 : Mem =>
    some (x_12, I_13))))
    else
    some ((-3 : Int32), I_6)))
set_option maxHeartbeats 4000000 in
set_option maxRecDepth 100000 in
theorem c6_setAcceleration (l : Launch) (g : GG) (hG : Apart g NT) (N : Nat) (I : Mem) (k0 : Nat) (a1 : Int32) (t0 : tag k0 = 5) (r0 : Int32) (I0 : Mem) (h : f6_setAcceleration N I k0 a1 = some (r0, I0)) : Mc l g yX6_setAcceleration cX6_setAcceleration 3 (some .int) rm6_setAcceleration I [.ref (ga g k0), .int a1] (some (.int r0)) I0 := by
  refine Mc.of hG (by decide +kernel) (Nat.le_of_ble_eq_true rfl) ?_
  intro p e s m args below meth c ls X hr hlk hP hS hl
  have X : Cx g p s m args c cX6_setAcceleration RX6 3 := X
  have hx := X.hx
  have hb := X.hb
  have hl : lv_has ls 3 [(0, .ref (ga g k0)), (1, .int a1)] := hl
  have locs : List Loc := []
  unfold f6_setAcceleration at h
  refine lv_iload_n hx hb dX6_setAcceleration_0 rfl (lv_at hl 1 rfl) ?_
  refine lv_sipush (v := (999 : Int32)) hx hb dX6_setAcceleration_1 (by decide +kernel) ?_
  obtain ⟨q_1, I_2, hc_3, h⟩ := clP_e h
  refine r_callS (As := [.int a1, .int (999 : Int32)]) [] X (c6_isPositive l g hG N _ _ _ _ _ hc_3) cal_X6_isPositive (sc_X6_isPositive) k_302 rfl ⟨rfl, rfl⟩ ⟨Nat.le_of_ble_eq_true rfl, Nat.le_of_ble_eq_true rfl⟩ hP hS hl.1 rfl (Nat.le_of_ble_eq_true rfl) dX6_setAcceleration_4 ⟨Nat.zero_le _, Nat.zero_le _⟩ (fun H locs hP hS => ?_)
  show W p l e rm6_setAcceleration s m args below meth c H locs 0 0 _ (F0 m 7 ls [.int q_1])
  refine lv_if_ne (tgt := 13) hx hb dX6_setAcceleration_7 (by decide) (fun c_4 => ?_) (fun c_4 => ?_)
  · replace h := ifn c_4 h
    refine lv_aload_n hx hb dX6_setAcceleration_13 rfl (lv_at hl 0 rfl) ?_
    refine g6_1 X hP t0 k_155 dX6_setAcceleration_14 ?_
    obtain ⟨q_5, I_6, hc_7, h⟩ := clP_e h
    refine r_callV (As := []) [] X (c5_isMoving l g hG N _ _ (g6_1_t t0) _ _ hc_7) cal_X5_isMoving (im_X5_isMoving) (se_X5_isMoving) k_305 (tag_lt (g6_1_t t0) (by decide)) (by rw [lay, (g6_1_t t0)]; rfl) rfl rfl ⟨rfl, rfl⟩ ⟨Nat.le_of_ble_eq_true rfl, Nat.le_of_ble_eq_true rfl⟩ hP hS hl.1 rfl (Nat.le_of_ble_eq_true rfl) dX6_setAcceleration_17 ⟨Nat.zero_le _, Nat.zero_le _⟩ (fun H locs hP hS => ?_)
    show W p l e rm6_setAcceleration s m args below meth c H locs 0 0 _ (F0 m 20 ls [.int q_5])
    refine lv_if_eq (tgt := 26) hx hb dX6_setAcceleration_20 (by decide) (fun c_8 => ?_) (fun c_8 => ?_)
    · replace h := ifp c_8 h
      refine lv_aload_n hx hb dX6_setAcceleration_26 rfl (lv_at hl 0 rfl) ?_
      refine g6_3 X hP t0 k_157 dX6_setAcceleration_27 ?_
      refine lv_aload_n hx hb dX6_setAcceleration_30 rfl (lv_at hl 0 rfl) ?_
      refine g6_1 X hP t0 k_155 dX6_setAcceleration_31 ?_
      obtain ⟨I_10, hc_11, h⟩ := clM_e h
      refine r_callV (As := [.ref (ga g (k0 + 3))]) [] X (c0_remember l g hG N _ _ _ (g6_3_t t0) (g6_1_t t0) _ hc_11) cal_X0_remember (im_X0_remember) (se_X0_remember) k_306 (tag_lt (g6_3_t t0) (by decide)) (by rw [lay, (g6_3_t t0)]; rfl) rfl rfl ⟨rfl, rfl⟩ ⟨Nat.le_of_ble_eq_true rfl, Nat.le_of_ble_eq_true rfl⟩ hP hS hl.1 rfl (Nat.le_of_ble_eq_true rfl) dX6_setAcceleration_34 ⟨Nat.zero_le _, Nat.zero_le _⟩ (fun H locs hP hS => ?_)
      show W p l e rm6_setAcceleration s m args below meth c H locs 0 0 _ (F0 m 37 ls [])
      refine lv_aload_n hx hb dX6_setAcceleration_37 rfl (lv_at hl 0 rfl) ?_
      refine g6_1 X hP t0 k_155 dX6_setAcceleration_38 ?_
      refine g5_0 X hP (g6_1_t t0) k_50 dX6_setAcceleration_41 ?_
      obtain ⟨x_12, ex_12, h⟩ := letM_e h
      refine r_nmi ex_12 ?_
      refine lv_istore_n (lv' := [(2, .int x_12), (0, .ref (ga g k0)), (1, .int a1)]) hx hb dX6_setAcceleration_44 rfl hl (by decide) rfl (fun ls hl => ?_)
      refine lv_aload_n hx hb dX6_setAcceleration_45 rfl (lv_at hl 1 rfl) ?_
      refine g6_1 X hP t0 k_155 dX6_setAcceleration_46 ?_
      refine lv_iload_n hx hb dX6_setAcceleration_49 rfl (lv_at hl 2 rfl) ?_
      obtain ⟨I_13, eI_13, h⟩ := letM_e h
      refine p5_0 X hP hS (g6_1_t t0) k_50 eI_13 dX6_setAcceleration_50 (fun H locs hP hS => ?_)
      refine lv_iload_n hx hb dX6_setAcceleration_53 rfl (lv_at hl 0 rfl) ?_
      exact r_iret X hr hlk hP hS dX6_setAcceleration_54 h
    · replace h := ifn c_8 h
      refine lv_bipush (v := (-3 : Int32)) hx hb dX6_setAcceleration_23 (by decide +kernel) ?_
      exact r_iret X hr hlk hP hS dX6_setAcceleration_25 h
  · replace h := ifp c_4 h
    refine lv_bipush (v := (-2 : Int32)) hx hb dX6_setAcceleration_10 (by decide +kernel) ?_
    exact r_iret X hr hlk hP hS dX6_setAcceleration_12 h
abbrev rm6_setSpeedLimit : Room := { frames := 3, cells := 0, slots := 0, locals := 64 }
def f6_setSpeedLimit (N : Nat) (I : Mem) (k0 : Nat) (a1 : Int32) : Option (Int32 × Mem) :=
    clP (f6_isPositive N I a1 (999 : Int32)) (fun (q_1 : Int32) (I_2 : Mem) =>
    if q_1 = (0 : Int32) then
    some ((-2 : Int32), I_2)
    else
    clM (f0_remember N I_2 (k0 + 11) (k0 + 3)) (fun I_6 : Mem =>
    letM (I_6 (k0 + 3) 1) (fun x_8 : Int32 =>
    letM (st I_6 (k0 + 3) 1 a1) (fun I_9 : Mem =>
    some (x_8, I_9)))))
set_option maxHeartbeats 4000000 in
set_option maxRecDepth 100000 in
theorem c6_setSpeedLimit (l : Launch) (g : GG) (hG : Apart g NT) (N : Nat) (I : Mem) (k0 : Nat) (a1 : Int32) (t0 : tag k0 = 5) (r0 : Int32) (I0 : Mem) (h : f6_setSpeedLimit N I k0 a1 = some (r0, I0)) : Mc l g yX6_setSpeedLimit cX6_setSpeedLimit 3 (some .int) rm6_setSpeedLimit I [.ref (ga g k0), .int a1] (some (.int r0)) I0 := by
  refine Mc.of hG (by decide +kernel) (Nat.le_of_ble_eq_true rfl) ?_
  intro p e s m args below meth c ls X hr hlk hP hS hl
  have X : Cx g p s m args c cX6_setSpeedLimit RX6 3 := X
  have hx := X.hx
  have hb := X.hb
  have hl : lv_has ls 3 [(0, .ref (ga g k0)), (1, .int a1)] := hl
  have locs : List Loc := []
  unfold f6_setSpeedLimit at h
  refine lv_iload_n hx hb dX6_setSpeedLimit_0 rfl (lv_at hl 1 rfl) ?_
  refine lv_sipush (v := (999 : Int32)) hx hb dX6_setSpeedLimit_1 (by decide +kernel) ?_
  obtain ⟨q_1, I_2, hc_3, h⟩ := clP_e h
  refine r_callS (As := [.int a1, .int (999 : Int32)]) [] X (c6_isPositive l g hG N _ _ _ _ _ hc_3) cal_X6_isPositive (sc_X6_isPositive) k_302 rfl ⟨rfl, rfl⟩ ⟨Nat.le_of_ble_eq_true rfl, Nat.le_of_ble_eq_true rfl⟩ hP hS hl.1 rfl (Nat.le_of_ble_eq_true rfl) dX6_setSpeedLimit_4 ⟨Nat.zero_le _, Nat.zero_le _⟩ (fun H locs hP hS => ?_)
  show W p l e rm6_setSpeedLimit s m args below meth c H locs 0 0 _ (F0 m 7 ls [.int q_1])
  refine lv_if_ne (tgt := 13) hx hb dX6_setSpeedLimit_7 (by decide) (fun c_4 => ?_) (fun c_4 => ?_)
  · replace h := ifn c_4 h
    refine lv_aload_n hx hb dX6_setSpeedLimit_13 rfl (lv_at hl 0 rfl) ?_
    refine g6_3 X hP t0 k_157 dX6_setSpeedLimit_14 ?_
    refine lv_aload_n hx hb dX6_setSpeedLimit_17 rfl (lv_at hl 0 rfl) ?_
    refine g6_1 X hP t0 k_155 dX6_setSpeedLimit_18 ?_
    obtain ⟨I_6, hc_7, h⟩ := clM_e h
    refine r_callV (As := [.ref (ga g (k0 + 3))]) [] X (c0_remember l g hG N _ _ _ (g6_3_t t0) (g6_1_t t0) _ hc_7) cal_X0_remember (im_X0_remember) (se_X0_remember) k_306 (tag_lt (g6_3_t t0) (by decide)) (by rw [lay, (g6_3_t t0)]; rfl) rfl rfl ⟨rfl, rfl⟩ ⟨Nat.le_of_ble_eq_true rfl, Nat.le_of_ble_eq_true rfl⟩ hP hS hl.1 rfl (Nat.le_of_ble_eq_true rfl) dX6_setSpeedLimit_21 ⟨Nat.zero_le _, Nat.zero_le _⟩ (fun H locs hP hS => ?_)
    show W p l e rm6_setSpeedLimit s m args below meth c H locs 0 0 _ (F0 m 24 ls [])
    refine lv_aload_n hx hb dX6_setSpeedLimit_24 rfl (lv_at hl 0 rfl) ?_
    refine g6_1 X hP t0 k_155 dX6_setSpeedLimit_25 ?_
    refine g5_1 X hP (g6_1_t t0) k_53 dX6_setSpeedLimit_28 ?_
    obtain ⟨x_8, ex_8, h⟩ := letM_e h
    refine r_nmi ex_8 ?_
    refine lv_istore_n (lv' := [(2, .int x_8), (0, .ref (ga g k0)), (1, .int a1)]) hx hb dX6_setSpeedLimit_31 rfl hl (by decide) rfl (fun ls hl => ?_)
    refine lv_aload_n hx hb dX6_setSpeedLimit_32 rfl (lv_at hl 1 rfl) ?_
    refine g6_1 X hP t0 k_155 dX6_setSpeedLimit_33 ?_
    refine lv_iload_n hx hb dX6_setSpeedLimit_36 rfl (lv_at hl 2 rfl) ?_
    obtain ⟨I_9, eI_9, h⟩ := letM_e h
    refine p5_1 X hP hS (g6_1_t t0) k_53 eI_9 dX6_setSpeedLimit_37 (fun H locs hP hS => ?_)
    refine lv_iload_n hx hb dX6_setSpeedLimit_40 rfl (lv_at hl 0 rfl) ?_
    exact r_iret X hr hlk hP hS dX6_setSpeedLimit_41 h
  · replace h := ifp c_4 h
    refine lv_bipush (v := (-2 : Int32)) hx hb dX6_setSpeedLimit_10 (by decide +kernel) ?_
    exact r_iret X hr hlk hP hS dX6_setSpeedLimit_12 h
abbrev rm6_isDistance : Room := { frames := 0, cells := 0, slots := 0, locals := 0 }
def f6_isDistance (N : Nat) (I : Mem) (a0 : Int32) : Option (Int32 × Mem) :=
    if a0 < (-999 : Int32) then
    some ((0 : Int32), I)
    else
    if (999 : Int32) < a0 then
    some ((0 : Int32), I)
    else
    some ((1 : Int32), I)
set_option maxHeartbeats 4000000 in
set_option maxRecDepth 100000 in
theorem c6_isDistance (l : Launch) (g : GG) (hG : Apart g NT) (N : Nat) (I : Mem) (a0 : Int32) (r0 : Int32) (I0 : Mem) (h : f6_isDistance N I a0 = some (r0, I0)) : Mc l g yX6_isDistance cX6_isDistance 1 (some .boolean) rm6_isDistance I [.int a0] (some (.int r0)) I0 := by
  refine Mc.of hG (by decide +kernel) (Nat.le_of_ble_eq_true rfl) ?_
  intro p e s m args below meth c ls X hr hlk hP hS hl
  have X : Cx g p s m args c cX6_isDistance RX6 1 := X
  have hx := X.hx
  have hb := X.hb
  have hl : lv_has ls 1 [(0, .int a0)] := hl
  have locs : List Loc := []
  unfold f6_isDistance at h
  refine lv_iload_n hx hb dX6_isDistance_0 rfl (lv_at hl 0 rfl) ?_
  refine lv_sipush (v := (-999 : Int32)) hx hb dX6_isDistance_1 (by decide +kernel) ?_
  refine lv_icmp_lt (tgt := 18) hx hb dX6_isDistance_4 (by decide) (fun c_1 => ?_) (fun c_1 => ?_)
  · replace h := ifp c_1 h
    refine lv_iconst (v := (0 : Int32)) hx hb dX6_isDistance_18 (by decide +kernel) ?_
    exact r_zret X hr hlk hP hS rfl dX6_isDistance_19 h
  · replace h := ifn c_1 h
    refine lv_iload_n hx hb dX6_isDistance_7 rfl (lv_at hl 0 rfl) ?_
    refine lv_sipush (v := (999 : Int32)) hx hb dX6_isDistance_8 (by decide +kernel) ?_
    refine lv_icmp_gt (tgt := 18) hx hb dX6_isDistance_11 (by decide) (fun c_2 => ?_) (fun c_2 => ?_)
    · replace h := ifp c_2 h
      refine lv_iconst (v := (0 : Int32)) hx hb dX6_isDistance_18 (by decide +kernel) ?_
      exact r_zret X hr hlk hP hS rfl dX6_isDistance_19 h
    · replace h := ifn c_2 h
      refine lv_iconst (v := (1 : Int32)) hx hb dX6_isDistance_14 (by decide +kernel) ?_
      refine lv_goto (tgt := 19) hx hb dX6_isDistance_15 (by decide) ?_
      exact r_zret X hr hlk hP hS rfl dX6_isDistance_19 h
abbrev rm6_addMove : Room := { frames := 3, cells := 0, slots := 0, locals := 64 }
def f6_addMove_25 (N : Nat) (k0 : Nat) (a1 : Int32) (a2 : Int32) (I : Mem) : Option (Int32 × Mem) :=
    clP (f5_isFull N I (k0 + 3)) (fun (q_10 : Int32) (I_11 : Mem) =>
    if q_10 = (0 : Int32) then
    clM (f0_remember N I_11 (k0 + 11) (k0 + 3)) (fun I_15 : Mem =>
    clM (f5_addItem N I_15 (k0 + 3) a1 a2 (0 : Int32)) (fun I_18 : Mem =>
    some ((I_18 (k0 + 3) 5), I_18)))
    else
    some ((-4 : Int32), I_11))
def f6_addMove (N : Nat) (I : Mem) (k0 : Nat) (a1 : Int32) (a2 : Int32) : Option (Int32 × Mem) :=
    clP (f6_isDistance N I a1) (fun (q_1 : Int32) (I_2 : Mem) =>
    if q_1 = (0 : Int32) then
    some ((-2 : Int32), I_2)
    else
    clP (f6_isDistance N I_2 a2) (fun (q_5 : Int32) (I_6 : Mem) =>
    if q_5 = (0 : Int32) then
    some ((-2 : Int32), I_6)
    else
    if a1 = (0 : Int32) then
    if a2 = (0 : Int32) then
    some ((-2 : Int32), I_6)
    else
    f6_addMove_25 N k0 a1 a2 I_6
    else
    f6_addMove_25 N k0 a1 a2 I_6))
set_option maxHeartbeats 4000000 in
set_option maxRecDepth 100000 in
theorem L6_addMove_25 (hG : Apart g NT) (N : Nat) (k0 : Nat) (a1 : Int32) (a2 : Int32) (t0 : tag k0 = 5) (X : Cx g p s m args c cX6_addMove RX6 3) (hr : meth.sig.returnType = (some .int)) (hlk : meth.locks = false) (r0 : Int32) (I0 : Mem) : ∀ (I : Mem), f6_addMove_25 N k0 a1 a2 I = some (r0, I0) → ∀ (H : Heap) (locs : List Loc) (ls : Array Slot), Wp g I H → va_S (gA g) s.heap H locs → lv_has ls 3 [(0, .ref (ga g k0)), (1, .int a1), (2, .int a2)] → W p l e rm6_addMove s m args below meth c H locs 0 0 (MQ below (Qg g (some (.int r0)) I0) args s 0 0 (gA g)) (F0 m 25 ls []) := by
  have hx := X.hx
  have hb := X.hb
  intro I h H locs ls hP hS hl
  unfold f6_addMove_25 at h
  refine lv_aload_n hx hb dX6_addMove_25 rfl (lv_at hl 0 rfl) ?_
  refine g6_1 X hP t0 k_155 dX6_addMove_26 ?_
  obtain ⟨q_10, I_11, hc_12, h⟩ := clP_e h
  refine r_callV (As := []) [] X (c5_isFull l g hG N _ _ (g6_1_t t0) _ _ hc_12) cal_X5_isFull (im_X5_isFull) (se_X5_isFull) k_335 (tag_lt (g6_1_t t0) (by decide)) (by rw [lay, (g6_1_t t0)]; rfl) rfl rfl ⟨rfl, rfl⟩ ⟨Nat.le_of_ble_eq_true rfl, Nat.le_of_ble_eq_true rfl⟩ hP hS hl.1 rfl (Nat.le_of_ble_eq_true rfl) dX6_addMove_29 ⟨Nat.zero_le _, Nat.zero_le _⟩ (fun H locs hP hS => ?_)
  show W p l e rm6_addMove s m args below meth c H locs 0 0 _ (F0 m 32 ls [.int q_10])
  refine lv_if_eq (tgt := 38) hx hb dX6_addMove_32 (by decide) (fun c_13 => ?_) (fun c_13 => ?_)
  · replace h := ifp c_13 h
    refine lv_aload_n hx hb dX6_addMove_38 rfl (lv_at hl 0 rfl) ?_
    refine g6_3 X hP t0 k_157 dX6_addMove_39 ?_
    refine lv_aload_n hx hb dX6_addMove_42 rfl (lv_at hl 0 rfl) ?_
    refine g6_1 X hP t0 k_155 dX6_addMove_43 ?_
    obtain ⟨I_15, hc_16, h⟩ := clM_e h
    refine r_callV (As := [.ref (ga g (k0 + 3))]) [] X (c0_remember l g hG N _ _ _ (g6_3_t t0) (g6_1_t t0) _ hc_16) cal_X0_remember (im_X0_remember) (se_X0_remember) k_306 (tag_lt (g6_3_t t0) (by decide)) (by rw [lay, (g6_3_t t0)]; rfl) rfl rfl ⟨rfl, rfl⟩ ⟨Nat.le_of_ble_eq_true rfl, Nat.le_of_ble_eq_true rfl⟩ hP hS hl.1 rfl (Nat.le_of_ble_eq_true rfl) dX6_addMove_46 ⟨Nat.zero_le _, Nat.zero_le _⟩ (fun H locs hP hS => ?_)
    show W p l e rm6_addMove s m args below meth c H locs 0 0 _ (F0 m 49 ls [])
    refine lv_aload_n hx hb dX6_addMove_49 rfl (lv_at hl 0 rfl) ?_
    refine g6_1 X hP t0 k_155 dX6_addMove_50 ?_
    refine lv_iload_n hx hb dX6_addMove_53 rfl (lv_at hl 1 rfl) ?_
    refine lv_iload_n hx hb dX6_addMove_54 rfl (lv_at hl 2 rfl) ?_
    refine lv_iconst (v := (0 : Int32)) hx hb dX6_addMove_55 (by decide +kernel) ?_
    obtain ⟨I_18, hc_19, h⟩ := clM_e h
    refine r_callV (As := [.int a1, .int a2, .int (0 : Int32)]) [] X (c5_addItem l g hG N _ _ _ _ _ (g6_1_t t0) _ hc_19) cal_X5_addItem (im_X5_addItem) (se_X5_addItem) k_339 (tag_lt (g6_1_t t0) (by decide)) (by rw [lay, (g6_1_t t0)]; rfl) rfl rfl ⟨rfl, rfl⟩ ⟨Nat.le_of_ble_eq_true rfl, Nat.le_of_ble_eq_true rfl⟩ hP hS hl.1 rfl (Nat.le_of_ble_eq_true rfl) dX6_addMove_56 ⟨Nat.zero_le _, Nat.zero_le _⟩ (fun H locs hP hS => ?_)
    show W p l e rm6_addMove s m args below meth c H locs 0 0 _ (F0 m 59 ls [])
    refine lv_aload_n hx hb dX6_addMove_59 rfl (lv_at hl 0 rfl) ?_
    refine g6_1 X hP t0 k_155 dX6_addMove_60 ?_
    refine g5_5 X hP (g6_1_t t0) k_60 dX6_addMove_63 ?_
    exact r_iret X hr hlk hP hS dX6_addMove_66 h
  · replace h := ifn c_13 h
    refine lv_bipush (v := (-4 : Int32)) hx hb dX6_addMove_35 (by decide +kernel) ?_
    exact r_iret X hr hlk hP hS dX6_addMove_37 h
set_option maxHeartbeats 4000000 in
set_option maxRecDepth 100000 in
theorem c6_addMove (l : Launch) (g : GG) (hG : Apart g NT) (N : Nat) (I : Mem) (k0 : Nat) (a1 : Int32) (a2 : Int32) (t0 : tag k0 = 5) (r0 : Int32) (I0 : Mem) (h : f6_addMove N I k0 a1 a2 = some (r0, I0)) : Mc l g yX6_addMove cX6_addMove 3 (some .int) rm6_addMove I [.ref (ga g k0), .int a1, .int a2] (some (.int r0)) I0 := by
  refine Mc.of hG (by decide +kernel) (Nat.le_of_ble_eq_true rfl) ?_
  intro p e s m args below meth c ls X hr hlk hP hS hl
  have X : Cx g p s m args c cX6_addMove RX6 3 := X
  have hx := X.hx
  have hb := X.hb
  have hl : lv_has ls 3 [(0, .ref (ga g k0)), (1, .int a1), (2, .int a2)] := hl
  have locs : List Loc := []
  unfold f6_addMove at h
  refine lv_iload_n hx hb dX6_addMove_0 rfl (lv_at hl 1 rfl) ?_
  obtain ⟨q_1, I_2, hc_3, h⟩ := clP_e h
  refine r_callS (As := [.int a1]) [] X (c6_isDistance l g hG N _ _ _ _ hc_3) cal_X6_isDistance (sc_X6_isDistance) k_332 rfl ⟨rfl, rfl⟩ ⟨Nat.le_of_ble_eq_true rfl, Nat.le_of_ble_eq_true rfl⟩ hP hS hl.1 rfl (Nat.le_of_ble_eq_true rfl) dX6_addMove_1 ⟨Nat.zero_le _, Nat.zero_le _⟩ (fun H locs hP hS => ?_)
  show W p l e rm6_addMove s m args below meth c H locs 0 0 _ (F0 m 4 ls [.int q_1])
  refine lv_if_eq (tgt := 22) hx hb dX6_addMove_4 (by decide) (fun c_4 => ?_) (fun c_4 => ?_)
  · replace h := ifp c_4 h
    refine lv_bipush (v := (-2 : Int32)) hx hb dX6_addMove_22 (by decide +kernel) ?_
    exact r_iret X hr hlk hP hS dX6_addMove_24 h
  · replace h := ifn c_4 h
    refine lv_iload_n hx hb dX6_addMove_7 rfl (lv_at hl 2 rfl) ?_
    obtain ⟨q_5, I_6, hc_7, h⟩ := clP_e h
    refine r_callS (As := [.int a2]) [] X (c6_isDistance l g hG N _ _ _ _ hc_7) cal_X6_isDistance (sc_X6_isDistance) k_332 rfl ⟨rfl, rfl⟩ ⟨Nat.le_of_ble_eq_true rfl, Nat.le_of_ble_eq_true rfl⟩ hP hS hl.1 rfl (Nat.le_of_ble_eq_true rfl) dX6_addMove_8 ⟨Nat.zero_le _, Nat.zero_le _⟩ (fun H locs hP hS => ?_)
    show W p l e rm6_addMove s m args below meth c H locs 0 0 _ (F0 m 11 ls [.int q_5])
    refine lv_if_eq (tgt := 22) hx hb dX6_addMove_11 (by decide) (fun c_8 => ?_) (fun c_8 => ?_)
    · replace h := ifp c_8 h
      refine lv_bipush (v := (-2 : Int32)) hx hb dX6_addMove_22 (by decide +kernel) ?_
      exact r_iret X hr hlk hP hS dX6_addMove_24 h
    · replace h := ifn c_8 h
      refine lv_iload_n hx hb dX6_addMove_14 rfl (lv_at hl 1 rfl) ?_
      refine lv_if_ne (tgt := 25) hx hb dX6_addMove_15 (by decide) (fun c_9 => ?_) (fun c_9 => ?_)
      · replace h := ifn c_9 h
        exact L6_addMove_25 hG N k0 a1 a2 t0 X hr hlk r0 I0 I_6 h _ _ _ hP hS (lv_sub hl [0, 1, 2] rfl)
      · replace h := ifp c_9 h
        refine lv_iload_n hx hb dX6_addMove_18 rfl (lv_at hl 2 rfl) ?_
        refine lv_if_ne (tgt := 25) hx hb dX6_addMove_19 (by decide) (fun c_20 => ?_) (fun c_20 => ?_)
        · replace h := ifn c_20 h
          exact L6_addMove_25 hG N k0 a1 a2 t0 X hr hlk r0 I0 I_6 h _ _ _ hP hS (lv_sub hl [0, 1, 2] rfl)
        · replace h := ifp c_20 h
          refine lv_bipush (v := (-2 : Int32)) hx hb dX6_addMove_22 (by decide +kernel) ?_
          exact r_iret X hr hlk hP hS dX6_addMove_24 h
abbrev rm6_addWait : Room := { frames := 3, cells := 0, slots := 0, locals := 64 }
def f6_addWait (N : Nat) (I : Mem) (k0 : Nat) (a1 : Int32) : Option (Int32 × Mem) :=
    clP (f6_isPositive N I a1 (9999 : Int32)) (fun (q_1 : Int32) (I_2 : Mem) =>
    if q_1 = (0 : Int32) then
    some ((-2 : Int32), I_2)
    else
    clP (f5_isFull N I_2 (k0 + 3)) (fun (q_5 : Int32) (I_6 : Mem) =>
    if q_5 = (0 : Int32) then
    clM (f0_remember N I_6 (k0 + 11) (k0 + 3)) (fun I_10 : Mem =>
    clM (f5_addItem N I_10 (k0 + 3) (0 : Int32) (0 : Int32) a1) (fun I_13 : Mem =>
    some ((I_13 (k0 + 3) 5), I_13)))
    else
    some ((-4 : Int32), I_6)))
set_option maxHeartbeats 4000000 in
set_option maxRecDepth 100000 in
theorem c6_addWait (l : Launch) (g : GG) (hG : Apart g NT) (N : Nat) (I : Mem) (k0 : Nat) (a1 : Int32) (t0 : tag k0 = 5) (r0 : Int32) (I0 : Mem) (h : f6_addWait N I k0 a1 = some (r0, I0)) : Mc l g yX6_addWait cX6_addWait 2 (some .int) rm6_addWait I [.ref (ga g k0), .int a1] (some (.int r0)) I0 := by
  refine Mc.of hG (by decide +kernel) (Nat.le_of_ble_eq_true rfl) ?_
  intro p e s m args below meth c ls X hr hlk hP hS hl
  have X : Cx g p s m args c cX6_addWait RX6 2 := X
  have hx := X.hx
  have hb := X.hb
  have hl : lv_has ls 2 [(0, .ref (ga g k0)), (1, .int a1)] := hl
  have locs : List Loc := []
  unfold f6_addWait at h
  refine lv_iload_n hx hb dX6_addWait_0 rfl (lv_at hl 1 rfl) ?_
  refine lv_sipush (v := (9999 : Int32)) hx hb dX6_addWait_1 (by decide +kernel) ?_
  obtain ⟨q_1, I_2, hc_3, h⟩ := clP_e h
  refine r_callS (As := [.int a1, .int (9999 : Int32)]) [] X (c6_isPositive l g hG N _ _ _ _ _ hc_3) cal_X6_isPositive (sc_X6_isPositive) k_302 rfl ⟨rfl, rfl⟩ ⟨Nat.le_of_ble_eq_true rfl, Nat.le_of_ble_eq_true rfl⟩ hP hS hl.1 rfl (Nat.le_of_ble_eq_true rfl) dX6_addWait_4 ⟨Nat.zero_le _, Nat.zero_le _⟩ (fun H locs hP hS => ?_)
  show W p l e rm6_addWait s m args below meth c H locs 0 0 _ (F0 m 7 ls [.int q_1])
  refine lv_if_ne (tgt := 13) hx hb dX6_addWait_7 (by decide) (fun c_4 => ?_) (fun c_4 => ?_)
  · replace h := ifn c_4 h
    refine lv_aload_n hx hb dX6_addWait_13 rfl (lv_at hl 0 rfl) ?_
    refine g6_1 X hP t0 k_155 dX6_addWait_14 ?_
    obtain ⟨q_5, I_6, hc_7, h⟩ := clP_e h
    refine r_callV (As := []) [] X (c5_isFull l g hG N _ _ (g6_1_t t0) _ _ hc_7) cal_X5_isFull (im_X5_isFull) (se_X5_isFull) k_335 (tag_lt (g6_1_t t0) (by decide)) (by rw [lay, (g6_1_t t0)]; rfl) rfl rfl ⟨rfl, rfl⟩ ⟨Nat.le_of_ble_eq_true rfl, Nat.le_of_ble_eq_true rfl⟩ hP hS hl.1 rfl (Nat.le_of_ble_eq_true rfl) dX6_addWait_17 ⟨Nat.zero_le _, Nat.zero_le _⟩ (fun H locs hP hS => ?_)
    show W p l e rm6_addWait s m args below meth c H locs 0 0 _ (F0 m 20 ls [.int q_5])
    refine lv_if_eq (tgt := 26) hx hb dX6_addWait_20 (by decide) (fun c_8 => ?_) (fun c_8 => ?_)
    · replace h := ifp c_8 h
      refine lv_aload_n hx hb dX6_addWait_26 rfl (lv_at hl 0 rfl) ?_
      refine g6_3 X hP t0 k_157 dX6_addWait_27 ?_
      refine lv_aload_n hx hb dX6_addWait_30 rfl (lv_at hl 0 rfl) ?_
      refine g6_1 X hP t0 k_155 dX6_addWait_31 ?_
      obtain ⟨I_10, hc_11, h⟩ := clM_e h
      refine r_callV (As := [.ref (ga g (k0 + 3))]) [] X (c0_remember l g hG N _ _ _ (g6_3_t t0) (g6_1_t t0) _ hc_11) cal_X0_remember (im_X0_remember) (se_X0_remember) k_306 (tag_lt (g6_3_t t0) (by decide)) (by rw [lay, (g6_3_t t0)]; rfl) rfl rfl ⟨rfl, rfl⟩ ⟨Nat.le_of_ble_eq_true rfl, Nat.le_of_ble_eq_true rfl⟩ hP hS hl.1 rfl (Nat.le_of_ble_eq_true rfl) dX6_addWait_34 ⟨Nat.zero_le _, Nat.zero_le _⟩ (fun H locs hP hS => ?_)
      show W p l e rm6_addWait s m args below meth c H locs 0 0 _ (F0 m 37 ls [])
      refine lv_aload_n hx hb dX6_addWait_37 rfl (lv_at hl 0 rfl) ?_
      refine g6_1 X hP t0 k_155 dX6_addWait_38 ?_
      refine lv_iconst (v := (0 : Int32)) hx hb dX6_addWait_41 (by decide +kernel) ?_
      refine lv_iconst (v := (0 : Int32)) hx hb dX6_addWait_42 (by decide +kernel) ?_
      refine lv_iload_n hx hb dX6_addWait_43 rfl (lv_at hl 1 rfl) ?_
      obtain ⟨I_13, hc_14, h⟩ := clM_e h
      refine r_callV (As := [.int (0 : Int32), .int (0 : Int32), .int a1]) [] X (c5_addItem l g hG N _ _ _ _ _ (g6_1_t t0) _ hc_14) cal_X5_addItem (im_X5_addItem) (se_X5_addItem) k_339 (tag_lt (g6_1_t t0) (by decide)) (by rw [lay, (g6_1_t t0)]; rfl) rfl rfl ⟨rfl, rfl⟩ ⟨Nat.le_of_ble_eq_true rfl, Nat.le_of_ble_eq_true rfl⟩ hP hS hl.1 rfl (Nat.le_of_ble_eq_true rfl) dX6_addWait_44 ⟨Nat.zero_le _, Nat.zero_le _⟩ (fun H locs hP hS => ?_)
      show W p l e rm6_addWait s m args below meth c H locs 0 0 _ (F0 m 47 ls [])
      refine lv_aload_n hx hb dX6_addWait_47 rfl (lv_at hl 0 rfl) ?_
      refine g6_1 X hP t0 k_155 dX6_addWait_48 ?_
      refine g5_5 X hP (g6_1_t t0) k_60 dX6_addWait_51 ?_
      exact r_iret X hr hlk hP hS dX6_addWait_54 h
    · replace h := ifn c_8 h
      refine lv_bipush (v := (-4 : Int32)) hx hb dX6_addWait_23 (by decide +kernel) ?_
      exact r_iret X hr hlk hP hS dX6_addWait_25 h
  · replace h := ifp c_4 h
    refine lv_bipush (v := (-2 : Int32)) hx hb dX6_addWait_10 (by decide +kernel) ?_
    exact r_iret X hr hlk hP hS dX6_addWait_12 h
abbrev rm6_step : Room := { frames := 5, cells := 0, slots := 0, locals := 124 }
def f6_step (N : Nat) (I : Mem) (k0 : Nat) : Option (Int32 × Mem) :=
    if (I (k0 + 3) 5) = (0 : Int32) then
    some ((-3 : Int32), I)
    else
    clM (f0_remember N I (k0 + 11) (k0 + 3)) (fun I_3 : Mem =>
    letM (I_3 (k0 + 3) 4) (fun x_5 : Int32 =>
    clP (f5_advance N I_3 (k0 + 3) (k0 + 79) (1 : Int32) (1000000000 : Int32)) (fun (q_6 : Int32) (I_7 : Mem) =>
    some (((I_7 (k0 + 3) 4) - x_5), I_7))))
set_option maxHeartbeats 4000000 in
set_option maxRecDepth 100000 in
theorem c6_step (l : Launch) (g : GG) (hG : Apart g NT) (N : Nat) (I : Mem) (k0 : Nat) (t0 : tag k0 = 5) (r0 : Int32) (I0 : Mem) (h : f6_step N I k0 = some (r0, I0)) : Mc l g yX6_step cX6_step 2 (some .int) rm6_step I [.ref (ga g k0)] (some (.int r0)) I0 := by
  refine Mc.of hG (by decide +kernel) (Nat.le_of_ble_eq_true rfl) ?_
  intro p e s m args below meth c ls X hr hlk hP hS hl
  have X : Cx g p s m args c cX6_step RX6 2 := X
  have hx := X.hx
  have hb := X.hb
  have hl : lv_has ls 2 [(0, .ref (ga g k0))] := hl
  have locs : List Loc := []
  unfold f6_step at h
  refine lv_aload_n hx hb dX6_step_0 rfl (lv_at hl 0 rfl) ?_
  refine g6_1 X hP t0 k_155 dX6_step_1 ?_
  refine g5_5 X hP (g6_1_t t0) k_60 dX6_step_4 ?_
  refine lv_if_ne (tgt := 13) hx hb dX6_step_7 (by decide) (fun c_1 => ?_) (fun c_1 => ?_)
  · replace h := ifn c_1 h
    refine lv_aload_n hx hb dX6_step_13 rfl (lv_at hl 0 rfl) ?_
    refine g6_3 X hP t0 k_157 dX6_step_14 ?_
    refine lv_aload_n hx hb dX6_step_17 rfl (lv_at hl 0 rfl) ?_
    refine g6_1 X hP t0 k_155 dX6_step_18 ?_
    obtain ⟨I_3, hc_4, h⟩ := clM_e h
    refine r_callV (As := [.ref (ga g (k0 + 3))]) [] X (c0_remember l g hG N _ _ _ (g6_3_t t0) (g6_1_t t0) _ hc_4) cal_X0_remember (im_X0_remember) (se_X0_remember) k_306 (tag_lt (g6_3_t t0) (by decide)) (by rw [lay, (g6_3_t t0)]; rfl) rfl rfl ⟨rfl, rfl⟩ ⟨Nat.le_of_ble_eq_true rfl, Nat.le_of_ble_eq_true rfl⟩ hP hS hl.1 rfl (Nat.le_of_ble_eq_true rfl) dX6_step_21 ⟨Nat.zero_le _, Nat.zero_le _⟩ (fun H locs hP hS => ?_)
    show W p l e rm6_step s m args below meth c H locs 0 0 _ (F0 m 24 ls [])
    refine lv_aload_n hx hb dX6_step_24 rfl (lv_at hl 0 rfl) ?_
    refine g6_1 X hP t0 k_155 dX6_step_25 ?_
    refine g5_4 X hP (g6_1_t t0) k_58 dX6_step_28 ?_
    obtain ⟨x_5, ex_5, h⟩ := letM_e h
    refine r_nmi ex_5 ?_
    refine lv_istore_n (lv' := [(1, .int x_5), (0, .ref (ga g k0))]) hx hb dX6_step_31 rfl hl (by decide) rfl (fun ls hl => ?_)
    refine lv_aload_n hx hb dX6_step_32 rfl (lv_at hl 1 rfl) ?_
    refine g6_1 X hP t0 k_155 dX6_step_33 ?_
    refine lv_aload_n hx hb dX6_step_36 rfl (lv_at hl 1 rfl) ?_
    refine g6_6 X hP t0 k_160 dX6_step_37 ?_
    refine lv_iconst (v := (1 : Int32)) hx hb dX6_step_40 (by decide +kernel) ?_
    refine lv_ldc (v := (1000000000 : Int32)) hx hb X.ow (X.hts _ k_353) dX6_step_41 ?_
    obtain ⟨q_6, I_7, hc_8, h⟩ := clP_e h
    refine r_callV (As := [.ref (ga g (k0 + 79)), .int (1 : Int32), .int (1000000000 : Int32)]) [] X (c5_advance l g hG N _ _ _ _ _ (g6_1_t t0) (g6_6_t t0) _ _ hc_8) cal_X5_advance (im_X5_advance) (se_X5_advance) k_354 (tag_lt (g6_1_t t0) (by decide)) (by rw [lay, (g6_1_t t0)]; rfl) rfl rfl ⟨rfl, rfl⟩ ⟨Nat.le_of_ble_eq_true rfl, Nat.le_of_ble_eq_true rfl⟩ hP hS hl.1 rfl (Nat.le_of_ble_eq_true rfl) dX6_step_43 ⟨Nat.zero_le _, Nat.zero_le _⟩ (fun H locs hP hS => ?_)
    show W p l e rm6_step s m args below meth c H locs 0 0 _ (F0 m 46 ls [.int q_6])
    refine lv_pop hx hb dX6_step_46 rfl ?_
    refine lv_aload_n hx hb dX6_step_47 rfl (lv_at hl 1 rfl) ?_
    refine g6_1 X hP t0 k_155 dX6_step_48 ?_
    refine g5_4 X hP (g6_1_t t0) k_58 dX6_step_51 ?_
    refine lv_iload_n hx hb dX6_step_54 rfl (lv_at hl 0 rfl) ?_
    refine lv_isub hx hb dX6_step_55 ?_
    exact r_iret X hr hlk hP hS dX6_step_56 h
  · replace h := ifp c_1 h
    refine lv_bipush (v := (-3 : Int32)) hx hb dX6_step_10 (by decide +kernel) ?_
    exact r_iret X hr hlk hP hS dX6_step_12 h
abbrev rm6_run : Room := { frames := 5, cells := 0, slots := 0, locals := 124 }
def f6_run (N : Nat) (I : Mem) (k0 : Nat) (a1 : Int32) : Option (Int32 × Mem) :=
    clP (f6_isPositive N I a1 (99999 : Int32)) (fun (q_1 : Int32) (I_2 : Mem) =>
    if q_1 = (0 : Int32) then
    some ((-2 : Int32), I_2)
    else
    if (I_2 (k0 + 3) 5) = (0 : Int32) then
    some ((-3 : Int32), I_2)
    else
    clM (f0_remember N I_2 (k0 + 11) (k0 + 3)) (fun I_7 : Mem =>
    clP (f5_advance N I_7 (k0 + 3) (k0 + 79) (1000000000 : Int32) a1) (fun (q_9 : Int32) (I_10 : Mem) =>
    some (q_9, I_10))))
set_option maxHeartbeats 4000000 in
set_option maxRecDepth 100000 in
theorem c6_run (l : Launch) (g : GG) (hG : Apart g NT) (N : Nat) (I : Mem) (k0 : Nat) (a1 : Int32) (t0 : tag k0 = 5) (r0 : Int32) (I0 : Mem) (h : f6_run N I k0 a1 = some (r0, I0)) : Mc l g yX6_run cX6_run 2 (some .int) rm6_run I [.ref (ga g k0), .int a1] (some (.int r0)) I0 := by
  refine Mc.of hG (by decide +kernel) (Nat.le_of_ble_eq_true rfl) ?_
  intro p e s m args below meth c ls X hr hlk hP hS hl
  have X : Cx g p s m args c cX6_run RX6 2 := X
  have hx := X.hx
  have hb := X.hb
  have hl : lv_has ls 2 [(0, .ref (ga g k0)), (1, .int a1)] := hl
  have locs : List Loc := []
  unfold f6_run at h
  refine lv_iload_n hx hb dX6_run_0 rfl (lv_at hl 1 rfl) ?_
  refine lv_ldc (v := (99999 : Int32)) hx hb X.ow (X.hts _ k_352) dX6_run_1 ?_
  obtain ⟨q_1, I_2, hc_3, h⟩ := clP_e h
  refine r_callS (As := [.int a1, .int (99999 : Int32)]) [] X (c6_isPositive l g hG N _ _ _ _ _ hc_3) cal_X6_isPositive (sc_X6_isPositive) k_302 rfl ⟨rfl, rfl⟩ ⟨Nat.le_of_ble_eq_true rfl, Nat.le_of_ble_eq_true rfl⟩ hP hS hl.1 rfl (Nat.le_of_ble_eq_true rfl) dX6_run_3 ⟨Nat.zero_le _, Nat.zero_le _⟩ (fun H locs hP hS => ?_)
  show W p l e rm6_run s m args below meth c H locs 0 0 _ (F0 m 6 ls [.int q_1])
  refine lv_if_ne (tgt := 12) hx hb dX6_run_6 (by decide) (fun c_4 => ?_) (fun c_4 => ?_)
  · replace h := ifn c_4 h
    refine lv_aload_n hx hb dX6_run_12 rfl (lv_at hl 0 rfl) ?_
    refine g6_1 X hP t0 k_155 dX6_run_13 ?_
    refine g5_5 X hP (g6_1_t t0) k_60 dX6_run_16 ?_
    refine lv_if_ne (tgt := 25) hx hb dX6_run_19 (by decide) (fun c_5 => ?_) (fun c_5 => ?_)
    · replace h := ifn c_5 h
      refine lv_aload_n hx hb dX6_run_25 rfl (lv_at hl 0 rfl) ?_
      refine g6_3 X hP t0 k_157 dX6_run_26 ?_
      refine lv_aload_n hx hb dX6_run_29 rfl (lv_at hl 0 rfl) ?_
      refine g6_1 X hP t0 k_155 dX6_run_30 ?_
      obtain ⟨I_7, hc_8, h⟩ := clM_e h
      refine r_callV (As := [.ref (ga g (k0 + 3))]) [] X (c0_remember l g hG N _ _ _ (g6_3_t t0) (g6_1_t t0) _ hc_8) cal_X0_remember (im_X0_remember) (se_X0_remember) k_306 (tag_lt (g6_3_t t0) (by decide)) (by rw [lay, (g6_3_t t0)]; rfl) rfl rfl ⟨rfl, rfl⟩ ⟨Nat.le_of_ble_eq_true rfl, Nat.le_of_ble_eq_true rfl⟩ hP hS hl.1 rfl (Nat.le_of_ble_eq_true rfl) dX6_run_33 ⟨Nat.zero_le _, Nat.zero_le _⟩ (fun H locs hP hS => ?_)
      show W p l e rm6_run s m args below meth c H locs 0 0 _ (F0 m 36 ls [])
      refine lv_aload_n hx hb dX6_run_36 rfl (lv_at hl 0 rfl) ?_
      refine g6_1 X hP t0 k_155 dX6_run_37 ?_
      refine lv_aload_n hx hb dX6_run_40 rfl (lv_at hl 0 rfl) ?_
      refine g6_6 X hP t0 k_160 dX6_run_41 ?_
      refine lv_ldc (v := (1000000000 : Int32)) hx hb X.ow (X.hts _ k_353) dX6_run_44 ?_
      refine lv_iload_n hx hb dX6_run_46 rfl (lv_at hl 1 rfl) ?_
      obtain ⟨q_9, I_10, hc_11, h⟩ := clP_e h
      refine r_callV (As := [.ref (ga g (k0 + 79)), .int (1000000000 : Int32), .int a1]) [] X (c5_advance l g hG N _ _ _ _ _ (g6_1_t t0) (g6_6_t t0) _ _ hc_11) cal_X5_advance (im_X5_advance) (se_X5_advance) k_354 (tag_lt (g6_1_t t0) (by decide)) (by rw [lay, (g6_1_t t0)]; rfl) rfl rfl ⟨rfl, rfl⟩ ⟨Nat.le_of_ble_eq_true rfl, Nat.le_of_ble_eq_true rfl⟩ hP hS hl.1 rfl (Nat.le_of_ble_eq_true rfl) dX6_run_47 ⟨Nat.zero_le _, Nat.zero_le _⟩ (fun H locs hP hS => ?_)
      show W p l e rm6_run s m args below meth c H locs 0 0 _ (F0 m 50 ls [.int q_9])
      exact r_iret X hr hlk hP hS dX6_run_50 h
    · replace h := ifp c_5 h
      refine lv_bipush (v := (-3 : Int32)) hx hb dX6_run_22 (by decide +kernel) ?_
      exact r_iret X hr hlk hP hS dX6_run_24 h
  · replace h := ifp c_4 h
    refine lv_bipush (v := (-2 : Int32)) hx hb dX6_run_9 (by decide +kernel) ?_
    exact r_iret X hr hlk hP hS dX6_run_11 h
abbrev rm6_stop : Room := { frames := 3, cells := 0, slots := 0, locals := 64 }
def f6_stop (N : Nat) (I : Mem) (k0 : Nat) : Option (Int32 × Mem) :=
    clP (f5_isMoving N I (k0 + 3)) (fun (q_1 : Int32) (I_2 : Mem) =>
    if q_1 = (0 : Int32) then
    some ((-3 : Int32), I_2)
    else
    clM (f0_remember N I_2 (k0 + 11) (k0 + 3)) (fun I_6 : Mem =>
    clP (f5_halt N I_6 (k0 + 3)) (fun (q_8 : Int32) (I_9 : Mem) =>
    some (q_8, I_9))))
set_option maxHeartbeats 4000000 in
set_option maxRecDepth 100000 in
theorem c6_stop (l : Launch) (g : GG) (hG : Apart g NT) (N : Nat) (I : Mem) (k0 : Nat) (t0 : tag k0 = 5) (r0 : Int32) (I0 : Mem) (h : f6_stop N I k0 = some (r0, I0)) : Mc l g yX6_stop cX6_stop 1 (some .int) rm6_stop I [.ref (ga g k0)] (some (.int r0)) I0 := by
  refine Mc.of hG (by decide +kernel) (Nat.le_of_ble_eq_true rfl) ?_
  intro p e s m args below meth c ls X hr hlk hP hS hl
  have X : Cx g p s m args c cX6_stop RX6 1 := X
  have hx := X.hx
  have hb := X.hb
  have hl : lv_has ls 1 [(0, .ref (ga g k0))] := hl
  have locs : List Loc := []
  unfold f6_stop at h
  refine lv_aload_n hx hb dX6_stop_0 rfl (lv_at hl 0 rfl) ?_
  refine g6_1 X hP t0 k_155 dX6_stop_1 ?_
  obtain ⟨q_1, I_2, hc_3, h⟩ := clP_e h
  refine r_callV (As := []) [] X (c5_isMoving l g hG N _ _ (g6_1_t t0) _ _ hc_3) cal_X5_isMoving (im_X5_isMoving) (se_X5_isMoving) k_305 (tag_lt (g6_1_t t0) (by decide)) (by rw [lay, (g6_1_t t0)]; rfl) rfl rfl ⟨rfl, rfl⟩ ⟨Nat.le_of_ble_eq_true rfl, Nat.le_of_ble_eq_true rfl⟩ hP hS hl.1 rfl (Nat.le_of_ble_eq_true rfl) dX6_stop_4 ⟨Nat.zero_le _, Nat.zero_le _⟩ (fun H locs hP hS => ?_)
  show W p l e rm6_stop s m args below meth c H locs 0 0 _ (F0 m 7 ls [.int q_1])
  refine lv_if_ne (tgt := 13) hx hb dX6_stop_7 (by decide) (fun c_4 => ?_) (fun c_4 => ?_)
  · replace h := ifn c_4 h
    refine lv_aload_n hx hb dX6_stop_13 rfl (lv_at hl 0 rfl) ?_
    refine g6_3 X hP t0 k_157 dX6_stop_14 ?_
    refine lv_aload_n hx hb dX6_stop_17 rfl (lv_at hl 0 rfl) ?_
    refine g6_1 X hP t0 k_155 dX6_stop_18 ?_
    obtain ⟨I_6, hc_7, h⟩ := clM_e h
    refine r_callV (As := [.ref (ga g (k0 + 3))]) [] X (c0_remember l g hG N _ _ _ (g6_3_t t0) (g6_1_t t0) _ hc_7) cal_X0_remember (im_X0_remember) (se_X0_remember) k_306 (tag_lt (g6_3_t t0) (by decide)) (by rw [lay, (g6_3_t t0)]; rfl) rfl rfl ⟨rfl, rfl⟩ ⟨Nat.le_of_ble_eq_true rfl, Nat.le_of_ble_eq_true rfl⟩ hP hS hl.1 rfl (Nat.le_of_ble_eq_true rfl) dX6_stop_21 ⟨Nat.zero_le _, Nat.zero_le _⟩ (fun H locs hP hS => ?_)
    show W p l e rm6_stop s m args below meth c H locs 0 0 _ (F0 m 24 ls [])
    refine lv_aload_n hx hb dX6_stop_24 rfl (lv_at hl 0 rfl) ?_
    refine g6_1 X hP t0 k_155 dX6_stop_25 ?_
    obtain ⟨q_8, I_9, hc_10, h⟩ := clP_e h
    refine r_callV (As := []) [] X (c5_halt l g hG N _ _ (g6_1_t t0) _ _ hc_10) cal_X5_halt (im_X5_halt) (se_X5_halt) k_446 (tag_lt (g6_1_t t0) (by decide)) (by rw [lay, (g6_1_t t0)]; rfl) rfl rfl ⟨rfl, rfl⟩ ⟨Nat.le_of_ble_eq_true rfl, Nat.le_of_ble_eq_true rfl⟩ hP hS hl.1 rfl (Nat.le_of_ble_eq_true rfl) dX6_stop_28 ⟨Nat.zero_le _, Nat.zero_le _⟩ (fun H locs hP hS => ?_)
    show W p l e rm6_stop s m args below meth c H locs 0 0 _ (F0 m 31 ls [.int q_8])
    exact r_iret X hr hlk hP hS dX6_stop_31 h
  · replace h := ifp c_4 h
    refine lv_bipush (v := (-3 : Int32)) hx hb dX6_stop_10 (by decide +kernel) ?_
    exact r_iret X hr hlk hP hS dX6_stop_12 h
abbrev rm6_removeItem : Room := { frames := 3, cells := 0, slots := 0, locals := 64 }
def f6_removeItem_30 (N : Nat) (k0 : Nat) (a1 : Int32) (I : Mem) : Option (Int32 × Mem) :=
    clM (f0_remember N I (k0 + 11) (k0 + 3)) (fun I_7 : Mem =>
    clM (f5_dropItem N I_7 (k0 + 3) a1) (fun I_10 : Mem =>
    some ((I_10 (k0 + 3) 5), I_10)))
def f6_removeItem (N : Nat) (I : Mem) (k0 : Nat) (a1 : Int32) : Option (Int32 × Mem) :=
    clP (f5_hasItem N I (k0 + 3) a1) (fun (q_1 : Int32) (I_2 : Mem) =>
    if q_1 = (0 : Int32) then
    some ((-1 : Int32), I_2)
    else
    if a1 = (0 : Int32) then
    clP (f5_isMoving N I_2 (k0 + 3)) (fun (q_12 : Int32) (I_13 : Mem) =>
    if q_12 = (0 : Int32) then
    f6_removeItem_30 N k0 a1 I_13
    else
    some ((-3 : Int32), I_13))
    else
    f6_removeItem_30 N k0 a1 I_2)
set_option maxHeartbeats 4000000 in
set_option maxRecDepth 100000 in
theorem L6_removeItem_30 (hG : Apart g NT) (N : Nat) (k0 : Nat) (a1 : Int32) (t0 : tag k0 = 5) (X : Cx g p s m args c cX6_removeItem RX6 2) (hr : meth.sig.returnType = (some .int)) (hlk : meth.locks = false) (r0 : Int32) (I0 : Mem) : ∀ (I : Mem), f6_removeItem_30 N k0 a1 I = some (r0, I0) → ∀ (H : Heap) (locs : List Loc) (ls : Array Slot), Wp g I H → va_S (gA g) s.heap H locs → lv_has ls 2 [(0, .ref (ga g k0)), (1, .int a1)] → W p l e rm6_removeItem s m args below meth c H locs 0 0 (MQ below (Qg g (some (.int r0)) I0) args s 0 0 (gA g)) (F0 m 30 ls []) := by
  have hx := X.hx
  have hb := X.hb
  intro I h H locs ls hP hS hl
  unfold f6_removeItem_30 at h
  refine lv_aload_n hx hb dX6_removeItem_30 rfl (lv_at hl 0 rfl) ?_
  refine g6_3 X hP t0 k_157 dX6_removeItem_31 ?_
  refine lv_aload_n hx hb dX6_removeItem_34 rfl (lv_at hl 0 rfl) ?_
  refine g6_1 X hP t0 k_155 dX6_removeItem_35 ?_
  obtain ⟨I_7, hc_8, h⟩ := clM_e h
  refine r_callV (As := [.ref (ga g (k0 + 3))]) [] X (c0_remember l g hG N _ _ _ (g6_3_t t0) (g6_1_t t0) _ hc_8) cal_X0_remember (im_X0_remember) (se_X0_remember) k_306 (tag_lt (g6_3_t t0) (by decide)) (by rw [lay, (g6_3_t t0)]; rfl) rfl rfl ⟨rfl, rfl⟩ ⟨Nat.le_of_ble_eq_true rfl, Nat.le_of_ble_eq_true rfl⟩ hP hS hl.1 rfl (Nat.le_of_ble_eq_true rfl) dX6_removeItem_38 ⟨Nat.zero_le _, Nat.zero_le _⟩ (fun H locs hP hS => ?_)
  show W p l e rm6_removeItem s m args below meth c H locs 0 0 _ (F0 m 41 ls [])
  refine lv_aload_n hx hb dX6_removeItem_41 rfl (lv_at hl 0 rfl) ?_
  refine g6_1 X hP t0 k_155 dX6_removeItem_42 ?_
  refine lv_iload_n hx hb dX6_removeItem_45 rfl (lv_at hl 1 rfl) ?_
  obtain ⟨I_10, hc_11, h⟩ := clM_e h
  refine r_callV (As := [.int a1]) [] X (c5_dropItem l g hG N _ _ _ (g6_1_t t0) _ hc_11) cal_X5_dropItem (im_X5_dropItem) (se_X5_dropItem) k_404 (tag_lt (g6_1_t t0) (by decide)) (by rw [lay, (g6_1_t t0)]; rfl) rfl rfl ⟨rfl, rfl⟩ ⟨Nat.le_of_ble_eq_true rfl, Nat.le_of_ble_eq_true rfl⟩ hP hS hl.1 rfl (Nat.le_of_ble_eq_true rfl) dX6_removeItem_46 ⟨Nat.zero_le _, Nat.zero_le _⟩ (fun H locs hP hS => ?_)
  show W p l e rm6_removeItem s m args below meth c H locs 0 0 _ (F0 m 49 ls [])
  refine lv_aload_n hx hb dX6_removeItem_49 rfl (lv_at hl 0 rfl) ?_
  refine g6_1 X hP t0 k_155 dX6_removeItem_50 ?_
  refine g5_5 X hP (g6_1_t t0) k_60 dX6_removeItem_53 ?_
  exact r_iret X hr hlk hP hS dX6_removeItem_56 h
set_option maxHeartbeats 4000000 in
set_option maxRecDepth 100000 in
theorem c6_removeItem (l : Launch) (g : GG) (hG : Apart g NT) (N : Nat) (I : Mem) (k0 : Nat) (a1 : Int32) (t0 : tag k0 = 5) (r0 : Int32) (I0 : Mem) (h : f6_removeItem N I k0 a1 = some (r0, I0)) : Mc l g yX6_removeItem cX6_removeItem 2 (some .int) rm6_removeItem I [.ref (ga g k0), .int a1] (some (.int r0)) I0 := by
  refine Mc.of hG (by decide +kernel) (Nat.le_of_ble_eq_true rfl) ?_
  intro p e s m args below meth c ls X hr hlk hP hS hl
  have X : Cx g p s m args c cX6_removeItem RX6 2 := X
  have hx := X.hx
  have hb := X.hb
  have hl : lv_has ls 2 [(0, .ref (ga g k0)), (1, .int a1)] := hl
  have locs : List Loc := []
  unfold f6_removeItem at h
  refine lv_aload_n hx hb dX6_removeItem_0 rfl (lv_at hl 0 rfl) ?_
  refine g6_1 X hP t0 k_155 dX6_removeItem_1 ?_
  refine lv_iload_n hx hb dX6_removeItem_4 rfl (lv_at hl 1 rfl) ?_
  obtain ⟨q_1, I_2, hc_3, h⟩ := clP_e h
  refine r_callV (As := [.int a1]) [] X (c5_hasItem l g hG N _ _ _ (g6_1_t t0) _ _ hc_3) cal_X5_hasItem (im_X5_hasItem) (se_X5_hasItem) k_212 (tag_lt (g6_1_t t0) (by decide)) (by rw [lay, (g6_1_t t0)]; rfl) rfl rfl ⟨rfl, rfl⟩ ⟨Nat.le_of_ble_eq_true rfl, Nat.le_of_ble_eq_true rfl⟩ hP hS hl.1 rfl (Nat.le_of_ble_eq_true rfl) dX6_removeItem_5 ⟨Nat.zero_le _, Nat.zero_le _⟩ (fun H locs hP hS => ?_)
  show W p l e rm6_removeItem s m args below meth c H locs 0 0 _ (F0 m 8 ls [.int q_1])
  refine lv_if_ne (tgt := 13) hx hb dX6_removeItem_8 (by decide) (fun c_4 => ?_) (fun c_4 => ?_)
  · replace h := ifn c_4 h
    refine lv_iload_n hx hb dX6_removeItem_13 rfl (lv_at hl 1 rfl) ?_
    refine lv_if_ne (tgt := 30) hx hb dX6_removeItem_14 (by decide) (fun c_5 => ?_) (fun c_5 => ?_)
    · replace h := ifn c_5 h
      exact L6_removeItem_30 hG N k0 a1 t0 X hr hlk r0 I0 I_2 h _ _ _ hP hS (lv_sub hl [0, 1] rfl)
    · replace h := ifp c_5 h
      refine lv_aload_n hx hb dX6_removeItem_17 rfl (lv_at hl 0 rfl) ?_
      refine g6_1 X hP t0 k_155 dX6_removeItem_18 ?_
      obtain ⟨q_12, I_13, hc_14, h⟩ := clP_e h
      refine r_callV (As := []) [] X (c5_isMoving l g hG N _ _ (g6_1_t t0) _ _ hc_14) cal_X5_isMoving (im_X5_isMoving) (se_X5_isMoving) k_305 (tag_lt (g6_1_t t0) (by decide)) (by rw [lay, (g6_1_t t0)]; rfl) rfl rfl ⟨rfl, rfl⟩ ⟨Nat.le_of_ble_eq_true rfl, Nat.le_of_ble_eq_true rfl⟩ hP hS hl.1 rfl (Nat.le_of_ble_eq_true rfl) dX6_removeItem_21 ⟨Nat.zero_le _, Nat.zero_le _⟩ (fun H locs hP hS => ?_)
      show W p l e rm6_removeItem s m args below meth c H locs 0 0 _ (F0 m 24 ls [.int q_12])
      refine lv_if_eq (tgt := 30) hx hb dX6_removeItem_24 (by decide) (fun c_15 => ?_) (fun c_15 => ?_)
      · replace h := ifp c_15 h
        exact L6_removeItem_30 hG N k0 a1 t0 X hr hlk r0 I0 I_13 h _ _ _ hP hS (lv_sub hl [0, 1] rfl)
      · replace h := ifn c_15 h
        refine lv_bipush (v := (-3 : Int32)) hx hb dX6_removeItem_27 (by decide +kernel) ?_
        exact r_iret X hr hlk hP hS dX6_removeItem_29 h
  · replace h := ifp c_4 h
    refine lv_iconst (v := (-1 : Int32)) hx hb dX6_removeItem_11 (by decide +kernel) ?_
    exact r_iret X hr hlk hP hS dX6_removeItem_12 h
abbrev rm6_undo : Room := { frames := 3, cells := 0, slots := 0, locals := 64 }
def f6_undo (N : Nat) (I : Mem) (k0 : Nat) : Option (Int32 × Mem) :=
    clP (f0_takeBack N I (k0 + 11) (k0 + 3)) (fun (q_1 : Int32) (I_2 : Mem) =>
    if q_1 = (0 : Int32) then
    some ((-3 : Int32), I_2)
    else
    some ((I_2 (k0 + 11) 2), I_2))
set_option maxHeartbeats 4000000 in
set_option maxRecDepth 100000 in
theorem c6_undo (l : Launch) (g : GG) (hG : Apart g NT) (N : Nat) (I : Mem) (k0 : Nat) (t0 : tag k0 = 5) (r0 : Int32) (I0 : Mem) (h : f6_undo N I k0 = some (r0, I0)) : Mc l g yX6_undo cX6_undo 1 (some .int) rm6_undo I [.ref (ga g k0)] (some (.int r0)) I0 := by
  refine Mc.of hG (by decide +kernel) (Nat.le_of_ble_eq_true rfl) ?_
  intro p e s m args below meth c ls X hr hlk hP hS hl
  have X : Cx g p s m args c cX6_undo RX6 1 := X
  have hx := X.hx
  have hb := X.hb
  have hl : lv_has ls 1 [(0, .ref (ga g k0))] := hl
  have locs : List Loc := []
  unfold f6_undo at h
  refine lv_aload_n hx hb dX6_undo_0 rfl (lv_at hl 0 rfl) ?_
  refine g6_3 X hP t0 k_157 dX6_undo_1 ?_
  refine lv_aload_n hx hb dX6_undo_4 rfl (lv_at hl 0 rfl) ?_
  refine g6_1 X hP t0 k_155 dX6_undo_5 ?_
  obtain ⟨q_1, I_2, hc_3, h⟩ := clP_e h
  refine r_callV (As := [.ref (ga g (k0 + 3))]) [] X (c0_takeBack l g hG N _ _ _ (g6_3_t t0) (g6_1_t t0) _ _ hc_3) cal_X0_takeBack (im_X0_takeBack) (se_X0_takeBack) k_594 (tag_lt (g6_3_t t0) (by decide)) (by rw [lay, (g6_3_t t0)]; rfl) rfl rfl ⟨rfl, rfl⟩ ⟨Nat.le_of_ble_eq_true rfl, Nat.le_of_ble_eq_true rfl⟩ hP hS hl.1 rfl (Nat.le_of_ble_eq_true rfl) dX6_undo_8 ⟨Nat.zero_le _, Nat.zero_le _⟩ (fun H locs hP hS => ?_)
  show W p l e rm6_undo s m args below meth c H locs 0 0 _ (F0 m 11 ls [.int q_1])
  refine lv_if_eq (tgt := 24) hx hb dX6_undo_11 (by decide) (fun c_4 => ?_) (fun c_4 => ?_)
  · replace h := ifp c_4 h
    refine lv_bipush (v := (-3 : Int32)) hx hb dX6_undo_24 (by decide +kernel) ?_
    exact r_iret X hr hlk hP hS dX6_undo_26 h
  · replace h := ifn c_4 h
    refine lv_aload_n hx hb dX6_undo_14 rfl (lv_at hl 0 rfl) ?_
    refine g6_3 X hP t0 k_157 dX6_undo_15 ?_
    refine g0_2 X hP (g6_3_t t0) k_106 dX6_undo_18 ?_
    refine lv_goto (tgt := 26) hx hb dX6_undo_21 (by decide) ?_
    exact r_iret X hr hlk hP hS dX6_undo_26 h
abbrev rm6_ticksLeft : Room := { frames := 5, cells := 0, slots := 0, locals := 124 }
def f6_ticksLeft (N : Nat) (I : Mem) (k0 : Nat) : Option (Int32 × Mem) :=
    clM (f5_become N I (k0 + 7) (k0 + 3)) (fun I_2 : Mem =>
    clP (f5_advance N I_2 (k0 + 7) (k0 + 79) (1000000000 : Int32) (1000000000 : Int32)) (fun (q_4 : Int32) (I_5 : Mem) =>
    some (((I_5 (k0 + 7) 4) - (I_5 (k0 + 3) 4)), I_5)))
set_option maxHeartbeats 4000000 in
set_option maxRecDepth 100000 in
theorem c6_ticksLeft (l : Launch) (g : GG) (hG : Apart g NT) (N : Nat) (I : Mem) (k0 : Nat) (t0 : tag k0 = 5) (r0 : Int32) (I0 : Mem) (h : f6_ticksLeft N I k0 = some (r0, I0)) : Mc l g yX6_ticksLeft cX6_ticksLeft 1 (some .int) rm6_ticksLeft I [.ref (ga g k0)] (some (.int r0)) I0 := by
  refine Mc.of hG (by decide +kernel) (Nat.le_of_ble_eq_true rfl) ?_
  intro p e s m args below meth c ls X hr hlk hP hS hl
  have X : Cx g p s m args c cX6_ticksLeft RX6 1 := X
  have hx := X.hx
  have hb := X.hb
  have hl : lv_has ls 1 [(0, .ref (ga g k0))] := hl
  have locs : List Loc := []
  unfold f6_ticksLeft at h
  refine lv_aload_n hx hb dX6_ticksLeft_0 rfl (lv_at hl 0 rfl) ?_
  refine g6_2 X hP t0 k_156 dX6_ticksLeft_1 ?_
  refine lv_aload_n hx hb dX6_ticksLeft_4 rfl (lv_at hl 0 rfl) ?_
  refine g6_1 X hP t0 k_155 dX6_ticksLeft_5 ?_
  obtain ⟨I_2, hc_3, h⟩ := clM_e h
  refine r_callV (As := [.ref (ga g (k0 + 3))]) [] X (c5_become l g hG N _ _ _ (g6_2_t t0) (g6_1_t t0) _ hc_3) cal_X5_become (im_X5_become) (se_X5_become) k_414 (tag_lt (g6_2_t t0) (by decide)) (by rw [lay, (g6_2_t t0)]; rfl) rfl rfl ⟨rfl, rfl⟩ ⟨Nat.le_of_ble_eq_true rfl, Nat.le_of_ble_eq_true rfl⟩ hP hS hl.1 rfl (Nat.le_of_ble_eq_true rfl) dX6_ticksLeft_8 ⟨Nat.zero_le _, Nat.zero_le _⟩ (fun H locs hP hS => ?_)
  show W p l e rm6_ticksLeft s m args below meth c H locs 0 0 _ (F0 m 11 ls [])
  refine lv_aload_n hx hb dX6_ticksLeft_11 rfl (lv_at hl 0 rfl) ?_
  refine g6_2 X hP t0 k_156 dX6_ticksLeft_12 ?_
  refine lv_aload_n hx hb dX6_ticksLeft_15 rfl (lv_at hl 0 rfl) ?_
  refine g6_6 X hP t0 k_160 dX6_ticksLeft_16 ?_
  refine lv_ldc (v := (1000000000 : Int32)) hx hb X.ow (X.hts _ k_353) dX6_ticksLeft_19 ?_
  refine lv_ldc (v := (1000000000 : Int32)) hx hb X.ow (X.hts _ k_353) dX6_ticksLeft_21 ?_
  obtain ⟨q_4, I_5, hc_6, h⟩ := clP_e h
  refine r_callV (As := [.ref (ga g (k0 + 79)), .int (1000000000 : Int32), .int (1000000000 : Int32)]) [] X (c5_advance l g hG N _ _ _ _ _ (g6_2_t t0) (g6_6_t t0) _ _ hc_6) cal_X5_advance (im_X5_advance) (se_X5_advance) k_354 (tag_lt (g6_2_t t0) (by decide)) (by rw [lay, (g6_2_t t0)]; rfl) rfl rfl ⟨rfl, rfl⟩ ⟨Nat.le_of_ble_eq_true rfl, Nat.le_of_ble_eq_true rfl⟩ hP hS hl.1 rfl (Nat.le_of_ble_eq_true rfl) dX6_ticksLeft_23 ⟨Nat.zero_le _, Nat.zero_le _⟩ (fun H locs hP hS => ?_)
  show W p l e rm6_ticksLeft s m args below meth c H locs 0 0 _ (F0 m 26 ls [.int q_4])
  refine lv_pop hx hb dX6_ticksLeft_26 rfl ?_
  refine lv_aload_n hx hb dX6_ticksLeft_27 rfl (lv_at hl 0 rfl) ?_
  refine g6_2 X hP t0 k_156 dX6_ticksLeft_28 ?_
  refine g5_4 X hP (g6_2_t t0) k_58 dX6_ticksLeft_31 ?_
  refine lv_aload_n hx hb dX6_ticksLeft_34 rfl (lv_at hl 0 rfl) ?_
  refine g6_1 X hP t0 k_155 dX6_ticksLeft_35 ?_
  refine g5_4 X hP (g6_1_t t0) k_58 dX6_ticksLeft_38 ?_
  refine lv_isub hx hb dX6_ticksLeft_41 ?_
  exact r_iret X hr hlk hP hS dX6_ticksLeft_42 h
abbrev rm6_moveTicks : Room := { frames := 5, cells := 0, slots := 0, locals := 115 }
def f6_moveTicks (N : Nat) (I : Mem) (k0 : Nat) (a1 : Int32) : Option (Int32 × Mem) :=
    clP (f6_isPositive N I a1 (999 : Int32)) (fun (q_1 : Int32) (I_2 : Mem) =>
    if q_1 = (0 : Int32) then
    some ((-2 : Int32), I_2)
    else
    clP (f6_presentRamp N I_2 k0) (fun (q_5 : Nat) (I_6 : Mem) =>
    if ¬ tag q_5 = 1 then none else
    clP (f2_ticksOfMove N I_6 q_5 a1) (fun (q_8 : Int32) (I_9 : Mem) =>
    some (q_8, I_9))))
set_option maxHeartbeats 4000000 in
set_option maxRecDepth 100000 in
theorem c6_moveTicks (l : Launch) (g : GG) (hG : Apart g NT) (N : Nat) (I : Mem) (k0 : Nat) (a1 : Int32) (t0 : tag k0 = 5) (r0 : Int32) (I0 : Mem) (h : f6_moveTicks N I k0 a1 = some (r0, I0)) : Mc l g yX6_moveTicks cX6_moveTicks 2 (some .int) rm6_moveTicks I [.ref (ga g k0), .int a1] (some (.int r0)) I0 := by
  refine Mc.of hG (by decide +kernel) (Nat.le_of_ble_eq_true rfl) ?_
  intro p e s m args below meth c ls X hr hlk hP hS hl
  have X : Cx g p s m args c cX6_moveTicks RX6 2 := X
  have hx := X.hx
  have hb := X.hb
  have hl : lv_has ls 2 [(0, .ref (ga g k0)), (1, .int a1)] := hl
  have locs : List Loc := []
  unfold f6_moveTicks at h
  refine lv_iload_n hx hb dX6_moveTicks_0 rfl (lv_at hl 1 rfl) ?_
  refine lv_sipush (v := (999 : Int32)) hx hb dX6_moveTicks_1 (by decide +kernel) ?_
  obtain ⟨q_1, I_2, hc_3, h⟩ := clP_e h
  refine r_callS (As := [.int a1, .int (999 : Int32)]) [] X (c6_isPositive l g hG N _ _ _ _ _ hc_3) cal_X6_isPositive (sc_X6_isPositive) k_302 rfl ⟨rfl, rfl⟩ ⟨Nat.le_of_ble_eq_true rfl, Nat.le_of_ble_eq_true rfl⟩ hP hS hl.1 rfl (Nat.le_of_ble_eq_true rfl) dX6_moveTicks_4 ⟨Nat.zero_le _, Nat.zero_le _⟩ (fun H locs hP hS => ?_)
  show W p l e rm6_moveTicks s m args below meth c H locs 0 0 _ (F0 m 7 ls [.int q_1])
  refine lv_if_eq (tgt := 21) hx hb dX6_moveTicks_7 (by decide) (fun c_4 => ?_) (fun c_4 => ?_)
  · replace h := ifp c_4 h
    refine lv_bipush (v := (-2 : Int32)) hx hb dX6_moveTicks_21 (by decide +kernel) ?_
    exact r_iret X hr hlk hP hS dX6_moveTicks_23 h
  · replace h := ifn c_4 h
    refine lv_aload_n hx hb dX6_moveTicks_10 rfl (lv_at hl 0 rfl) ?_
    obtain ⟨q_5, I_6, hc_7, h⟩ := clP_e h
    refine r_callV (As := []) [] X (c6_presentRamp l g hG N _ _ t0 _ _ hc_7) cal_X6_presentRamp (im_X6_presentRamp) (se_X6_presentRamp) k_246 (tag_lt t0 (by decide)) (by rw [lay, t0]; rfl) rfl rfl ⟨rfl, rfl⟩ ⟨Nat.le_of_ble_eq_true rfl, Nat.le_of_ble_eq_true rfl⟩ hP hS hl.1 rfl (Nat.le_of_ble_eq_true rfl) dX6_moveTicks_11 ⟨Nat.zero_le _, Nat.zero_le _⟩ (fun H locs hP hS => ?_)
    obtain ⟨Tq_5, h⟩ := gd_e h
    replace Tq_5 := Classical.not_not.mp Tq_5
    show W p l e rm6_moveTicks s m args below meth c H locs 0 0 _ (F0 m 14 ls [.ref (ga g q_5)])
    refine lv_iload_n hx hb dX6_moveTicks_14 rfl (lv_at hl 1 rfl) ?_
    obtain ⟨q_8, I_9, hc_10, h⟩ := clP_e h
    refine r_callV (As := [.int a1]) [] X (c2_ticksOfMove l g hG N _ _ _ Tq_5 _ _ hc_10) cal_X2_ticksOfMove (im_X2_ticksOfMove) (se_X2_ticksOfMove) k_409 (tag_lt Tq_5 (by decide)) (by rw [lay, Tq_5]; rfl) rfl rfl ⟨rfl, rfl⟩ ⟨Nat.le_of_ble_eq_true rfl, Nat.le_of_ble_eq_true rfl⟩ hP hS hl.1 rfl (Nat.le_of_ble_eq_true rfl) dX6_moveTicks_15 ⟨Nat.zero_le _, Nat.zero_le _⟩ (fun H locs hP hS => ?_)
    show W p l e rm6_moveTicks s m args below meth c H locs 0 0 _ (F0 m 18 ls [.int q_8])
    refine lv_goto (tgt := 23) hx hb dX6_moveTicks_18 (by decide) ?_
    exact r_iret X hr hlk hP hS dX6_moveTicks_23 h
abbrev rm6_positionAfter : Room := { frames := 5, cells := 0, slots := 0, locals := 124 }
def f6_positionAfter (N : Nat) (I : Mem) (k0 : Nat) (a1 : Int32) (a2 : Int32) : Option (Int32 × Mem) :=
    clP (f6_isAxis N I a1) (fun (q_1 : Int32) (I_2 : Mem) =>
    if q_1 = (0 : Int32) then
    some ((-1 : Int32), I_2)
    else
    if a2 < (0 : Int32) then
    some ((-2 : Int32), I_2)
    else
    if a2 ≤ (99999 : Int32) then
    clM (f5_become N I_2 (k0 + 7) (k0 + 3)) (fun I_8 : Mem =>
    clP (f5_advance N I_8 (k0 + 7) (k0 + 79) (1000000000 : Int32) a2) (fun (q_10 : Int32) (I_11 : Mem) =>
    clP (f5_shownPosition N I_11 (k0 + 7) a1) (fun (q_13 : Int32) (I_14 : Mem) =>
    some (q_13, I_14))))
    else
    some ((-2 : Int32), I_2))
set_option maxHeartbeats 4000000 in
set_option maxRecDepth 100000 in
theorem c6_positionAfter (l : Launch) (g : GG) (hG : Apart g NT) (N : Nat) (I : Mem) (k0 : Nat) (a1 : Int32) (a2 : Int32) (t0 : tag k0 = 5) (r0 : Int32) (I0 : Mem) (h : f6_positionAfter N I k0 a1 a2 = some (r0, I0)) : Mc l g yX6_positionAfter cX6_positionAfter 3 (some .int) rm6_positionAfter I [.ref (ga g k0), .int a1, .int a2] (some (.int r0)) I0 := by
  refine Mc.of hG (by decide +kernel) (Nat.le_of_ble_eq_true rfl) ?_
  intro p e s m args below meth c ls X hr hlk hP hS hl
  have X : Cx g p s m args c cX6_positionAfter RX6 3 := X
  have hx := X.hx
  have hb := X.hb
  have hl : lv_has ls 3 [(0, .ref (ga g k0)), (1, .int a1), (2, .int a2)] := hl
  have locs : List Loc := []
  unfold f6_positionAfter at h
  refine lv_iload_n hx hb dX6_positionAfter_0 rfl (lv_at hl 1 rfl) ?_
  obtain ⟨q_1, I_2, hc_3, h⟩ := clP_e h
  refine r_callS (As := [.int a1]) [] X (c6_isAxis l g hG N _ _ _ _ hc_3) cal_X6_isAxis (sc_X6_isAxis) k_200 rfl ⟨rfl, rfl⟩ ⟨Nat.le_of_ble_eq_true rfl, Nat.le_of_ble_eq_true rfl⟩ hP hS hl.1 rfl (Nat.le_of_ble_eq_true rfl) dX6_positionAfter_1 ⟨Nat.zero_le _, Nat.zero_le _⟩ (fun H locs hP hS => ?_)
  show W p l e rm6_positionAfter s m args below meth c H locs 0 0 _ (F0 m 4 ls [.int q_1])
  refine lv_if_ne (tgt := 9) hx hb dX6_positionAfter_4 (by decide) (fun c_4 => ?_) (fun c_4 => ?_)
  · replace h := ifn c_4 h
    refine lv_iload_n hx hb dX6_positionAfter_9 rfl (lv_at hl 2 rfl) ?_
    refine lv_if_lt (tgt := 19) hx hb dX6_positionAfter_10 (by decide) (fun c_5 => ?_) (fun c_5 => ?_)
    · replace h := ifp c_5 h
      refine lv_bipush (v := (-2 : Int32)) hx hb dX6_positionAfter_19 (by decide +kernel) ?_
      exact r_iret X hr hlk hP hS dX6_positionAfter_21 h
    · replace h := ifn c_5 h
      refine lv_iload_n hx hb dX6_positionAfter_13 rfl (lv_at hl 2 rfl) ?_
      refine lv_ldc (v := (99999 : Int32)) hx hb X.ow (X.hts _ k_352) dX6_positionAfter_14 ?_
      refine lv_icmp_le (tgt := 22) hx hb dX6_positionAfter_16 (by decide) (fun c_6 => ?_) (fun c_6 => ?_)
      · replace h := ifp c_6 h
        refine lv_aload_n hx hb dX6_positionAfter_22 rfl (lv_at hl 0 rfl) ?_
        refine g6_2 X hP t0 k_156 dX6_positionAfter_23 ?_
        refine lv_aload_n hx hb dX6_positionAfter_26 rfl (lv_at hl 0 rfl) ?_
        refine g6_1 X hP t0 k_155 dX6_positionAfter_27 ?_
        obtain ⟨I_8, hc_9, h⟩ := clM_e h
        refine r_callV (As := [.ref (ga g (k0 + 3))]) [] X (c5_become l g hG N _ _ _ (g6_2_t t0) (g6_1_t t0) _ hc_9) cal_X5_become (im_X5_become) (se_X5_become) k_414 (tag_lt (g6_2_t t0) (by decide)) (by rw [lay, (g6_2_t t0)]; rfl) rfl rfl ⟨rfl, rfl⟩ ⟨Nat.le_of_ble_eq_true rfl, Nat.le_of_ble_eq_true rfl⟩ hP hS hl.1 rfl (Nat.le_of_ble_eq_true rfl) dX6_positionAfter_30 ⟨Nat.zero_le _, Nat.zero_le _⟩ (fun H locs hP hS => ?_)
        show W p l e rm6_positionAfter s m args below meth c H locs 0 0 _ (F0 m 33 ls [])
        refine lv_aload_n hx hb dX6_positionAfter_33 rfl (lv_at hl 0 rfl) ?_
        refine g6_2 X hP t0 k_156 dX6_positionAfter_34 ?_
        refine lv_aload_n hx hb dX6_positionAfter_37 rfl (lv_at hl 0 rfl) ?_
        refine g6_6 X hP t0 k_160 dX6_positionAfter_38 ?_
        refine lv_ldc (v := (1000000000 : Int32)) hx hb X.ow (X.hts _ k_353) dX6_positionAfter_41 ?_
        refine lv_iload_n hx hb dX6_positionAfter_43 rfl (lv_at hl 2 rfl) ?_
        obtain ⟨q_10, I_11, hc_12, h⟩ := clP_e h
        refine r_callV (As := [.ref (ga g (k0 + 79)), .int (1000000000 : Int32), .int a2]) [] X (c5_advance l g hG N _ _ _ _ _ (g6_2_t t0) (g6_6_t t0) _ _ hc_12) cal_X5_advance (im_X5_advance) (se_X5_advance) k_354 (tag_lt (g6_2_t t0) (by decide)) (by rw [lay, (g6_2_t t0)]; rfl) rfl rfl ⟨rfl, rfl⟩ ⟨Nat.le_of_ble_eq_true rfl, Nat.le_of_ble_eq_true rfl⟩ hP hS hl.1 rfl (Nat.le_of_ble_eq_true rfl) dX6_positionAfter_44 ⟨Nat.zero_le _, Nat.zero_le _⟩ (fun H locs hP hS => ?_)
        show W p l e rm6_positionAfter s m args below meth c H locs 0 0 _ (F0 m 47 ls [.int q_10])
        refine lv_pop hx hb dX6_positionAfter_47 rfl ?_
        refine lv_aload_n hx hb dX6_positionAfter_48 rfl (lv_at hl 0 rfl) ?_
        refine g6_2 X hP t0 k_156 dX6_positionAfter_49 ?_
        refine lv_iload_n hx hb dX6_positionAfter_52 rfl (lv_at hl 1 rfl) ?_
        obtain ⟨q_13, I_14, hc_15, h⟩ := clP_e h
        refine r_callV (As := [.int a1]) [] X (c5_shownPosition l g hG N _ _ _ (g6_2_t t0) _ _ hc_15) cal_X5_shownPosition (im_X5_shownPosition) (se_X5_shownPosition) k_203 (tag_lt (g6_2_t t0) (by decide)) (by rw [lay, (g6_2_t t0)]; rfl) rfl rfl ⟨rfl, rfl⟩ ⟨Nat.le_of_ble_eq_true rfl, Nat.le_of_ble_eq_true rfl⟩ hP hS hl.1 rfl (Nat.le_of_ble_eq_true rfl) dX6_positionAfter_53 ⟨Nat.zero_le _, Nat.zero_le _⟩ (fun H locs hP hS => ?_)
        show W p l e rm6_positionAfter s m args below meth c H locs 0 0 _ (F0 m 56 ls [.int q_13])
        exact r_iret X hr hlk hP hS dX6_positionAfter_56 h
      · replace h := ifn c_6 h
        refine lv_bipush (v := (-2 : Int32)) hx hb dX6_positionAfter_19 (by decide +kernel) ?_
        exact r_iret X hr hlk hP hS dX6_positionAfter_21 h
  · replace h := ifp c_4 h
    refine lv_iconst (v := (-1 : Int32)) hx hb dX6_positionAfter_7 (by decide +kernel) ?_
    exact r_iret X hr hlk hP hS dX6_positionAfter_8 h
abbrev rm6_leastAcceleration : Room := { frames := 3, cells := 0, slots := 0, locals := 78 }
def f6_leastAcceleration_51 (N : Nat) (k0 : Nat) (a1 : Int32) (a2 : Int32) : Nat → Mem → Int32 → Int32 → Option (Int32 × Mem)
  | 0, _, _, _ => none
  | cnt+1, I, v3, v4 =>
    if (999 : Int32) < v4 then
    some ((-9 : Int32), I)
    else
    clP (f1_ticksOfMove N I v4 v3 a1) (fun (q_17 : Int32) (I_18 : Mem) =>
    if a2 < q_17 then
    letM (v4 + (1 : Int32)) (fun x_21 : Int32 =>
    f6_leastAcceleration_51 N k0 a1 a2 cnt I_18 v3 x_21)
    else
    some (v4, I_18))
def f6_leastAcceleration (N : Nat) (I : Mem) (k0 : Nat) (a1 : Int32) (a2 : Int32) : Option (Int32 × Mem) :=
    clP (f6_isPositive N I a1 (999 : Int32)) (fun (q_1 : Int32) (I_2 : Mem) =>
    if q_1 = (0 : Int32) then
    some ((-2 : Int32), I_2)
    else
    clP (f6_isPositive N I_2 a2 (99999 : Int32)) (fun (q_5 : Int32) (I_6 : Mem) =>
    if q_5 = (0 : Int32) then
    some ((-2 : Int32), I_6)
    else
    clP (f1_cruiseInterval N I_6 (I_6 (k0 + 3) 1)) (fun (q_9 : Int32) (I_10 : Mem) =>
    if (a1 * q_9) ≤ a2 then
    clP (f1_leastCandidate N I_10 q_9 a1 a2) (fun (q_13 : Int32) (I_14 : Mem) =>
    f6_leastAcceleration_51 N k0 a1 a2 N I_14 q_9 q_13)
    else
    some ((-9 : Int32), I_10))))
set_option maxHeartbeats 4000000 in
set_option maxRecDepth 100000 in
theorem L6_leastAcceleration_51 (hG : Apart g NT) (N : Nat) (k0 : Nat) (a1 : Int32) (a2 : Int32) (t0 : tag k0 = 5) (X : Cx g p s m args c cX6_leastAcceleration RX6 5) (hr : meth.sig.returnType = (some .int)) (hlk : meth.locks = false) (r0 : Int32) (I0 : Mem) : ∀ (cnt : Nat) (I : Mem) (v3 : Int32) (v4 : Int32), f6_leastAcceleration_51 N k0 a1 a2 cnt I v3 v4 = some (r0, I0) → ∀ (H : Heap) (locs : List Loc) (ls : Array Slot), Wp g I H → va_S (gA g) s.heap H locs → lv_has ls 5 [(1, .int a1), (2, .int a2), (3, .int v3), (4, .int v4)] → W p l e rm6_leastAcceleration s m args below meth c H locs 0 0 (MQ below (Qg g (some (.int r0)) I0) args s 0 0 (gA g)) (F0 m 51 ls []) := by
  have hx := X.hx
  have hb := X.hb
  intro cnt
  induction cnt with
  | zero =>
    intro I v3 v4 h
    rw [f6_leastAcceleration_51] at h
    cases h
  | succ cnt ih =>
    intro I v3 v4 h H locs ls hP hS hl
    rw [f6_leastAcceleration_51] at h
    refine lv_iload hx hb dX6_leastAcceleration_51 (lv_at hl 3 rfl) ?_
    refine lv_sipush (v := (999 : Int32)) hx hb dX6_leastAcceleration_53 (by decide +kernel) ?_
    refine lv_icmp_gt (tgt := 79) hx hb dX6_leastAcceleration_56 (by decide) (fun c_16 => ?_) (fun c_16 => ?_)
    · replace h := ifp c_16 h
      refine lv_bipush (v := (-9 : Int32)) hx hb dX6_leastAcceleration_79 (by decide +kernel) ?_
      exact r_iret X hr hlk hP hS dX6_leastAcceleration_81 h
    · replace h := ifn c_16 h
      refine lv_iload hx hb dX6_leastAcceleration_59 (lv_at hl 3 rfl) ?_
      refine lv_iload_n hx hb dX6_leastAcceleration_61 rfl (lv_at hl 2 rfl) ?_
      refine lv_iload_n hx hb dX6_leastAcceleration_62 rfl (lv_at hl 0 rfl) ?_
      obtain ⟨q_17, I_18, hc_19, h⟩ := clP_e h
      refine r_callS (As := [.int v4, .int v3, .int a1]) [] X (c1_ticksOfMove l g hG N _ _ _ _ _ _ hc_19) cal_X1_ticksOfMove (sc_X1_ticksOfMove) k_424 rfl ⟨rfl, rfl⟩ ⟨Nat.le_of_ble_eq_true rfl, Nat.le_of_ble_eq_true rfl⟩ hP hS hl.1 rfl (Nat.le_of_ble_eq_true rfl) dX6_leastAcceleration_63 ⟨Nat.zero_le _, Nat.zero_le _⟩ (fun H locs hP hS => ?_)
      show W p l e rm6_leastAcceleration s m args below meth c H locs 0 0 _ (F0 m 66 ls [.int q_17])
      refine lv_iload_n hx hb dX6_leastAcceleration_66 rfl (lv_at hl 1 rfl) ?_
      refine lv_icmp_gt (tgt := 73) hx hb dX6_leastAcceleration_67 (by decide) (fun c_20 => ?_) (fun c_20 => ?_)
      · replace h := ifp c_20 h
        obtain ⟨x_21, ex_21, h⟩ := letM_e h
        refine lv_iinc (v := x_21) (lv' := [(4, .int x_21), (1, .int a1), (2, .int a2), (3, .int v3)]) hx hb dX6_leastAcceleration_73 hl (k := 3) rfl (by rw [ex_21]; rfl) (by decide) rfl (fun ls hl => ?_)
        refine lv_goto (tgt := 51) hx hb dX6_leastAcceleration_76 (by decide) ?_
        exact ih I_18 v3 x_21 h _ _ _ hP hS (lv_sub hl [1, 2, 3, 0] rfl)
      · replace h := ifn c_20 h
        refine lv_iload hx hb dX6_leastAcceleration_70 (lv_at hl 3 rfl) ?_
        exact r_iret X hr hlk hP hS dX6_leastAcceleration_72 h
set_option maxHeartbeats 4000000 in
set_option maxRecDepth 100000 in
theorem c6_leastAcceleration (l : Launch) (g : GG) (hG : Apart g NT) (N : Nat) (I : Mem) (k0 : Nat) (a1 : Int32) (a2 : Int32) (t0 : tag k0 = 5) (r0 : Int32) (I0 : Mem) (h : f6_leastAcceleration N I k0 a1 a2 = some (r0, I0)) : Mc l g yX6_leastAcceleration cX6_leastAcceleration 5 (some .int) rm6_leastAcceleration I [.ref (ga g k0), .int a1, .int a2] (some (.int r0)) I0 := by
  refine Mc.of hG (by decide +kernel) (Nat.le_of_ble_eq_true rfl) ?_
  intro p e s m args below meth c ls X hr hlk hP hS hl
  have X : Cx g p s m args c cX6_leastAcceleration RX6 5 := X
  have hx := X.hx
  have hb := X.hb
  have hl : lv_has ls 5 [(0, .ref (ga g k0)), (1, .int a1), (2, .int a2)] := hl
  have locs : List Loc := []
  unfold f6_leastAcceleration at h
  refine lv_iload_n hx hb dX6_leastAcceleration_0 rfl (lv_at hl 1 rfl) ?_
  refine lv_sipush (v := (999 : Int32)) hx hb dX6_leastAcceleration_1 (by decide +kernel) ?_
  obtain ⟨q_1, I_2, hc_3, h⟩ := clP_e h
  refine r_callS (As := [.int a1, .int (999 : Int32)]) [] X (c6_isPositive l g hG N _ _ _ _ _ hc_3) cal_X6_isPositive (sc_X6_isPositive) k_302 rfl ⟨rfl, rfl⟩ ⟨Nat.le_of_ble_eq_true rfl, Nat.le_of_ble_eq_true rfl⟩ hP hS hl.1 rfl (Nat.le_of_ble_eq_true rfl) dX6_leastAcceleration_4 ⟨Nat.zero_le _, Nat.zero_le _⟩ (fun H locs hP hS => ?_)
  show W p l e rm6_leastAcceleration s m args below meth c H locs 0 0 _ (F0 m 7 ls [.int q_1])
  refine lv_if_eq (tgt := 19) hx hb dX6_leastAcceleration_7 (by decide) (fun c_4 => ?_) (fun c_4 => ?_)
  · replace h := ifp c_4 h
    refine lv_bipush (v := (-2 : Int32)) hx hb dX6_leastAcceleration_19 (by decide +kernel) ?_
    exact r_iret X hr hlk hP hS dX6_leastAcceleration_21 h
  · replace h := ifn c_4 h
    refine lv_iload_n hx hb dX6_leastAcceleration_10 rfl (lv_at hl 2 rfl) ?_
    refine lv_ldc (v := (99999 : Int32)) hx hb X.ow (X.hts _ k_352) dX6_leastAcceleration_11 ?_
    obtain ⟨q_5, I_6, hc_7, h⟩ := clP_e h
    refine r_callS (As := [.int a2, .int (99999 : Int32)]) [] X (c6_isPositive l g hG N _ _ _ _ _ hc_7) cal_X6_isPositive (sc_X6_isPositive) k_302 rfl ⟨rfl, rfl⟩ ⟨Nat.le_of_ble_eq_true rfl, Nat.le_of_ble_eq_true rfl⟩ hP hS hl.1 rfl (Nat.le_of_ble_eq_true rfl) dX6_leastAcceleration_13 ⟨Nat.zero_le _, Nat.zero_le _⟩ (fun H locs hP hS => ?_)
    show W p l e rm6_leastAcceleration s m args below meth c H locs 0 0 _ (F0 m 16 ls [.int q_5])
    refine lv_if_ne (tgt := 22) hx hb dX6_leastAcceleration_16 (by decide) (fun c_8 => ?_) (fun c_8 => ?_)
    · replace h := ifn c_8 h
      refine lv_aload_n hx hb dX6_leastAcceleration_22 rfl (lv_at hl 0 rfl) ?_
      refine g6_1 X hP t0 k_155 dX6_leastAcceleration_23 ?_
      refine g5_1 X hP (g6_1_t t0) k_53 dX6_leastAcceleration_26 ?_
      obtain ⟨q_9, I_10, hc_11, h⟩ := clP_e h
      refine r_callS (As := [.int (I_6 (k0 + 3) 1)]) [] X (c1_cruiseInterval l g hG N _ _ _ _ hc_11) cal_X1_cruiseInterval (sc_X1_cruiseInterval) k_419 rfl ⟨rfl, rfl⟩ ⟨Nat.le_of_ble_eq_true rfl, Nat.le_of_ble_eq_true rfl⟩ hP hS hl.1 rfl (Nat.le_of_ble_eq_true rfl) dX6_leastAcceleration_29 ⟨Nat.zero_le _, Nat.zero_le _⟩ (fun H locs hP hS => ?_)
      show W p l e rm6_leastAcceleration s m args below meth c H locs 0 0 _ (F0 m 32 ls [.int q_9])
      refine lv_istore_n (lv' := [(3, .int q_9), (0, .ref (ga g k0)), (1, .int a1), (2, .int a2)]) hx hb dX6_leastAcceleration_32 rfl hl (by decide) rfl (fun ls hl => ?_)
      refine lv_iload_n hx hb dX6_leastAcceleration_33 rfl (lv_at hl 2 rfl) ?_
      refine lv_iload_n hx hb dX6_leastAcceleration_34 rfl (lv_at hl 0 rfl) ?_
      refine lv_imul hx hb dX6_leastAcceleration_35 ?_
      refine lv_iload_n hx hb dX6_leastAcceleration_36 rfl (lv_at hl 3 rfl) ?_
      refine lv_icmp_le (tgt := 43) hx hb dX6_leastAcceleration_37 (by decide) (fun c_12 => ?_) (fun c_12 => ?_)
      · replace h := ifp c_12 h
        refine lv_iload_n hx hb dX6_leastAcceleration_43 rfl (lv_at hl 0 rfl) ?_
        refine lv_iload_n hx hb dX6_leastAcceleration_44 rfl (lv_at hl 2 rfl) ?_
        refine lv_iload_n hx hb dX6_leastAcceleration_45 rfl (lv_at hl 3 rfl) ?_
        obtain ⟨q_13, I_14, hc_15, h⟩ := clP_e h
        refine r_callS (As := [.int q_9, .int a1, .int a2]) [] X (c1_leastCandidate l g hG N _ _ _ _ _ _ hc_15) cal_X1_leastCandidate (sc_X1_leastCandidate) k_420 rfl ⟨rfl, rfl⟩ ⟨Nat.le_of_ble_eq_true rfl, Nat.le_of_ble_eq_true rfl⟩ hP hS hl.1 rfl (Nat.le_of_ble_eq_true rfl) dX6_leastAcceleration_46 ⟨Nat.zero_le _, Nat.zero_le _⟩ (fun H locs hP hS => ?_)
        show W p l e rm6_leastAcceleration s m args below meth c H locs 0 0 _ (F0 m 49 ls [.int q_13])
        refine lv_istore (lv' := [(4, .int q_13), (3, .int q_9), (0, .ref (ga g k0)), (1, .int a1), (2, .int a2)]) hx hb dX6_leastAcceleration_49 hl (by decide) rfl (fun ls hl => ?_)
        exact L6_leastAcceleration_51 hG N k0 a1 a2 t0 X hr hlk r0 I0 N I_14 q_9 q_13 h _ _ _ hP hS (lv_sub hl [3, 4, 1, 0] rfl)
      · replace h := ifn c_12 h
        refine lv_bipush (v := (-9 : Int32)) hx hb dX6_leastAcceleration_40 (by decide +kernel) ?_
        exact r_iret X hr hlk hP hS dX6_leastAcceleration_42 h
    · replace h := ifp c_8 h
      refine lv_bipush (v := (-2 : Int32)) hx hb dX6_leastAcceleration_19 (by decide +kernel) ?_
      exact r_iret X hr hlk hP hS dX6_leastAcceleration_21 h
abbrev rm6_greatestLength : Room := { frames := 5, cells := 0, slots := 0, locals := 115 }
def f6_greatestLength_27 (N : Nat) (k0 : Nat) (a1 : Int32) : Nat → Mem → Nat → Int32 → Int32 → Int32 → Option (Int32 × Mem)
  | 0, _, _, _, _, _ => none
  | cnt+1, I, o2, v3, v4, v5 =>
    if (999 : Int32) ≤ v5 then
    if v3 ≤ (0 : Int32) then
    some ((-9 : Int32), I)
    else
    some (v3, I)
    else
    if (v4 - v3) ≤ (1 : Int32) then
    if v3 ≤ (0 : Int32) then
    some ((-9 : Int32), I)
    else
    some (v3, I)
    else
    letM ((v3 + v4) / (2 : Int32)) (fun x_12 : Int32 =>
    clP (f2_ticksOfMove N I o2 x_12) (fun (q_13 : Int32) (I_14 : Mem) =>
    if a1 < q_13 then
    letM (v5 + (1 : Int32)) (fun x_17 : Int32 =>
    f6_greatestLength_27 N k0 a1 cnt I_14 o2 v3 x_12 x_17)
    else
    letM (v5 + (1 : Int32)) (fun x_18 : Int32 =>
    f6_greatestLength_27 N k0 a1 cnt I_14 o2 x_12 v4 x_18)))
def f6_greatestLength (N : Nat) (I : Mem) (k0 : Nat) (a1 : Int32) : Option (Int32 × Mem) :=
    clP (f6_isPositive N I a1 (99999 : Int32)) (fun (q_1 : Int32) (I_2 : Mem) =>
    if q_1 = (0 : Int32) then
    some ((-2 : Int32), I_2)
    else
    clP (f6_presentRamp N I_2 k0) (fun (q_5 : Nat) (I_6 : Mem) =>
    if ¬ tag q_5 = 1 then none else
    f6_greatestLength_27 N k0 a1 N I_6 q_5 (0 : Int32) (1000 : Int32) (0 : Int32)))
set_option maxHeartbeats 4000000 in
set_option maxRecDepth 100000 in
theorem L6_greatestLength_27 (hG : Apart g NT) (N : Nat) (k0 : Nat) (a1 : Int32) (t0 : tag k0 = 5) (X : Cx g p s m args c cX6_greatestLength RX6 7) (hr : meth.sig.returnType = (some .int)) (hlk : meth.locks = false) (r0 : Int32) (I0 : Mem) : ∀ (cnt : Nat) (I : Mem) (o2 : Nat) (v3 : Int32) (v4 : Int32) (v5 : Int32) (u2 : tag o2 = 1), f6_greatestLength_27 N k0 a1 cnt I o2 v3 v4 v5 = some (r0, I0) → ∀ (H : Heap) (locs : List Loc) (ls : Array Slot), Wp g I H → va_S (gA g) s.heap H locs → lv_has ls 7 [(1, .int a1), (2, .ref (ga g o2)), (3, .int v3), (4, .int v4), (5, .int v5)] → W p l e rm6_greatestLength s m args below meth c H locs 0 0 (MQ below (Qg g (some (.int r0)) I0) args s 0 0 (gA g)) (F0 m 27 ls []) := by
  have hx := X.hx
  have hb := X.hb
  intro cnt
  induction cnt with
  | zero =>
    intro I o2 v3 v4 v5 u2 h
    rw [f6_greatestLength_27] at h
    cases h
  | succ cnt ih =>
    intro I o2 v3 v4 v5 u2 h H locs ls hP hS hl
    rw [f6_greatestLength_27] at h
    refine lv_iload hx hb dX6_greatestLength_27 (lv_at hl 4 rfl) ?_
    refine lv_sipush (v := (999 : Int32)) hx hb dX6_greatestLength_29 (by decide +kernel) ?_
    refine lv_icmp_ge (tgt := 77) hx hb dX6_greatestLength_32 (by decide) (fun c_8 => ?_) (fun c_8 => ?_)
    · replace h := ifp c_8 h
      refine lv_iload_n hx hb dX6_greatestLength_77 rfl (lv_at hl 2 rfl) ?_
      refine lv_if_le (tgt := 85) hx hb dX6_greatestLength_78 (by decide) (fun c_9 => ?_) (fun c_9 => ?_)
      · replace h := ifp c_9 h
        refine lv_bipush (v := (-9 : Int32)) hx hb dX6_greatestLength_85 (by decide +kernel) ?_
        exact r_iret X hr hlk hP hS dX6_greatestLength_87 h
      · replace h := ifn c_9 h
        refine lv_iload_n hx hb dX6_greatestLength_81 rfl (lv_at hl 2 rfl) ?_
        refine lv_goto (tgt := 87) hx hb dX6_greatestLength_82 (by decide) ?_
        exact r_iret X hr hlk hP hS dX6_greatestLength_87 h
    · replace h := ifn c_8 h
      refine lv_iload hx hb dX6_greatestLength_35 (lv_at hl 3 rfl) ?_
      refine lv_iload_n hx hb dX6_greatestLength_37 rfl (lv_at hl 2 rfl) ?_
      refine lv_isub hx hb dX6_greatestLength_38 ?_
      refine lv_iconst (v := (1 : Int32)) hx hb dX6_greatestLength_39 (by decide +kernel) ?_
      refine lv_icmp_le (tgt := 77) hx hb dX6_greatestLength_40 (by decide) (fun c_10 => ?_) (fun c_10 => ?_)
      · replace h := ifp c_10 h
        refine lv_iload_n hx hb dX6_greatestLength_77 rfl (lv_at hl 2 rfl) ?_
        refine lv_if_le (tgt := 85) hx hb dX6_greatestLength_78 (by decide) (fun c_11 => ?_) (fun c_11 => ?_)
        · replace h := ifp c_11 h
          refine lv_bipush (v := (-9 : Int32)) hx hb dX6_greatestLength_85 (by decide +kernel) ?_
          exact r_iret X hr hlk hP hS dX6_greatestLength_87 h
        · replace h := ifn c_11 h
          refine lv_iload_n hx hb dX6_greatestLength_81 rfl (lv_at hl 2 rfl) ?_
          refine lv_goto (tgt := 87) hx hb dX6_greatestLength_82 (by decide) ?_
          exact r_iret X hr hlk hP hS dX6_greatestLength_87 h
      · replace h := ifn c_10 h
        refine lv_iload_n hx hb dX6_greatestLength_43 rfl (lv_at hl 2 rfl) ?_
        refine lv_iload hx hb dX6_greatestLength_44 (lv_at hl 3 rfl) ?_
        refine lv_iadd hx hb dX6_greatestLength_46 ?_
        refine lv_iconst (v := (2 : Int32)) hx hb dX6_greatestLength_47 (by decide +kernel) ?_
        refine lv_idiv hx hb dX6_greatestLength_48 (by decide) ?_
        obtain ⟨x_12, ex_12, h⟩ := letM_e h
        refine r_nmi ex_12 ?_
        refine lv_istore (lv' := [(6, .int x_12), (1, .int a1), (2, .ref (ga g o2)), (3, .int v3), (4, .int v4), (5, .int v5)]) hx hb dX6_greatestLength_49 hl (by decide) rfl (fun ls hl => ?_)
        refine lv_aload_n hx hb dX6_greatestLength_51 rfl (lv_at hl 2 rfl) ?_
        refine lv_iload hx hb dX6_greatestLength_52 (lv_at hl 0 rfl) ?_
        obtain ⟨q_13, I_14, hc_15, h⟩ := clP_e h
        refine r_callV (As := [.int x_12]) [] X (c2_ticksOfMove l g hG N _ _ _ u2 _ _ hc_15) cal_X2_ticksOfMove (im_X2_ticksOfMove) (se_X2_ticksOfMove) k_409 (tag_lt u2 (by decide)) (by rw [lay, u2]; rfl) rfl rfl ⟨rfl, rfl⟩ ⟨Nat.le_of_ble_eq_true rfl, Nat.le_of_ble_eq_true rfl⟩ hP hS hl.1 rfl (Nat.le_of_ble_eq_true rfl) dX6_greatestLength_54 ⟨Nat.zero_le _, Nat.zero_le _⟩ (fun H locs hP hS => ?_)
        show W p l e rm6_greatestLength s m args below meth c H locs 0 0 _ (F0 m 57 ls [.int q_13])
        refine lv_iload_n hx hb dX6_greatestLength_57 rfl (lv_at hl 1 rfl) ?_
        refine lv_icmp_gt (tgt := 67) hx hb dX6_greatestLength_58 (by decide) (fun c_16 => ?_) (fun c_16 => ?_)
        · replace h := ifp c_16 h
          refine lv_iload hx hb dX6_greatestLength_67 (lv_at hl 0 rfl) ?_
          refine lv_istore (lv' := [(4, .int x_12), (6, .int x_12), (1, .int a1), (2, .ref (ga g o2)), (3, .int v3), (5, .int v5)]) hx hb dX6_greatestLength_69 hl (by decide) rfl (fun ls hl => ?_)
          obtain ⟨x_17, ex_17, h⟩ := letM_e h
          refine lv_iinc (v := x_17) (lv' := [(5, .int x_17), (4, .int x_12), (6, .int x_12), (1, .int a1), (2, .ref (ga g o2)), (3, .int v3)]) hx hb dX6_greatestLength_71 hl (k := 5) rfl (by rw [ex_17]; rfl) (by decide) rfl (fun ls hl => ?_)
          refine lv_goto (tgt := 27) hx hb dX6_greatestLength_74 (by decide) ?_
          exact ih I_14 o2 v3 x_12 x_17 u2 h _ _ _ hP hS (lv_sub hl [3, 4, 5, 1, 0] rfl)
        · replace h := ifn c_16 h
          refine lv_iload hx hb dX6_greatestLength_61 (lv_at hl 0 rfl) ?_
          refine lv_istore_n (lv' := [(3, .int x_12), (6, .int x_12), (1, .int a1), (2, .ref (ga g o2)), (4, .int v4), (5, .int v5)]) hx hb dX6_greatestLength_63 rfl hl (by decide) rfl (fun ls hl => ?_)
          refine lv_goto (tgt := 71) hx hb dX6_greatestLength_64 (by decide) ?_
          obtain ⟨x_18, ex_18, h⟩ := letM_e h
          refine lv_iinc (v := x_18) (lv' := [(5, .int x_18), (3, .int x_12), (6, .int x_12), (1, .int a1), (2, .ref (ga g o2)), (4, .int v4)]) hx hb dX6_greatestLength_71 hl (k := 5) rfl (by rw [ex_18]; rfl) (by decide) rfl (fun ls hl => ?_)
          refine lv_goto (tgt := 27) hx hb dX6_greatestLength_74 (by decide) ?_
          exact ih I_14 o2 x_12 v4 x_18 u2 h _ _ _ hP hS (lv_sub hl [3, 4, 1, 5, 0] rfl)
set_option maxHeartbeats 4000000 in
set_option maxRecDepth 100000 in
theorem c6_greatestLength (l : Launch) (g : GG) (hG : Apart g NT) (N : Nat) (I : Mem) (k0 : Nat) (a1 : Int32) (t0 : tag k0 = 5) (r0 : Int32) (I0 : Mem) (h : f6_greatestLength N I k0 a1 = some (r0, I0)) : Mc l g yX6_greatestLength cX6_greatestLength 7 (some .int) rm6_greatestLength I [.ref (ga g k0), .int a1] (some (.int r0)) I0 := by
  refine Mc.of hG (by decide +kernel) (Nat.le_of_ble_eq_true rfl) ?_
  intro p e s m args below meth c ls X hr hlk hP hS hl
  have X : Cx g p s m args c cX6_greatestLength RX6 7 := X
  have hx := X.hx
  have hb := X.hb
  have hl : lv_has ls 7 [(0, .ref (ga g k0)), (1, .int a1)] := hl
  have locs : List Loc := []
  unfold f6_greatestLength at h
  refine lv_iload_n hx hb dX6_greatestLength_0 rfl (lv_at hl 1 rfl) ?_
  refine lv_ldc (v := (99999 : Int32)) hx hb X.ow (X.hts _ k_352) dX6_greatestLength_1 ?_
  obtain ⟨q_1, I_2, hc_3, h⟩ := clP_e h
  refine r_callS (As := [.int a1, .int (99999 : Int32)]) [] X (c6_isPositive l g hG N _ _ _ _ _ hc_3) cal_X6_isPositive (sc_X6_isPositive) k_302 rfl ⟨rfl, rfl⟩ ⟨Nat.le_of_ble_eq_true rfl, Nat.le_of_ble_eq_true rfl⟩ hP hS hl.1 rfl (Nat.le_of_ble_eq_true rfl) dX6_greatestLength_3 ⟨Nat.zero_le _, Nat.zero_le _⟩ (fun H locs hP hS => ?_)
  show W p l e rm6_greatestLength s m args below meth c H locs 0 0 _ (F0 m 6 ls [.int q_1])
  refine lv_if_ne (tgt := 12) hx hb dX6_greatestLength_6 (by decide) (fun c_4 => ?_) (fun c_4 => ?_)
  · replace h := ifn c_4 h
    refine lv_aload_n hx hb dX6_greatestLength_12 rfl (lv_at hl 0 rfl) ?_
    obtain ⟨q_5, I_6, hc_7, h⟩ := clP_e h
    refine r_callV (As := []) [] X (c6_presentRamp l g hG N _ _ t0 _ _ hc_7) cal_X6_presentRamp (im_X6_presentRamp) (se_X6_presentRamp) k_246 (tag_lt t0 (by decide)) (by rw [lay, t0]; rfl) rfl rfl ⟨rfl, rfl⟩ ⟨Nat.le_of_ble_eq_true rfl, Nat.le_of_ble_eq_true rfl⟩ hP hS hl.1 rfl (Nat.le_of_ble_eq_true rfl) dX6_greatestLength_13 ⟨Nat.zero_le _, Nat.zero_le _⟩ (fun H locs hP hS => ?_)
    obtain ⟨Tq_5, h⟩ := gd_e h
    replace Tq_5 := Classical.not_not.mp Tq_5
    show W p l e rm6_greatestLength s m args below meth c H locs 0 0 _ (F0 m 16 ls [.ref (ga g q_5)])
    refine lv_astore_n (lv' := [(2, .ref (ga g q_5)), (0, .ref (ga g k0)), (1, .int a1)]) hx hb dX6_greatestLength_16 rfl hl (by decide) rfl (fun ls hl => ?_)
    refine lv_iconst (v := (0 : Int32)) hx hb dX6_greatestLength_17 (by decide +kernel) ?_
    refine lv_istore_n (lv' := [(3, .int (0 : Int32)), (2, .ref (ga g q_5)), (0, .ref (ga g k0)), (1, .int a1)]) hx hb dX6_greatestLength_18 rfl hl (by decide) rfl (fun ls hl => ?_)
    refine lv_sipush (v := (1000 : Int32)) hx hb dX6_greatestLength_19 (by decide +kernel) ?_
    refine lv_istore (lv' := [(4, .int (1000 : Int32)), (3, .int (0 : Int32)), (2, .ref (ga g q_5)), (0, .ref (ga g k0)), (1, .int a1)]) hx hb dX6_greatestLength_22 hl (by decide) rfl (fun ls hl => ?_)
    refine lv_iconst (v := (0 : Int32)) hx hb dX6_greatestLength_24 (by decide +kernel) ?_
    refine lv_istore (lv' := [(5, .int (0 : Int32)), (4, .int (1000 : Int32)), (3, .int (0 : Int32)), (2, .ref (ga g q_5)), (0, .ref (ga g k0)), (1, .int a1)]) hx hb dX6_greatestLength_25 hl (by decide) rfl (fun ls hl => ?_)
    exact L6_greatestLength_27 hG N k0 a1 t0 X hr hlk r0 I0 N I_6 q_5 (0 : Int32) (1000 : Int32) (0 : Int32) Tq_5 h _ _ _ hP hS (lv_sub hl [5, 3, 2, 1, 0] rfl)
  · replace h := ifp c_4 h
    refine lv_bipush (v := (-2 : Int32)) hx hb dX6_greatestLength_9 (by decide +kernel) ?_
    exact r_iret X hr hlk hP hS dX6_greatestLength_11 h
abbrev rm6_succeeds : Room := { frames := 5, cells := 0, slots := 0, locals := 124 }
def f6_succeeds (N : Nat) (I : Mem) (k0 : Nat) (a1 : Int32) : Option (Int32 × Mem) :=
    letM (a1 - a1 / (1000 : Int32) * (1000 : Int32)) (fun x_1 : Int32 =>
    letM (a1 / (1000 : Int32)) (fun x_2 : Int32 =>
    if x_2 = nI 1 then
    if x_1 ≤ (0 : Int32) then
    some ((0 : Int32), I)
    else
    clP (f5_advance N I (k0 + 7) (k0 + 79) x_1 (1000000000 : Int32)) (fun (q_5 : Int32) (I_6 : Mem) =>
    if q_5 ≤ (0 : Int32) then
    some ((0 : Int32), I_6)
    else
    some ((1 : Int32), I_6))
    else
    if x_2 = nI 2 then
    if x_1 ≤ (0 : Int32) then
    if x_1 ≤ (0 : Int32) then
    some ((0 : Int32), I)
    else
    some ((1 : Int32), I)
    else
    letM (st I (k0 + 7) 1 x_1) (fun I_12 : Mem =>
    if x_1 ≤ (0 : Int32) then
    some ((0 : Int32), I_12)
    else
    some ((1 : Int32), I_12))
    else
    if x_2 = nI 3 then
    if (0 : Int32) < x_1 then
    some ((0 : Int32), I)
    else
    clP (f5_isMoving N I (k0 + 7)) (fun (q_16 : Int32) (I_17 : Mem) =>
    if q_16 = (0 : Int32) then
    some ((0 : Int32), I_17)
    else
    clP (f5_halt N I_17 (k0 + 7)) (fun (q_20 : Int32) (I_21 : Mem) =>
    some ((1 : Int32), I_21)))
    else
    if x_2 = nI 4 then
    if (I (k0 + 7) 2) = x_1 then
    some ((1 : Int32), I)
    else
    some ((0 : Int32), I)
    else
    if x_2 = nI 5 then
    clP (f5_isMoving N I (k0 + 7)) (fun (q_26 : Int32) (I_27 : Mem) =>
    if q_26 = (0 : Int32) then
    some ((0 : Int32), I_27)
    else
    if (I_27 (k0 + 7) 11) = x_1 then
    some ((1 : Int32), I_27)
    else
    some ((0 : Int32), I_27))
    else
    if x_2 = nI 6 then
    if (I (k0 + 7) 5) = x_1 then
    some ((1 : Int32), I)
    else
    some ((0 : Int32), I)
    else
    some ((0 : Int32), I)))
set_option maxHeartbeats 4000000 in
set_option maxRecDepth 100000 in
theorem c6_succeeds (l : Launch) (g : GG) (hG : Apart g NT) (N : Nat) (I : Mem) (k0 : Nat) (a1 : Int32) (t0 : tag k0 = 5) (r0 : Int32) (I0 : Mem) (h : f6_succeeds N I k0 a1 = some (r0, I0)) : Mc l g yX6_succeeds cX6_succeeds 3 (some .boolean) rm6_succeeds I [.ref (ga g k0), .int a1] (some (.int r0)) I0 := by
  refine Mc.of hG (by decide +kernel) (Nat.le_of_ble_eq_true rfl) ?_
  intro p e s m args below meth c ls X hr hlk hP hS hl
  have X : Cx g p s m args c cX6_succeeds RX6 3 := X
  have hx := X.hx
  have hb := X.hb
  have hl : lv_has ls 3 [(0, .ref (ga g k0)), (1, .int a1)] := hl
  have locs : List Loc := []
  unfold f6_succeeds at h
  refine lv_iload_n hx hb dX6_succeeds_0 rfl (lv_at hl 1 rfl) ?_
  refine lv_sipush (v := (1000 : Int32)) hx hb dX6_succeeds_1 (by decide +kernel) ?_
  refine lv_irem hx hb dX6_succeeds_4 (by decide) ?_
  obtain ⟨x_1, ex_1, h⟩ := letM_e h
  refine r_nmi ex_1 ?_
  refine lv_istore_n (lv' := [(2, .int x_1), (0, .ref (ga g k0)), (1, .int a1)]) hx hb dX6_succeeds_5 rfl hl (by decide) rfl (fun ls hl => ?_)
  refine lv_iload_n hx hb dX6_succeeds_6 rfl (lv_at hl 2 rfl) ?_
  refine lv_sipush (v := (1000 : Int32)) hx hb dX6_succeeds_7 (by decide +kernel) ?_
  refine lv_idiv hx hb dX6_succeeds_10 (by decide) ?_
  obtain ⟨x_2, ex_2, h⟩ := letM_e h
  refine r_nmi ex_2 ?_
  by_cases c_3 : x_2 = nI 1
  · replace h := ifp c_3 h
    refine lv_tableIn (off := 37) (tgt := 48) hx hb dX6_succeeds_11 (by rw [c_3]; decide +kernel) (by rw [c_3]; decide +kernel) (by rw [c_3]; decide +kernel) (by decide) ?_
    refine lv_iload_n hx hb dX6_succeeds_48 rfl (lv_at hl 0 rfl) ?_
    refine lv_if_le (tgt := 73) hx hb dX6_succeeds_49 (by decide) (fun c_4 => ?_) (fun c_4 => ?_)
    · replace h := ifp c_4 h
      refine lv_iconst (v := (0 : Int32)) hx hb dX6_succeeds_73 (by decide +kernel) ?_
      exact r_zret X hr hlk hP hS rfl dX6_succeeds_74 h
    · replace h := ifn c_4 h
      refine lv_aload_n hx hb dX6_succeeds_52 rfl (lv_at hl 1 rfl) ?_
      refine g6_2 X hP t0 k_156 dX6_succeeds_53 ?_
      refine lv_aload_n hx hb dX6_succeeds_56 rfl (lv_at hl 1 rfl) ?_
      refine g6_6 X hP t0 k_160 dX6_succeeds_57 ?_
      refine lv_iload_n hx hb dX6_succeeds_60 rfl (lv_at hl 0 rfl) ?_
      refine lv_ldc (v := (1000000000 : Int32)) hx hb X.ow (X.hts _ k_353) dX6_succeeds_61 ?_
      obtain ⟨q_5, I_6, hc_7, h⟩ := clP_e h
      refine r_callV (As := [.ref (ga g (k0 + 79)), .int x_1, .int (1000000000 : Int32)]) [] X (c5_advance l g hG N _ _ _ _ _ (g6_2_t t0) (g6_6_t t0) _ _ hc_7) cal_X5_advance (im_X5_advance) (se_X5_advance) k_354 (tag_lt (g6_2_t t0) (by decide)) (by rw [lay, (g6_2_t t0)]; rfl) rfl rfl ⟨rfl, rfl⟩ ⟨Nat.le_of_ble_eq_true rfl, Nat.le_of_ble_eq_true rfl⟩ hP hS hl.1 rfl (Nat.le_of_ble_eq_true rfl) dX6_succeeds_63 ⟨Nat.zero_le _, Nat.zero_le _⟩ (fun H locs hP hS => ?_)
      show W p l e rm6_succeeds s m args below meth c H locs 0 0 _ (F0 m 66 ls [.int q_5])
      refine lv_if_le (tgt := 73) hx hb dX6_succeeds_66 (by decide) (fun c_8 => ?_) (fun c_8 => ?_)
      · replace h := ifp c_8 h
        refine lv_iconst (v := (0 : Int32)) hx hb dX6_succeeds_73 (by decide +kernel) ?_
        exact r_zret X hr hlk hP hS rfl dX6_succeeds_74 h
      · replace h := ifn c_8 h
        refine lv_iconst (v := (1 : Int32)) hx hb dX6_succeeds_69 (by decide +kernel) ?_
        refine lv_goto (tgt := 74) hx hb dX6_succeeds_70 (by decide) ?_
        exact r_zret X hr hlk hP hS rfl dX6_succeeds_74 h
  · replace h := ifn c_3 h
    by_cases c_9 : x_2 = nI 2
    · replace h := ifp c_9 h
      refine lv_tableIn (off := 64) (tgt := 75) hx hb dX6_succeeds_11 (by rw [c_9]; decide +kernel) (by rw [c_9]; decide +kernel) (by rw [c_9]; decide +kernel) (by decide) ?_
      refine lv_iload_n hx hb dX6_succeeds_75 rfl (lv_at hl 0 rfl) ?_
      refine lv_if_le (tgt := 87) hx hb dX6_succeeds_76 (by decide) (fun c_10 => ?_) (fun c_10 => ?_)
      · replace h := ifp c_10 h
        refine lv_iload_n hx hb dX6_succeeds_87 rfl (lv_at hl 0 rfl) ?_
        refine lv_if_le (tgt := 95) hx hb dX6_succeeds_88 (by decide) (fun c_11 => ?_) (fun c_11 => ?_)
        · replace h := ifp c_11 h
          refine lv_iconst (v := (0 : Int32)) hx hb dX6_succeeds_95 (by decide +kernel) ?_
          exact r_zret X hr hlk hP hS rfl dX6_succeeds_96 h
        · replace h := ifn c_11 h
          refine lv_iconst (v := (1 : Int32)) hx hb dX6_succeeds_91 (by decide +kernel) ?_
          refine lv_goto (tgt := 96) hx hb dX6_succeeds_92 (by decide) ?_
          exact r_zret X hr hlk hP hS rfl dX6_succeeds_96 h
      · replace h := ifn c_10 h
        refine lv_aload_n hx hb dX6_succeeds_79 rfl (lv_at hl 1 rfl) ?_
        refine g6_2 X hP t0 k_156 dX6_succeeds_80 ?_
        refine lv_iload_n hx hb dX6_succeeds_83 rfl (lv_at hl 0 rfl) ?_
        obtain ⟨I_12, eI_12, h⟩ := letM_e h
        refine p5_1 X hP hS (g6_2_t t0) k_53 eI_12 dX6_succeeds_84 (fun H locs hP hS => ?_)
        refine lv_iload_n hx hb dX6_succeeds_87 rfl (lv_at hl 0 rfl) ?_
        refine lv_if_le (tgt := 95) hx hb dX6_succeeds_88 (by decide) (fun c_13 => ?_) (fun c_13 => ?_)
        · replace h := ifp c_13 h
          refine lv_iconst (v := (0 : Int32)) hx hb dX6_succeeds_95 (by decide +kernel) ?_
          exact r_zret X hr hlk hP hS rfl dX6_succeeds_96 h
        · replace h := ifn c_13 h
          refine lv_iconst (v := (1 : Int32)) hx hb dX6_succeeds_91 (by decide +kernel) ?_
          refine lv_goto (tgt := 96) hx hb dX6_succeeds_92 (by decide) ?_
          exact r_zret X hr hlk hP hS rfl dX6_succeeds_96 h
    · replace h := ifn c_9 h
      by_cases c_14 : x_2 = nI 3
      · replace h := ifp c_14 h
        refine lv_tableIn (off := 86) (tgt := 97) hx hb dX6_succeeds_11 (by rw [c_14]; decide +kernel) (by rw [c_14]; decide +kernel) (by rw [c_14]; decide +kernel) (by decide) ?_
        refine lv_iload_n hx hb dX6_succeeds_97 rfl (lv_at hl 0 rfl) ?_
        refine lv_if_gt (tgt := 111) hx hb dX6_succeeds_98 (by decide) (fun c_15 => ?_) (fun c_15 => ?_)
        · replace h := ifp c_15 h
          refine lv_iconst (v := (0 : Int32)) hx hb dX6_succeeds_111 (by decide +kernel) ?_
          exact r_zret X hr hlk hP hS rfl dX6_succeeds_112 h
        · replace h := ifn c_15 h
          refine lv_aload_n hx hb dX6_succeeds_101 rfl (lv_at hl 1 rfl) ?_
          refine g6_2 X hP t0 k_156 dX6_succeeds_102 ?_
          obtain ⟨q_16, I_17, hc_18, h⟩ := clP_e h
          refine r_callV (As := []) [] X (c5_isMoving l g hG N _ _ (g6_2_t t0) _ _ hc_18) cal_X5_isMoving (im_X5_isMoving) (se_X5_isMoving) k_305 (tag_lt (g6_2_t t0) (by decide)) (by rw [lay, (g6_2_t t0)]; rfl) rfl rfl ⟨rfl, rfl⟩ ⟨Nat.le_of_ble_eq_true rfl, Nat.le_of_ble_eq_true rfl⟩ hP hS hl.1 rfl (Nat.le_of_ble_eq_true rfl) dX6_succeeds_105 ⟨Nat.zero_le _, Nat.zero_le _⟩ (fun H locs hP hS => ?_)
          show W p l e rm6_succeeds s m args below meth c H locs 0 0 _ (F0 m 108 ls [.int q_16])
          refine lv_if_ne (tgt := 113) hx hb dX6_succeeds_108 (by decide) (fun c_19 => ?_) (fun c_19 => ?_)
          · replace h := ifn c_19 h
            refine lv_aload_n hx hb dX6_succeeds_113 rfl (lv_at hl 1 rfl) ?_
            refine g6_2 X hP t0 k_156 dX6_succeeds_114 ?_
            obtain ⟨q_20, I_21, hc_22, h⟩ := clP_e h
            refine r_callV (As := []) [] X (c5_halt l g hG N _ _ (g6_2_t t0) _ _ hc_22) cal_X5_halt (im_X5_halt) (se_X5_halt) k_446 (tag_lt (g6_2_t t0) (by decide)) (by rw [lay, (g6_2_t t0)]; rfl) rfl rfl ⟨rfl, rfl⟩ ⟨Nat.le_of_ble_eq_true rfl, Nat.le_of_ble_eq_true rfl⟩ hP hS hl.1 rfl (Nat.le_of_ble_eq_true rfl) dX6_succeeds_117 ⟨Nat.zero_le _, Nat.zero_le _⟩ (fun H locs hP hS => ?_)
            show W p l e rm6_succeeds s m args below meth c H locs 0 0 _ (F0 m 120 ls [.int q_20])
            refine lv_pop hx hb dX6_succeeds_120 rfl ?_
            refine lv_iconst (v := (1 : Int32)) hx hb dX6_succeeds_121 (by decide +kernel) ?_
            exact r_zret X hr hlk hP hS rfl dX6_succeeds_122 h
          · replace h := ifp c_19 h
            refine lv_iconst (v := (0 : Int32)) hx hb dX6_succeeds_111 (by decide +kernel) ?_
            exact r_zret X hr hlk hP hS rfl dX6_succeeds_112 h
      · replace h := ifn c_14 h
        by_cases c_23 : x_2 = nI 4
        · replace h := ifp c_23 h
          refine lv_tableIn (off := 112) (tgt := 123) hx hb dX6_succeeds_11 (by rw [c_23]; decide +kernel) (by rw [c_23]; decide +kernel) (by rw [c_23]; decide +kernel) (by decide) ?_
          refine lv_aload_n hx hb dX6_succeeds_123 rfl (lv_at hl 1 rfl) ?_
          refine g6_2 X hP t0 k_156 dX6_succeeds_124 ?_
          refine g5_2 X hP (g6_2_t t0) k_55 dX6_succeeds_127 ?_
          refine lv_iload_n hx hb dX6_succeeds_130 rfl (lv_at hl 0 rfl) ?_
          refine lv_icmp_ne (tgt := 138) hx hb dX6_succeeds_131 (by decide) (fun c_24 => ?_) (fun c_24 => ?_)
          · replace h := ifn c_24 h
            refine lv_iconst (v := (0 : Int32)) hx hb dX6_succeeds_138 (by decide +kernel) ?_
            exact r_zret X hr hlk hP hS rfl dX6_succeeds_139 h
          · replace h := ifp c_24 h
            refine lv_iconst (v := (1 : Int32)) hx hb dX6_succeeds_134 (by decide +kernel) ?_
            refine lv_goto (tgt := 139) hx hb dX6_succeeds_135 (by decide) ?_
            exact r_zret X hr hlk hP hS rfl dX6_succeeds_139 h
        · replace h := ifn c_23 h
          by_cases c_25 : x_2 = nI 5
          · replace h := ifp c_25 h
            refine lv_tableIn (off := 129) (tgt := 140) hx hb dX6_succeeds_11 (by rw [c_25]; decide +kernel) (by rw [c_25]; decide +kernel) (by rw [c_25]; decide +kernel) (by decide) ?_
            refine lv_aload_n hx hb dX6_succeeds_140 rfl (lv_at hl 1 rfl) ?_
            refine g6_2 X hP t0 k_156 dX6_succeeds_141 ?_
            obtain ⟨q_26, I_27, hc_28, h⟩ := clP_e h
            refine r_callV (As := []) [] X (c5_isMoving l g hG N _ _ (g6_2_t t0) _ _ hc_28) cal_X5_isMoving (im_X5_isMoving) (se_X5_isMoving) k_305 (tag_lt (g6_2_t t0) (by decide)) (by rw [lay, (g6_2_t t0)]; rfl) rfl rfl ⟨rfl, rfl⟩ ⟨Nat.le_of_ble_eq_true rfl, Nat.le_of_ble_eq_true rfl⟩ hP hS hl.1 rfl (Nat.le_of_ble_eq_true rfl) dX6_succeeds_144 ⟨Nat.zero_le _, Nat.zero_le _⟩ (fun H locs hP hS => ?_)
            show W p l e rm6_succeeds s m args below meth c H locs 0 0 _ (F0 m 147 ls [.int q_26])
            refine lv_if_eq (tgt := 165) hx hb dX6_succeeds_147 (by decide) (fun c_29 => ?_) (fun c_29 => ?_)
            · replace h := ifp c_29 h
              refine lv_iconst (v := (0 : Int32)) hx hb dX6_succeeds_165 (by decide +kernel) ?_
              exact r_zret X hr hlk hP hS rfl dX6_succeeds_166 h
            · replace h := ifn c_29 h
              refine lv_aload_n hx hb dX6_succeeds_150 rfl (lv_at hl 1 rfl) ?_
              refine g6_2 X hP t0 k_156 dX6_succeeds_151 ?_
              refine g5_11 X hP (g6_2_t t0) k_68 dX6_succeeds_154 ?_
              refine lv_iload_n hx hb dX6_succeeds_157 rfl (lv_at hl 0 rfl) ?_
              refine lv_icmp_ne (tgt := 165) hx hb dX6_succeeds_158 (by decide) (fun c_30 => ?_) (fun c_30 => ?_)
              · replace h := ifn c_30 h
                refine lv_iconst (v := (0 : Int32)) hx hb dX6_succeeds_165 (by decide +kernel) ?_
                exact r_zret X hr hlk hP hS rfl dX6_succeeds_166 h
              · replace h := ifp c_30 h
                refine lv_iconst (v := (1 : Int32)) hx hb dX6_succeeds_161 (by decide +kernel) ?_
                refine lv_goto (tgt := 166) hx hb dX6_succeeds_162 (by decide) ?_
                exact r_zret X hr hlk hP hS rfl dX6_succeeds_166 h
          · replace h := ifn c_25 h
            by_cases c_31 : x_2 = nI 6
            · replace h := ifp c_31 h
              refine lv_tableIn (off := 156) (tgt := 167) hx hb dX6_succeeds_11 (by rw [c_31]; decide +kernel) (by rw [c_31]; decide +kernel) (by rw [c_31]; decide +kernel) (by decide) ?_
              refine lv_aload_n hx hb dX6_succeeds_167 rfl (lv_at hl 1 rfl) ?_
              refine g6_2 X hP t0 k_156 dX6_succeeds_168 ?_
              refine g5_5 X hP (g6_2_t t0) k_60 dX6_succeeds_171 ?_
              refine lv_iload_n hx hb dX6_succeeds_174 rfl (lv_at hl 0 rfl) ?_
              refine lv_icmp_ne (tgt := 182) hx hb dX6_succeeds_175 (by decide) (fun c_32 => ?_) (fun c_32 => ?_)
              · replace h := ifn c_32 h
                refine lv_iconst (v := (0 : Int32)) hx hb dX6_succeeds_182 (by decide +kernel) ?_
                exact r_zret X hr hlk hP hS rfl dX6_succeeds_183 h
              · replace h := ifp c_32 h
                refine lv_iconst (v := (1 : Int32)) hx hb dX6_succeeds_178 (by decide +kernel) ?_
                refine lv_goto (tgt := 183) hx hb dX6_succeeds_179 (by decide) ?_
                exact r_zret X hr hlk hP hS rfl dX6_succeeds_183 h
            · replace h := ifn c_31 h
              have hout := tsw_out (x := x_2) 1 6 (fun j hj => by
                rcases (show j = 0 ∨ j = 1 ∨ j = 2 ∨ j = 3 ∨ j = 4 ∨ j = 5 by omega) with rfl | rfl | rfl | rfl | rfl | rfl <;> assumption) (by decide)
              refine lv_tableOut (tgt := 184) hx hb dX6_succeeds_11 (hout.imp id (fun q => q)) (by decide) ?_
              refine lv_iconst (v := (0 : Int32)) hx hb dX6_succeeds_184 (by decide +kernel) ?_
              exact r_zret X hr hlk hP hS rfl dX6_succeeds_185 h
abbrev rm6_runScript : Room := { frames := 6, cells := 0, slots := 0, locals := 146 }
def f6_runScript_67 (N : Nat) (k0 : Nat) (a1 : Int32) (j2 : Int64) : Nat → Mem → Int64 → Int32 → Option (Int32 × Mem)
  | 0, _, _, _ => none
  | cnt+1, I, w4, v6 =>
    if a1 ≤ v6 then
    some ((-9 : Int32), I)
    else
    if (lg_cmp w4 (1 : Int64)) ≤ (0 : Int32) then
    some ((-9 : Int32), I)
    else
    letM (w4 / (10000 : Int64)) (fun x_13 : Int64 =>
    clP (fJ9_max_f86c9 N I x_13 (1 : Int64)) (fun (q_14 : Int64) (I_15 : Mem) =>
    if q_14 = (0 : Int64) then none else
    clP (f6_succeeds N I_15 k0 ((j2 / q_14) - (j2 / q_14) / (10000 : Int64) * (10000 : Int64)).toInt32) (fun (q_18 : Int32) (I_19 : Mem) =>
    if q_18 = (0 : Int32) then
    some (v6, I_19)
    else
    letM (v6 + (1 : Int32)) (fun x_22 : Int32 =>
    f6_runScript_67 N k0 a1 j2 cnt I_19 x_13 x_22))))
def f6_runScript_23 (N : Nat) (k0 : Nat) (a1 : Int32) (j2 : Int64) : Nat → Mem → Int64 → Int32 → Option (Int32 × Mem)
  | 0, _, _, _ => none
  | cnt+1, I, w4, v6 =>
    if a1 ≤ v6 then
    if (lg_cmp j2 w4) < (0 : Int32) then
    clM (f5_become N I (k0 + 7) (k0 + 3)) (fun I_9 : Mem =>
    f6_runScript_67 N k0 a1 j2 N I_9 w4 (0 : Int32))
    else
    some ((-2 : Int32), I)
    else
    letM (w4 * (10000 : Int64)) (fun x_23 : Int64 =>
    letM (v6 + (1 : Int32)) (fun x_24 : Int32 =>
    f6_runScript_23 N k0 a1 j2 cnt I x_23 x_24))
def f6_runScript (N : Nat) (I : Mem) (k0 : Nat) (a1 : Int32) (j2 : Int64) : Option (Int32 × Mem) :=
    clP (f6_isPositive N I a1 (4 : Int32)) (fun (q_1 : Int32) (I_2 : Mem) =>
    if q_1 = (0 : Int32) then
    some ((-2 : Int32), I_2)
    else
    if (0 : Int32) ≤ (lg_cmp j2 (0 : Int64)) then
    f6_runScript_23 N k0 a1 j2 N I_2 (1 : Int64) (0 : Int32)
    else
    some ((-2 : Int32), I_2))
set_option maxHeartbeats 4000000 in
set_option maxRecDepth 100000 in
theorem L6_runScript_67 (hG : Apart g NT) (N : Nat) (k0 : Nat) (a1 : Int32) (j2 : Int64) (t0 : tag k0 = 5) (X : Cx g p s m args c cX6_runScript RX6 7) (hr : meth.sig.returnType = (some .int)) (hlk : meth.locks = false) (r0 : Int32) (I0 : Mem) : ∀ (cnt : Nat) (I : Mem) (w4 : Int64) (v6 : Int32), f6_runScript_67 N k0 a1 j2 cnt I w4 v6 = some (r0, I0) → ∀ (H : Heap) (locs : List Loc) (ls : Array Slot), Wp g I H → va_S (gA g) s.heap H locs → lv_has ls 7 [(0, .ref (ga g k0)), (1, .int a1), (2, .long j2), (4, .long w4), (6, .int v6)] → W p l e rm6_runScript s m args below meth c H locs 0 0 (MQ below (Qg g (some (.int r0)) I0) args s 0 0 (gA g)) (F0 m 67 ls []) := by
  have hx := X.hx
  have hb := X.hb
  intro cnt
  induction cnt with
  | zero =>
    intro I w4 v6 h
    rw [f6_runScript_67] at h
    cases h
  | succ cnt ih =>
    intro I w4 v6 h H locs ls hP hS hl
    rw [f6_runScript_67] at h
    refine lv_iload hx hb dX6_runScript_67 (lv_at hl 4 rfl) ?_
    refine lv_iload_n hx hb dX6_runScript_69 rfl (lv_at hl 1 rfl) ?_
    refine lv_icmp_ge (tgt := 117) hx hb dX6_runScript_70 (by decide) (fun c_11 => ?_) (fun c_11 => ?_)
    · replace h := ifp c_11 h
      refine lv_bipush (v := (-9 : Int32)) hx hb dX6_runScript_117 (by decide +kernel) ?_
      exact r_iret X hr hlk hP hS dX6_runScript_119 h
    · replace h := ifn c_11 h
      refine lv_lload hx hb dX6_runScript_73 (lv_at hl 3 rfl) ?_
      refine lv_lconst (v := (1 : Int64)) hx hb dX6_runScript_75 (by decide +kernel) ?_
      refine W.lcmp hx hb dX6_runScript_76 ?_
      refine lv_if_le (tgt := 117) hx hb dX6_runScript_77 (by decide) (fun c_12 => ?_) (fun c_12 => ?_)
      · replace h := ifp c_12 h
        refine lv_bipush (v := (-9 : Int32)) hx hb dX6_runScript_117 (by decide +kernel) ?_
        exact r_iret X hr hlk hP hS dX6_runScript_119 h
      · replace h := ifn c_12 h
        refine lv_lload hx hb dX6_runScript_80 (lv_at hl 3 rfl) ?_
        refine lv_ldc2 (v := (10000 : Int64)) hx hb X.ow (X.hts _ k_438) dX6_runScript_82 ?_
        refine lv_ldiv hx hb dX6_runScript_85 (by decide) ?_
        obtain ⟨x_13, ex_13, h⟩ := letM_e h
        refine r_nml ex_13 ?_
        refine lv_lstore (lv' := [(4, .long x_13), (0, .ref (ga g k0)), (1, .int a1), (2, .long j2), (6, .int v6)]) hx hb dX6_runScript_86 hl (by decide) rfl (fun ls hl => ?_)
        refine lv_aload_n hx hb dX6_runScript_88 rfl (lv_at hl 1 rfl) ?_
        refine lv_lload_n hx hb dX6_runScript_89 rfl (lv_at hl 3 rfl) ?_
        refine lv_lload hx hb dX6_runScript_90 (lv_at hl 0 rfl) ?_
        refine lv_lconst (v := (1 : Int64)) hx hb dX6_runScript_92 (by decide +kernel) ?_
        obtain ⟨q_14, I_15, hc_16, h⟩ := clP_e h
        refine r_callS (As := [.long x_13, .long (1 : Int64)]) [.long j2, .ref (ga g k0)] X (ccJ9_max_f86c9 l g hG N _ _ _ _ _ hc_16) cal_J9_max_f86c9 (sc_J9_max_f86c9) k_439 rfl ⟨rfl, rfl⟩ ⟨Nat.le_of_ble_eq_true rfl, Nat.le_of_ble_eq_true rfl⟩ hP hS hl.1 rfl (Nat.le_of_ble_eq_true rfl) dX6_runScript_93 ⟨Nat.zero_le _, Nat.zero_le _⟩ (fun H locs hP hS => ?_)
        show W p l e rm6_runScript s m args below meth c H locs 0 0 _ (F0 m 96 ls [.long q_14, .long j2, .ref (ga g k0)])
        obtain ⟨g_17, h⟩ := gd_e h
        refine lv_ldiv hx hb dX6_runScript_96 g_17 ?_
        refine lv_ldc2 (v := (10000 : Int64)) hx hb X.ow (X.hts _ k_438) dX6_runScript_97 ?_
        refine lv_lrem hx hb dX6_runScript_100 (by decide) ?_
        refine lv_l2i (v := ((j2 / q_14) - (j2 / q_14) / (10000 : Int64) * (10000 : Int64)).toInt32) hx hb dX6_runScript_101 (by rfl) ?_
        obtain ⟨q_18, I_19, hc_20, h⟩ := clP_e h
        refine r_callV (As := [.int ((j2 / q_14) - (j2 / q_14) / (10000 : Int64) * (10000 : Int64)).toInt32]) [] X (c6_succeeds l g hG N _ _ _ t0 _ _ hc_20) cal_X6_succeeds (im_X6_succeeds) (se_X6_succeeds) k_442 (tag_lt t0 (by decide)) (by rw [lay, t0]; rfl) rfl rfl ⟨rfl, rfl⟩ ⟨Nat.le_of_ble_eq_true rfl, Nat.le_of_ble_eq_true rfl⟩ hP hS hl.1 rfl (Nat.le_of_ble_eq_true rfl) dX6_runScript_102 ⟨Nat.zero_le _, Nat.zero_le _⟩ (fun H locs hP hS => ?_)
        show W p l e rm6_runScript s m args below meth c H locs 0 0 _ (F0 m 105 ls [.int q_18])
        refine lv_if_ne (tgt := 111) hx hb dX6_runScript_105 (by decide) (fun c_21 => ?_) (fun c_21 => ?_)
        · replace h := ifn c_21 h
          obtain ⟨x_22, ex_22, h⟩ := letM_e h
          refine lv_iinc (v := x_22) (lv' := [(6, .int x_22), (4, .long x_13), (0, .ref (ga g k0)), (1, .int a1), (2, .long j2)]) hx hb dX6_runScript_111 hl (k := 4) rfl (by rw [ex_22]; rfl) (by decide) rfl (fun ls hl => ?_)
          refine lv_goto (tgt := 67) hx hb dX6_runScript_114 (by decide) ?_
          exact ih I_19 x_13 x_22 h _ _ _ hP hS (lv_sub hl [2, 3, 4, 1, 0] rfl)
        · replace h := ifp c_21 h
          refine lv_iload hx hb dX6_runScript_108 (lv_at hl 4 rfl) ?_
          exact r_iret X hr hlk hP hS dX6_runScript_110 h
set_option maxHeartbeats 4000000 in
set_option maxRecDepth 100000 in
theorem L6_runScript_23 (hG : Apart g NT) (N : Nat) (k0 : Nat) (a1 : Int32) (j2 : Int64) (t0 : tag k0 = 5) (X : Cx g p s m args c cX6_runScript RX6 7) (hr : meth.sig.returnType = (some .int)) (hlk : meth.locks = false) (r0 : Int32) (I0 : Mem) : ∀ (cnt : Nat) (I : Mem) (w4 : Int64) (v6 : Int32), f6_runScript_23 N k0 a1 j2 cnt I w4 v6 = some (r0, I0) → ∀ (H : Heap) (locs : List Loc) (ls : Array Slot), Wp g I H → va_S (gA g) s.heap H locs → lv_has ls 7 [(0, .ref (ga g k0)), (1, .int a1), (2, .long j2), (4, .long w4), (6, .int v6)] → W p l e rm6_runScript s m args below meth c H locs 0 0 (MQ below (Qg g (some (.int r0)) I0) args s 0 0 (gA g)) (F0 m 23 ls []) := by
  have hx := X.hx
  have hb := X.hb
  intro cnt
  induction cnt with
  | zero =>
    intro I w4 v6 h
    rw [f6_runScript_23] at h
    cases h
  | succ cnt ih =>
    intro I w4 v6 h H locs ls hP hS hl
    rw [f6_runScript_23] at h
    refine lv_iload hx hb dX6_runScript_23 (lv_at hl 4 rfl) ?_
    refine lv_iload_n hx hb dX6_runScript_25 rfl (lv_at hl 1 rfl) ?_
    refine lv_icmp_ge (tgt := 43) hx hb dX6_runScript_26 (by decide) (fun c_6 => ?_) (fun c_6 => ?_)
    · replace h := ifp c_6 h
      refine lv_lload_n hx hb dX6_runScript_43 rfl (lv_at hl 2 rfl) ?_
      refine lv_lload hx hb dX6_runScript_44 (lv_at hl 3 rfl) ?_
      refine W.lcmp hx hb dX6_runScript_46 ?_
      refine lv_if_lt (tgt := 53) hx hb dX6_runScript_47 (by decide) (fun c_7 => ?_) (fun c_7 => ?_)
      · replace h := ifp c_7 h
        refine lv_aload_n hx hb dX6_runScript_53 rfl (lv_at hl 0 rfl) ?_
        refine g6_2 X hP t0 k_156 dX6_runScript_54 ?_
        refine lv_aload_n hx hb dX6_runScript_57 rfl (lv_at hl 0 rfl) ?_
        refine g6_1 X hP t0 k_155 dX6_runScript_58 ?_
        obtain ⟨I_9, hc_10, h⟩ := clM_e h
        refine r_callV (As := [.ref (ga g (k0 + 3))]) [] X (c5_become l g hG N _ _ _ (g6_2_t t0) (g6_1_t t0) _ hc_10) cal_X5_become (im_X5_become) (se_X5_become) k_414 (tag_lt (g6_2_t t0) (by decide)) (by rw [lay, (g6_2_t t0)]; rfl) rfl rfl ⟨rfl, rfl⟩ ⟨Nat.le_of_ble_eq_true rfl, Nat.le_of_ble_eq_true rfl⟩ hP hS hl.1 rfl (Nat.le_of_ble_eq_true rfl) dX6_runScript_61 ⟨Nat.zero_le _, Nat.zero_le _⟩ (fun H locs hP hS => ?_)
        show W p l e rm6_runScript s m args below meth c H locs 0 0 _ (F0 m 64 ls [])
        refine lv_iconst (v := (0 : Int32)) hx hb dX6_runScript_64 (by decide +kernel) ?_
        refine lv_istore (lv' := [(6, .int (0 : Int32)), (0, .ref (ga g k0)), (1, .int a1), (2, .long j2), (4, .long w4)]) hx hb dX6_runScript_65 hl (by decide) rfl (fun ls hl => ?_)
        exact L6_runScript_67 hG N k0 a1 j2 t0 X hr hlk r0 I0 N I_9 w4 (0 : Int32) h _ _ _ hP hS (lv_sub hl [1, 2, 3, 4, 0] rfl)
      · replace h := ifn c_7 h
        refine lv_bipush (v := (-2 : Int32)) hx hb dX6_runScript_50 (by decide +kernel) ?_
        exact r_iret X hr hlk hP hS dX6_runScript_52 h
    · replace h := ifn c_6 h
      refine lv_lload hx hb dX6_runScript_29 (lv_at hl 3 rfl) ?_
      refine lv_ldc2 (v := (10000 : Int64)) hx hb X.ow (X.hts _ k_438) dX6_runScript_31 ?_
      refine lv_lmul hx hb dX6_runScript_34 ?_
      obtain ⟨x_23, ex_23, h⟩ := letM_e h
      refine r_nml ex_23 ?_
      refine lv_lstore (lv' := [(4, .long x_23), (0, .ref (ga g k0)), (1, .int a1), (2, .long j2), (6, .int v6)]) hx hb dX6_runScript_35 hl (by decide) rfl (fun ls hl => ?_)
      obtain ⟨x_24, ex_24, h⟩ := letM_e h
      refine lv_iinc (v := x_24) (lv' := [(6, .int x_24), (4, .long x_23), (0, .ref (ga g k0)), (1, .int a1), (2, .long j2)]) hx hb dX6_runScript_37 hl (k := 4) rfl (by rw [ex_24]; rfl) (by decide) rfl (fun ls hl => ?_)
      refine lv_goto (tgt := 23) hx hb dX6_runScript_40 (by decide) ?_
      exact ih I x_23 x_24 h _ _ _ hP hS (lv_sub hl [2, 3, 4, 1, 0] rfl)
set_option maxHeartbeats 4000000 in
set_option maxRecDepth 100000 in
theorem c6_runScript (l : Launch) (g : GG) (hG : Apart g NT) (N : Nat) (I : Mem) (k0 : Nat) (a1 : Int32) (j2 : Int64) (t0 : tag k0 = 5) (r0 : Int32) (I0 : Mem) (h : f6_runScript N I k0 a1 j2 = some (r0, I0)) : Mc l g yX6_runScript cX6_runScript 7 (some .int) rm6_runScript I [.ref (ga g k0), .int a1, .long j2] (some (.int r0)) I0 := by
  refine Mc.of hG (by decide +kernel) (Nat.le_of_ble_eq_true rfl) ?_
  intro p e s m args below meth c ls X hr hlk hP hS hl
  have X : Cx g p s m args c cX6_runScript RX6 7 := X
  have hx := X.hx
  have hb := X.hb
  have hl : lv_has ls 7 [(0, .ref (ga g k0)), (1, .int a1), (2, .long j2)] := hl
  have locs : List Loc := []
  unfold f6_runScript at h
  refine lv_iload_n hx hb dX6_runScript_0 rfl (lv_at hl 1 rfl) ?_
  refine lv_iconst (v := (4 : Int32)) hx hb dX6_runScript_1 (by decide +kernel) ?_
  obtain ⟨q_1, I_2, hc_3, h⟩ := clP_e h
  refine r_callS (As := [.int a1, .int (4 : Int32)]) [] X (c6_isPositive l g hG N _ _ _ _ _ hc_3) cal_X6_isPositive (sc_X6_isPositive) k_302 rfl ⟨rfl, rfl⟩ ⟨Nat.le_of_ble_eq_true rfl, Nat.le_of_ble_eq_true rfl⟩ hP hS hl.1 rfl (Nat.le_of_ble_eq_true rfl) dX6_runScript_2 ⟨Nat.zero_le _, Nat.zero_le _⟩ (fun H locs hP hS => ?_)
  show W p l e rm6_runScript s m args below meth c H locs 0 0 _ (F0 m 5 ls [.int q_1])
  refine lv_if_eq (tgt := 14) hx hb dX6_runScript_5 (by decide) (fun c_4 => ?_) (fun c_4 => ?_)
  · replace h := ifp c_4 h
    refine lv_bipush (v := (-2 : Int32)) hx hb dX6_runScript_14 (by decide +kernel) ?_
    exact r_iret X hr hlk hP hS dX6_runScript_16 h
  · replace h := ifn c_4 h
    refine lv_lload_n hx hb dX6_runScript_8 rfl (lv_at hl 2 rfl) ?_
    refine lv_lconst (v := (0 : Int64)) hx hb dX6_runScript_9 (by decide +kernel) ?_
    refine W.lcmp hx hb dX6_runScript_10 ?_
    refine lv_if_ge (tgt := 17) hx hb dX6_runScript_11 (by decide) (fun c_5 => ?_) (fun c_5 => ?_)
    · replace h := ifp c_5 h
      refine lv_lconst (v := (1 : Int64)) hx hb dX6_runScript_17 (by decide +kernel) ?_
      refine lv_lstore (lv' := [(4, .long (1 : Int64)), (0, .ref (ga g k0)), (1, .int a1), (2, .long j2)]) hx hb dX6_runScript_18 hl (by decide) rfl (fun ls hl => ?_)
      refine lv_iconst (v := (0 : Int32)) hx hb dX6_runScript_20 (by decide +kernel) ?_
      refine lv_istore (lv' := [(6, .int (0 : Int32)), (4, .long (1 : Int64)), (0, .ref (ga g k0)), (1, .int a1), (2, .long j2)]) hx hb dX6_runScript_21 hl (by decide) rfl (fun ls hl => ?_)
      exact L6_runScript_23 hG N k0 a1 j2 t0 X hr hlk r0 I0 N I_2 (1 : Int64) (0 : Int32) h _ _ _ hP hS (lv_sub hl [2, 3, 4, 1, 0] rfl)
    · replace h := ifn c_5 h
      refine lv_bipush (v := (-2 : Int32)) hx hb dX6_runScript_14 (by decide +kernel) ?_
      exact r_iret X hr hlk hP hS dX6_runScript_16 h
abbrev rm6_randomSpeeds : Room := { frames := 5, cells := 0, slots := 0, locals := 124 }
def f6_randomSpeeds_30 (N : Nat) (k0 : Nat) (j1 : Int64) (a3 : Int32) : Nat → Mem → Int64 → Int32 → Option (Int32 × Mem)
  | 0, _, _, _ => none
  | cnt+1, I, w4, v6 =>
    if a3 ≤ v6 then
    some (((I (k0 + 7) 4) - (I (k0 + 3) 4)), I)
    else
    if (I (k0 + 7) 5) ≤ (0 : Int32) then
    some (((I (k0 + 7) 4) - (I (k0 + 3) 4)), I)
    else
    letM ((w4 * (6364136223846793005 : Int64)) + (1442695040888963407 : Int64)) (fun x_10 : Int64 =>
    letM (x_10.toUInt64 >>> (((33 : Int32)).toInt64.toUInt64 &&& Int64.toUInt64 63)).toInt64.toInt32 (fun x_11 : Int32 =>
    if (x_11 - x_11 / (4 : Int32) * (4 : Int32)) = (0 : Int32) then
    letM (st I (k0 + 7) 1 (((x_11 / (4 : Int32)) - (x_11 / (4 : Int32)) / (999 : Int32) * (999 : Int32)) + (1 : Int32))) (fun I_17 : Mem =>
    clP (f5_advance N I_17 (k0 + 7) (k0 + 79) (1 : Int32) (1000000000 : Int32)) (fun (q_18 : Int32) (I_19 : Mem) =>
    letM (v6 + (1 : Int32)) (fun x_21 : Int32 =>
    f6_randomSpeeds_30 N k0 j1 a3 cnt I_19 x_10 x_21)))
    else
    clP (f5_advance N I (k0 + 7) (k0 + 79) (1 : Int32) (1000000000 : Int32)) (fun (q_13 : Int32) (I_14 : Mem) =>
    letM (v6 + (1 : Int32)) (fun x_16 : Int32 =>
    f6_randomSpeeds_30 N k0 j1 a3 cnt I_14 x_10 x_16))))
def f6_randomSpeeds (N : Nat) (I : Mem) (k0 : Nat) (j1 : Int64) (a3 : Int32) : Option (Int32 × Mem) :=
    clP (f6_isPositive N I a3 (500 : Int32)) (fun (q_1 : Int32) (I_2 : Mem) =>
    if q_1 = (0 : Int32) then
    some ((-2 : Int32), I_2)
    else
    clM (f5_become N I_2 (k0 + 7) (k0 + 3)) (fun I_6 : Mem =>
    f6_randomSpeeds_30 N k0 j1 a3 N I_6 j1 (0 : Int32)))
set_option maxHeartbeats 4000000 in
set_option maxRecDepth 100000 in
theorem L6_randomSpeeds_30 (hG : Apart g NT) (N : Nat) (k0 : Nat) (j1 : Int64) (a3 : Int32) (t0 : tag k0 = 5) (X : Cx g p s m args c cX6_randomSpeeds RX6 8) (hr : meth.sig.returnType = (some .int)) (hlk : meth.locks = false) (r0 : Int32) (I0 : Mem) : ∀ (cnt : Nat) (I : Mem) (w4 : Int64) (v6 : Int32), f6_randomSpeeds_30 N k0 j1 a3 cnt I w4 v6 = some (r0, I0) → ∀ (H : Heap) (locs : List Loc) (ls : Array Slot), Wp g I H → va_S (gA g) s.heap H locs → lv_has ls 8 [(0, .ref (ga g k0)), (3, .int a3), (4, .long w4), (6, .int v6)] → W p l e rm6_randomSpeeds s m args below meth c H locs 0 0 (MQ below (Qg g (some (.int r0)) I0) args s 0 0 (gA g)) (F0 m 30 ls []) := by
  have hx := X.hx
  have hb := X.hb
  intro cnt
  induction cnt with
  | zero =>
    intro I w4 v6 h
    rw [f6_randomSpeeds_30] at h
    cases h
  | succ cnt ih =>
    intro I w4 v6 h H locs ls hP hS hl
    rw [f6_randomSpeeds_30] at h
    refine lv_iload hx hb dX6_randomSpeeds_30 (lv_at hl 3 rfl) ?_
    refine lv_iload_n hx hb dX6_randomSpeeds_32 rfl (lv_at hl 1 rfl) ?_
    refine lv_icmp_ge (tgt := 111) hx hb dX6_randomSpeeds_33 (by decide) (fun c_8 => ?_) (fun c_8 => ?_)
    · replace h := ifp c_8 h
      refine lv_aload_n hx hb dX6_randomSpeeds_111 rfl (lv_at hl 0 rfl) ?_
      refine g6_2 X hP t0 k_156 dX6_randomSpeeds_112 ?_
      refine g5_4 X hP (g6_2_t t0) k_58 dX6_randomSpeeds_115 ?_
      refine lv_aload_n hx hb dX6_randomSpeeds_118 rfl (lv_at hl 0 rfl) ?_
      refine g6_1 X hP t0 k_155 dX6_randomSpeeds_119 ?_
      refine g5_4 X hP (g6_1_t t0) k_58 dX6_randomSpeeds_122 ?_
      refine lv_isub hx hb dX6_randomSpeeds_125 ?_
      exact r_iret X hr hlk hP hS dX6_randomSpeeds_126 h
    · replace h := ifn c_8 h
      refine lv_aload_n hx hb dX6_randomSpeeds_36 rfl (lv_at hl 0 rfl) ?_
      refine g6_2 X hP t0 k_156 dX6_randomSpeeds_37 ?_
      refine g5_5 X hP (g6_2_t t0) k_60 dX6_randomSpeeds_40 ?_
      refine lv_if_le (tgt := 111) hx hb dX6_randomSpeeds_43 (by decide) (fun c_9 => ?_) (fun c_9 => ?_)
      · replace h := ifp c_9 h
        refine lv_aload_n hx hb dX6_randomSpeeds_111 rfl (lv_at hl 0 rfl) ?_
        refine g6_2 X hP t0 k_156 dX6_randomSpeeds_112 ?_
        refine g5_4 X hP (g6_2_t t0) k_58 dX6_randomSpeeds_115 ?_
        refine lv_aload_n hx hb dX6_randomSpeeds_118 rfl (lv_at hl 0 rfl) ?_
        refine g6_1 X hP t0 k_155 dX6_randomSpeeds_119 ?_
        refine g5_4 X hP (g6_1_t t0) k_58 dX6_randomSpeeds_122 ?_
        refine lv_isub hx hb dX6_randomSpeeds_125 ?_
        exact r_iret X hr hlk hP hS dX6_randomSpeeds_126 h
      · replace h := ifn c_9 h
        refine lv_lload hx hb dX6_randomSpeeds_46 (lv_at hl 2 rfl) ?_
        refine lv_ldc2 (v := (6364136223846793005 : Int64)) hx hb X.ow (X.hts _ k_456) dX6_randomSpeeds_48 ?_
        refine lv_lmul hx hb dX6_randomSpeeds_51 ?_
        refine lv_ldc2 (v := (1442695040888963407 : Int64)) hx hb X.ow (X.hts _ k_457) dX6_randomSpeeds_52 ?_
        refine lv_ladd hx hb dX6_randomSpeeds_55 ?_
        obtain ⟨x_10, ex_10, h⟩ := letM_e h
        refine r_nml ex_10 ?_
        refine lv_lstore (lv' := [(4, .long x_10), (0, .ref (ga g k0)), (3, .int a3), (6, .int v6)]) hx hb dX6_randomSpeeds_56 hl (by decide) rfl (fun ls hl => ?_)
        refine lv_lload hx hb dX6_randomSpeeds_58 (lv_at hl 0 rfl) ?_
        refine lv_bipush (v := (33 : Int32)) hx hb dX6_randomSpeeds_60 (by decide +kernel) ?_
        refine lv_lushr (v := (x_10.toUInt64 >>> (((33 : Int32)).toInt64.toUInt64 &&& Int64.toUInt64 63)).toInt64) hx hb dX6_randomSpeeds_62 rfl ?_
        refine lv_l2i (v := (x_10.toUInt64 >>> (((33 : Int32)).toInt64.toUInt64 &&& Int64.toUInt64 63)).toInt64.toInt32) hx hb dX6_randomSpeeds_63 (by rfl) ?_
        obtain ⟨x_11, ex_11, h⟩ := letM_e h
        refine r_nmi ex_11 ?_
        refine lv_istore (lv' := [(7, .int x_11), (4, .long x_10), (0, .ref (ga g k0)), (3, .int a3), (6, .int v6)]) hx hb dX6_randomSpeeds_64 hl (by decide) rfl (fun ls hl => ?_)
        refine lv_iload hx hb dX6_randomSpeeds_66 (lv_at hl 0 rfl) ?_
        refine lv_iconst (v := (4 : Int32)) hx hb dX6_randomSpeeds_68 (by decide +kernel) ?_
        refine lv_irem hx hb dX6_randomSpeeds_69 (by decide) ?_
        refine lv_if_ne (tgt := 90) hx hb dX6_randomSpeeds_70 (by decide) (fun c_12 => ?_) (fun c_12 => ?_)
        · replace h := ifn c_12 h
          refine lv_aload_n hx hb dX6_randomSpeeds_90 rfl (lv_at hl 2 rfl) ?_
          refine g6_2 X hP t0 k_156 dX6_randomSpeeds_91 ?_
          refine lv_aload_n hx hb dX6_randomSpeeds_94 rfl (lv_at hl 2 rfl) ?_
          refine g6_6 X hP t0 k_160 dX6_randomSpeeds_95 ?_
          refine lv_iconst (v := (1 : Int32)) hx hb dX6_randomSpeeds_98 (by decide +kernel) ?_
          refine lv_ldc (v := (1000000000 : Int32)) hx hb X.ow (X.hts _ k_353) dX6_randomSpeeds_99 ?_
          obtain ⟨q_13, I_14, hc_15, h⟩ := clP_e h
          refine r_callV (As := [.ref (ga g (k0 + 79)), .int (1 : Int32), .int (1000000000 : Int32)]) [] X (c5_advance l g hG N _ _ _ _ _ (g6_2_t t0) (g6_6_t t0) _ _ hc_15) cal_X5_advance (im_X5_advance) (se_X5_advance) k_354 (tag_lt (g6_2_t t0) (by decide)) (by rw [lay, (g6_2_t t0)]; rfl) rfl rfl ⟨rfl, rfl⟩ ⟨Nat.le_of_ble_eq_true rfl, Nat.le_of_ble_eq_true rfl⟩ hP hS hl.1 rfl (Nat.le_of_ble_eq_true rfl) dX6_randomSpeeds_101 ⟨Nat.zero_le _, Nat.zero_le _⟩ (fun H locs hP hS => ?_)
          show W p l e rm6_randomSpeeds s m args below meth c H locs 0 0 _ (F0 m 104 ls [.int q_13])
          refine lv_pop hx hb dX6_randomSpeeds_104 rfl ?_
          obtain ⟨x_16, ex_16, h⟩ := letM_e h
          refine lv_iinc (v := x_16) (lv' := [(6, .int x_16), (7, .int x_11), (4, .long x_10), (0, .ref (ga g k0)), (3, .int a3)]) hx hb dX6_randomSpeeds_105 hl (k := 4) rfl (by rw [ex_16]; rfl) (by decide) rfl (fun ls hl => ?_)
          refine lv_goto (tgt := 30) hx hb dX6_randomSpeeds_108 (by decide) ?_
          exact ih I_14 x_10 x_16 h _ _ _ hP hS (lv_sub hl [3, 4, 2, 0] rfl)
        · replace h := ifp c_12 h
          refine lv_aload_n hx hb dX6_randomSpeeds_73 rfl (lv_at hl 2 rfl) ?_
          refine g6_2 X hP t0 k_156 dX6_randomSpeeds_74 ?_
          refine lv_iload hx hb dX6_randomSpeeds_77 (lv_at hl 0 rfl) ?_
          refine lv_iconst (v := (4 : Int32)) hx hb dX6_randomSpeeds_79 (by decide +kernel) ?_
          refine lv_idiv hx hb dX6_randomSpeeds_80 (by decide) ?_
          refine lv_sipush (v := (999 : Int32)) hx hb dX6_randomSpeeds_81 (by decide +kernel) ?_
          refine lv_irem hx hb dX6_randomSpeeds_84 (by decide) ?_
          refine lv_iconst (v := (1 : Int32)) hx hb dX6_randomSpeeds_85 (by decide +kernel) ?_
          refine lv_iadd hx hb dX6_randomSpeeds_86 ?_
          obtain ⟨I_17, eI_17, h⟩ := letM_e h
          refine p5_1 X hP hS (g6_2_t t0) k_53 eI_17 dX6_randomSpeeds_87 (fun H locs hP hS => ?_)
          refine lv_aload_n hx hb dX6_randomSpeeds_90 rfl (lv_at hl 2 rfl) ?_
          refine g6_2 X hP t0 k_156 dX6_randomSpeeds_91 ?_
          refine lv_aload_n hx hb dX6_randomSpeeds_94 rfl (lv_at hl 2 rfl) ?_
          refine g6_6 X hP t0 k_160 dX6_randomSpeeds_95 ?_
          refine lv_iconst (v := (1 : Int32)) hx hb dX6_randomSpeeds_98 (by decide +kernel) ?_
          refine lv_ldc (v := (1000000000 : Int32)) hx hb X.ow (X.hts _ k_353) dX6_randomSpeeds_99 ?_
          obtain ⟨q_18, I_19, hc_20, h⟩ := clP_e h
          refine r_callV (As := [.ref (ga g (k0 + 79)), .int (1 : Int32), .int (1000000000 : Int32)]) [] X (c5_advance l g hG N _ _ _ _ _ (g6_2_t t0) (g6_6_t t0) _ _ hc_20) cal_X5_advance (im_X5_advance) (se_X5_advance) k_354 (tag_lt (g6_2_t t0) (by decide)) (by rw [lay, (g6_2_t t0)]; rfl) rfl rfl ⟨rfl, rfl⟩ ⟨Nat.le_of_ble_eq_true rfl, Nat.le_of_ble_eq_true rfl⟩ hP hS hl.1 rfl (Nat.le_of_ble_eq_true rfl) dX6_randomSpeeds_101 ⟨Nat.zero_le _, Nat.zero_le _⟩ (fun H locs hP hS => ?_)
          show W p l e rm6_randomSpeeds s m args below meth c H locs 0 0 _ (F0 m 104 ls [.int q_18])
          refine lv_pop hx hb dX6_randomSpeeds_104 rfl ?_
          obtain ⟨x_21, ex_21, h⟩ := letM_e h
          refine lv_iinc (v := x_21) (lv' := [(6, .int x_21), (7, .int x_11), (4, .long x_10), (0, .ref (ga g k0)), (3, .int a3)]) hx hb dX6_randomSpeeds_105 hl (k := 4) rfl (by rw [ex_21]; rfl) (by decide) rfl (fun ls hl => ?_)
          refine lv_goto (tgt := 30) hx hb dX6_randomSpeeds_108 (by decide) ?_
          exact ih I_19 x_10 x_21 h _ _ _ hP hS (lv_sub hl [3, 4, 2, 0] rfl)
set_option maxHeartbeats 4000000 in
set_option maxRecDepth 100000 in
theorem c6_randomSpeeds (l : Launch) (g : GG) (hG : Apart g NT) (N : Nat) (I : Mem) (k0 : Nat) (j1 : Int64) (a3 : Int32) (t0 : tag k0 = 5) (r0 : Int32) (I0 : Mem) (h : f6_randomSpeeds N I k0 j1 a3 = some (r0, I0)) : Mc l g yX6_randomSpeeds cX6_randomSpeeds 8 (some .int) rm6_randomSpeeds I [.ref (ga g k0), .long j1, .int a3] (some (.int r0)) I0 := by
  refine Mc.of hG (by decide +kernel) (Nat.le_of_ble_eq_true rfl) ?_
  intro p e s m args below meth c ls X hr hlk hP hS hl
  have X : Cx g p s m args c cX6_randomSpeeds RX6 8 := X
  have hx := X.hx
  have hb := X.hb
  have hl : lv_has ls 8 [(0, .ref (ga g k0)), (1, .long j1), (3, .int a3)] := hl
  have locs : List Loc := []
  unfold f6_randomSpeeds at h
  refine lv_iload_n hx hb dX6_randomSpeeds_0 rfl (lv_at hl 2 rfl) ?_
  refine lv_sipush (v := (500 : Int32)) hx hb dX6_randomSpeeds_1 (by decide +kernel) ?_
  obtain ⟨q_1, I_2, hc_3, h⟩ := clP_e h
  refine r_callS (As := [.int a3, .int (500 : Int32)]) [] X (c6_isPositive l g hG N _ _ _ _ _ hc_3) cal_X6_isPositive (sc_X6_isPositive) k_302 rfl ⟨rfl, rfl⟩ ⟨Nat.le_of_ble_eq_true rfl, Nat.le_of_ble_eq_true rfl⟩ hP hS hl.1 rfl (Nat.le_of_ble_eq_true rfl) dX6_randomSpeeds_4 ⟨Nat.zero_le _, Nat.zero_le _⟩ (fun H locs hP hS => ?_)
  show W p l e rm6_randomSpeeds s m args below meth c H locs 0 0 _ (F0 m 7 ls [.int q_1])
  refine lv_if_ne (tgt := 13) hx hb dX6_randomSpeeds_7 (by decide) (fun c_4 => ?_) (fun c_4 => ?_)
  · replace h := ifn c_4 h
    refine lv_aload_n hx hb dX6_randomSpeeds_13 rfl (lv_at hl 0 rfl) ?_
    refine g6_2 X hP t0 k_156 dX6_randomSpeeds_14 ?_
    refine lv_aload_n hx hb dX6_randomSpeeds_17 rfl (lv_at hl 0 rfl) ?_
    refine g6_1 X hP t0 k_155 dX6_randomSpeeds_18 ?_
    obtain ⟨I_6, hc_7, h⟩ := clM_e h
    refine r_callV (As := [.ref (ga g (k0 + 3))]) [] X (c5_become l g hG N _ _ _ (g6_2_t t0) (g6_1_t t0) _ hc_7) cal_X5_become (im_X5_become) (se_X5_become) k_414 (tag_lt (g6_2_t t0) (by decide)) (by rw [lay, (g6_2_t t0)]; rfl) rfl rfl ⟨rfl, rfl⟩ ⟨Nat.le_of_ble_eq_true rfl, Nat.le_of_ble_eq_true rfl⟩ hP hS hl.1 rfl (Nat.le_of_ble_eq_true rfl) dX6_randomSpeeds_21 ⟨Nat.zero_le _, Nat.zero_le _⟩ (fun H locs hP hS => ?_)
    show W p l e rm6_randomSpeeds s m args below meth c H locs 0 0 _ (F0 m 24 ls [])
    refine lv_lload_n hx hb dX6_randomSpeeds_24 rfl (lv_at hl 1 rfl) ?_
    refine lv_lstore (lv' := [(4, .long j1), (0, .ref (ga g k0)), (1, .long j1), (3, .int a3)]) hx hb dX6_randomSpeeds_25 hl (by decide) rfl (fun ls hl => ?_)
    refine lv_iconst (v := (0 : Int32)) hx hb dX6_randomSpeeds_27 (by decide +kernel) ?_
    refine lv_istore (lv' := [(6, .int (0 : Int32)), (4, .long j1), (0, .ref (ga g k0)), (1, .long j1), (3, .int a3)]) hx hb dX6_randomSpeeds_28 hl (by decide) rfl (fun ls hl => ?_)
    exact L6_randomSpeeds_30 hG N k0 j1 a3 t0 X hr hlk r0 I0 N I_6 j1 (0 : Int32) h _ _ _ hP hS (lv_sub hl [2, 4, 1, 0] rfl)
  · replace h := ifp c_4 h
    refine lv_bipush (v := (-2 : Int32)) hx hb dX6_randomSpeeds_10 (by decide +kernel) ?_
    exact r_iret X hr hlk hP hS dX6_randomSpeeds_12 h
abbrev rm6_isSlot : Room := { frames := 0, cells := 0, slots := 0, locals := 0 }
def f6_isSlot (N : Nat) (I : Mem) (a0 : Int32) : Option (Int32 × Mem) :=
    if a0 = (0 : Int32) then
    some ((1 : Int32), I)
    else
    if a0 = (1 : Int32) then
    some ((1 : Int32), I)
    else
    some ((0 : Int32), I)
set_option maxHeartbeats 4000000 in
set_option maxRecDepth 100000 in
theorem c6_isSlot (l : Launch) (g : GG) (hG : Apart g NT) (N : Nat) (I : Mem) (a0 : Int32) (r0 : Int32) (I0 : Mem) (h : f6_isSlot N I a0 = some (r0, I0)) : Mc l g yX6_isSlot cX6_isSlot 1 (some .boolean) rm6_isSlot I [.int a0] (some (.int r0)) I0 := by
  refine Mc.of hG (by decide +kernel) (Nat.le_of_ble_eq_true rfl) ?_
  intro p e s m args below meth c ls X hr hlk hP hS hl
  have X : Cx g p s m args c cX6_isSlot RX6 1 := X
  have hx := X.hx
  have hb := X.hb
  have hl : lv_has ls 1 [(0, .int a0)] := hl
  have locs : List Loc := []
  unfold f6_isSlot at h
  refine lv_iload_n hx hb dX6_isSlot_0 rfl (lv_at hl 0 rfl) ?_
  refine lv_if_eq (tgt := 9) hx hb dX6_isSlot_1 (by decide) (fun c_1 => ?_) (fun c_1 => ?_)
  · replace h := ifp c_1 h
    refine lv_iconst (v := (1 : Int32)) hx hb dX6_isSlot_9 (by decide +kernel) ?_
    refine lv_goto (tgt := 14) hx hb dX6_isSlot_10 (by decide) ?_
    exact r_zret X hr hlk hP hS rfl dX6_isSlot_14 h
  · replace h := ifn c_1 h
    refine lv_iload_n hx hb dX6_isSlot_4 rfl (lv_at hl 0 rfl) ?_
    refine lv_iconst (v := (1 : Int32)) hx hb dX6_isSlot_5 (by decide +kernel) ?_
    refine lv_icmp_ne (tgt := 13) hx hb dX6_isSlot_6 (by decide) (fun c_2 => ?_) (fun c_2 => ?_)
    · replace h := ifn c_2 h
      refine lv_iconst (v := (0 : Int32)) hx hb dX6_isSlot_13 (by decide +kernel) ?_
      exact r_zret X hr hlk hP hS rfl dX6_isSlot_14 h
    · replace h := ifp c_2 h
      refine lv_iconst (v := (1 : Int32)) hx hb dX6_isSlot_9 (by decide +kernel) ?_
      refine lv_goto (tgt := 14) hx hb dX6_isSlot_10 (by decide) ?_
      exact r_zret X hr hlk hP hS rfl dX6_isSlot_14 h
abbrev rm6_slotAt : Room := { frames := 0, cells := 0, slots := 0, locals := 0 }
def f6_slotAt (N : Nat) (I : Mem) (k0 : Nat) (a1 : Int32) : Option (Nat × Mem) :=
    if a1 = (0 : Int32) then
    some ((k0 + 69), I)
    else
    some ((k0 + 74), I)
set_option maxHeartbeats 4000000 in
set_option maxRecDepth 100000 in
theorem c6_slotAt (l : Launch) (g : GG) (hG : Apart g NT) (N : Nat) (I : Mem) (k0 : Nat) (a1 : Int32) (t0 : tag k0 = 5) (r0 : Nat) (I0 : Mem) (h : f6_slotAt N I k0 a1 = some (r0, I0)) : Mc l g yX6_slotAt cX6_slotAt 2 (some (.object RX3)) rm6_slotAt I [.ref (ga g k0), .int a1] (some (.ref (ga g r0))) I0 := by
  refine Mc.of hG (by decide +kernel) (Nat.le_of_ble_eq_true rfl) ?_
  intro p e s m args below meth c ls X hr hlk hP hS hl
  have X : Cx g p s m args c cX6_slotAt RX6 2 := X
  have hx := X.hx
  have hb := X.hb
  have hl : lv_has ls 2 [(0, .ref (ga g k0)), (1, .int a1)] := hl
  have locs : List Loc := []
  unfold f6_slotAt at h
  refine lv_iload_n hx hb dX6_slotAt_0 rfl (lv_at hl 1 rfl) ?_
  refine lv_if_ne (tgt := 11) hx hb dX6_slotAt_1 (by decide) (fun c_1 => ?_) (fun c_1 => ?_)
  · replace h := ifn c_1 h
    refine lv_aload_n hx hb dX6_slotAt_11 rfl (lv_at hl 0 rfl) ?_
    refine g6_5 X hP t0 k_159 dX6_slotAt_12 ?_
    exact r_aret X hr hlk hP hS dX6_slotAt_15 h
  · replace h := ifp c_1 h
    refine lv_aload_n hx hb dX6_slotAt_4 rfl (lv_at hl 0 rfl) ?_
    refine g6_4 X hP t0 k_158 dX6_slotAt_5 ?_
    refine lv_goto (tgt := 15) hx hb dX6_slotAt_8 (by decide) ?_
    exact r_aret X hr hlk hP hS dX6_slotAt_15 h
abbrev rm6_save : Room := { frames := 1, cells := 0, slots := 0, locals := 22 }
def f6_save (N : Nat) (I : Mem) (k0 : Nat) (a1 : Int32) : Option (Int32 × Mem) :=
    clP (f6_isSlot N I a1) (fun (q_1 : Int32) (I_2 : Mem) =>
    if q_1 = (0 : Int32) then
    some ((-1 : Int32), I_2)
    else
    clP (f6_slotAt N I_2 k0 a1) (fun (q_5 : Nat) (I_6 : Mem) =>
    if ¬ tag q_5 = 2 then none else
    clM (f5_become N I_6 (q_5 + 1) (k0 + 3)) (fun I_9 : Mem =>
    letM (st I_9 q_5 1 (1 : Int32)) (fun I_11 : Mem =>
    some ((I_11 (k0 + 3) 5), I_11)))))
set_option maxHeartbeats 4000000 in
set_option maxRecDepth 100000 in
theorem c6_save (l : Launch) (g : GG) (hG : Apart g NT) (N : Nat) (I : Mem) (k0 : Nat) (a1 : Int32) (t0 : tag k0 = 5) (r0 : Int32) (I0 : Mem) (h : f6_save N I k0 a1 = some (r0, I0)) : Mc l g yX6_save cX6_save 3 (some .int) rm6_save I [.ref (ga g k0), .int a1] (some (.int r0)) I0 := by
  refine Mc.of hG (by decide +kernel) (Nat.le_of_ble_eq_true rfl) ?_
  intro p e s m args below meth c ls X hr hlk hP hS hl
  have X : Cx g p s m args c cX6_save RX6 3 := X
  have hx := X.hx
  have hb := X.hb
  have hl : lv_has ls 3 [(0, .ref (ga g k0)), (1, .int a1)] := hl
  have locs : List Loc := []
  unfold f6_save at h
  refine lv_iload_n hx hb dX6_save_0 rfl (lv_at hl 1 rfl) ?_
  obtain ⟨q_1, I_2, hc_3, h⟩ := clP_e h
  refine r_callS (As := [.int a1]) [] X (c6_isSlot l g hG N _ _ _ _ hc_3) cal_X6_isSlot (sc_X6_isSlot) k_462 rfl ⟨rfl, rfl⟩ ⟨Nat.le_of_ble_eq_true rfl, Nat.le_of_ble_eq_true rfl⟩ hP hS hl.1 rfl (Nat.le_of_ble_eq_true rfl) dX6_save_1 ⟨Nat.zero_le _, Nat.zero_le _⟩ (fun H locs hP hS => ?_)
  show W p l e rm6_save s m args below meth c H locs 0 0 _ (F0 m 4 ls [.int q_1])
  refine lv_if_ne (tgt := 9) hx hb dX6_save_4 (by decide) (fun c_4 => ?_) (fun c_4 => ?_)
  · replace h := ifn c_4 h
    refine lv_aload_n hx hb dX6_save_9 rfl (lv_at hl 0 rfl) ?_
    refine lv_iload_n hx hb dX6_save_10 rfl (lv_at hl 1 rfl) ?_
    obtain ⟨q_5, I_6, hc_7, h⟩ := clP_e h
    refine r_callV (As := [.int a1]) [] X (c6_slotAt l g hG N _ _ _ t0 _ _ hc_7) cal_X6_slotAt (im_X6_slotAt) (se_X6_slotAt) k_465 (tag_lt t0 (by decide)) (by rw [lay, t0]; rfl) rfl rfl ⟨rfl, rfl⟩ ⟨Nat.le_of_ble_eq_true rfl, Nat.le_of_ble_eq_true rfl⟩ hP hS hl.1 rfl (Nat.le_of_ble_eq_true rfl) dX6_save_11 ⟨Nat.zero_le _, Nat.zero_le _⟩ (fun H locs hP hS => ?_)
    obtain ⟨Tq_5, h⟩ := gd_e h
    replace Tq_5 := Classical.not_not.mp Tq_5
    show W p l e rm6_save s m args below meth c H locs 0 0 _ (F0 m 14 ls [.ref (ga g q_5)])
    refine lv_astore_n (lv' := [(2, .ref (ga g q_5)), (0, .ref (ga g k0)), (1, .int a1)]) hx hb dX6_save_14 rfl hl (by decide) rfl (fun ls hl => ?_)
    refine lv_aload_n hx hb dX6_save_15 rfl (lv_at hl 0 rfl) ?_
    refine g3_0 X hP Tq_5 k_123 dX6_save_16 ?_
    refine lv_aload_n hx hb dX6_save_19 rfl (lv_at hl 1 rfl) ?_
    refine g6_1 X hP t0 k_155 dX6_save_20 ?_
    obtain ⟨I_9, hc_10, h⟩ := clM_e h
    refine r_callV (As := [.ref (ga g (k0 + 3))]) [] X (c5_become l g hG N _ _ _ (g3_0_t Tq_5) (g6_1_t t0) _ hc_10) cal_X5_become (im_X5_become) (se_X5_become) k_414 (tag_lt (g3_0_t Tq_5) (by decide)) (by rw [lay, (g3_0_t Tq_5)]; rfl) rfl rfl ⟨rfl, rfl⟩ ⟨Nat.le_of_ble_eq_true rfl, Nat.le_of_ble_eq_true rfl⟩ hP hS hl.1 rfl (Nat.le_of_ble_eq_true rfl) dX6_save_23 ⟨Nat.zero_le _, Nat.zero_le _⟩ (fun H locs hP hS => ?_)
    show W p l e rm6_save s m args below meth c H locs 0 0 _ (F0 m 26 ls [])
    refine lv_aload_n hx hb dX6_save_26 rfl (lv_at hl 0 rfl) ?_
    refine lv_iconst (v := (1 : Int32)) hx hb dX6_save_27 (by decide +kernel) ?_
    obtain ⟨I_11, eI_11, h⟩ := letM_e h
    refine p3_1 X hP hS Tq_5 k_124 eI_11 ⟨rfl, rfl⟩ dX6_save_28 (fun H locs hP hS => ?_)
    refine lv_aload_n hx hb dX6_save_31 rfl (lv_at hl 1 rfl) ?_
    refine g6_1 X hP t0 k_155 dX6_save_32 ?_
    refine g5_5 X hP (g6_1_t t0) k_60 dX6_save_35 ?_
    exact r_iret X hr hlk hP hS dX6_save_38 h
  · replace h := ifp c_4 h
    refine lv_iconst (v := (-1 : Int32)) hx hb dX6_save_7 (by decide +kernel) ?_
    exact r_iret X hr hlk hP hS dX6_save_8 h
abbrev rm6_restore : Room := { frames := 1, cells := 0, slots := 0, locals := 22 }
def f6_restore (N : Nat) (I : Mem) (k0 : Nat) (a1 : Int32) : Option (Int32 × Mem) :=
    clP (f6_isSlot N I a1) (fun (q_1 : Int32) (I_2 : Mem) =>
    if q_1 = (0 : Int32) then
    some ((-1 : Int32), I_2)
    else
    clP (f6_slotAt N I_2 k0 a1) (fun (q_5 : Nat) (I_6 : Mem) =>
    if ¬ tag q_5 = 2 then none else
    if (I_6 q_5 1) = (0 : Int32) then
    some ((-3 : Int32), I_6)
    else
    clM (f5_become N I_6 (k0 + 3) (q_5 + 1)) (fun I_10 : Mem =>
    clM (f0_forget N I_10 (k0 + 11)) (fun I_13 : Mem =>
    some ((I_13 (k0 + 3) 5), I_13)))))
set_option maxHeartbeats 4000000 in
set_option maxRecDepth 100000 in
theorem c6_restore (l : Launch) (g : GG) (hG : Apart g NT) (N : Nat) (I : Mem) (k0 : Nat) (a1 : Int32) (t0 : tag k0 = 5) (r0 : Int32) (I0 : Mem) (h : f6_restore N I k0 a1 = some (r0, I0)) : Mc l g yX6_restore cX6_restore 3 (some .int) rm6_restore I [.ref (ga g k0), .int a1] (some (.int r0)) I0 := by
  refine Mc.of hG (by decide +kernel) (Nat.le_of_ble_eq_true rfl) ?_
  intro p e s m args below meth c ls X hr hlk hP hS hl
  have X : Cx g p s m args c cX6_restore RX6 3 := X
  have hx := X.hx
  have hb := X.hb
  have hl : lv_has ls 3 [(0, .ref (ga g k0)), (1, .int a1)] := hl
  have locs : List Loc := []
  unfold f6_restore at h
  refine lv_iload_n hx hb dX6_restore_0 rfl (lv_at hl 1 rfl) ?_
  obtain ⟨q_1, I_2, hc_3, h⟩ := clP_e h
  refine r_callS (As := [.int a1]) [] X (c6_isSlot l g hG N _ _ _ _ hc_3) cal_X6_isSlot (sc_X6_isSlot) k_462 rfl ⟨rfl, rfl⟩ ⟨Nat.le_of_ble_eq_true rfl, Nat.le_of_ble_eq_true rfl⟩ hP hS hl.1 rfl (Nat.le_of_ble_eq_true rfl) dX6_restore_1 ⟨Nat.zero_le _, Nat.zero_le _⟩ (fun H locs hP hS => ?_)
  show W p l e rm6_restore s m args below meth c H locs 0 0 _ (F0 m 4 ls [.int q_1])
  refine lv_if_ne (tgt := 9) hx hb dX6_restore_4 (by decide) (fun c_4 => ?_) (fun c_4 => ?_)
  · replace h := ifn c_4 h
    refine lv_aload_n hx hb dX6_restore_9 rfl (lv_at hl 0 rfl) ?_
    refine lv_iload_n hx hb dX6_restore_10 rfl (lv_at hl 1 rfl) ?_
    obtain ⟨q_5, I_6, hc_7, h⟩ := clP_e h
    refine r_callV (As := [.int a1]) [] X (c6_slotAt l g hG N _ _ _ t0 _ _ hc_7) cal_X6_slotAt (im_X6_slotAt) (se_X6_slotAt) k_465 (tag_lt t0 (by decide)) (by rw [lay, t0]; rfl) rfl rfl ⟨rfl, rfl⟩ ⟨Nat.le_of_ble_eq_true rfl, Nat.le_of_ble_eq_true rfl⟩ hP hS hl.1 rfl (Nat.le_of_ble_eq_true rfl) dX6_restore_11 ⟨Nat.zero_le _, Nat.zero_le _⟩ (fun H locs hP hS => ?_)
    obtain ⟨Tq_5, h⟩ := gd_e h
    replace Tq_5 := Classical.not_not.mp Tq_5
    show W p l e rm6_restore s m args below meth c H locs 0 0 _ (F0 m 14 ls [.ref (ga g q_5)])
    refine lv_astore_n (lv' := [(2, .ref (ga g q_5)), (0, .ref (ga g k0)), (1, .int a1)]) hx hb dX6_restore_14 rfl hl (by decide) rfl (fun ls hl => ?_)
    refine lv_aload_n hx hb dX6_restore_15 rfl (lv_at hl 0 rfl) ?_
    refine g3_1 X hP Tq_5 k_124 dX6_restore_16 ?_
    refine lv_if_ne (tgt := 25) hx hb dX6_restore_19 (by decide) (fun c_8 => ?_) (fun c_8 => ?_)
    · replace h := ifn c_8 h
      refine lv_aload_n hx hb dX6_restore_25 rfl (lv_at hl 1 rfl) ?_
      refine g6_1 X hP t0 k_155 dX6_restore_26 ?_
      refine lv_aload_n hx hb dX6_restore_29 rfl (lv_at hl 0 rfl) ?_
      refine g3_0 X hP Tq_5 k_123 dX6_restore_30 ?_
      obtain ⟨I_10, hc_11, h⟩ := clM_e h
      refine r_callV (As := [.ref (ga g (q_5 + 1))]) [] X (c5_become l g hG N _ _ _ (g6_1_t t0) (g3_0_t Tq_5) _ hc_11) cal_X5_become (im_X5_become) (se_X5_become) k_414 (tag_lt (g6_1_t t0) (by decide)) (by rw [lay, (g6_1_t t0)]; rfl) rfl rfl ⟨rfl, rfl⟩ ⟨Nat.le_of_ble_eq_true rfl, Nat.le_of_ble_eq_true rfl⟩ hP hS hl.1 rfl (Nat.le_of_ble_eq_true rfl) dX6_restore_33 ⟨Nat.zero_le _, Nat.zero_le _⟩ (fun H locs hP hS => ?_)
      show W p l e rm6_restore s m args below meth c H locs 0 0 _ (F0 m 36 ls [])
      refine lv_aload_n hx hb dX6_restore_36 rfl (lv_at hl 1 rfl) ?_
      refine g6_3 X hP t0 k_157 dX6_restore_37 ?_
      obtain ⟨I_13, hc_14, h⟩ := clM_e h
      refine r_callV (As := []) [] X (c0_forget l g hG N _ _ (g6_3_t t0) _ hc_14) cal_X0_forget (im_X0_forget) (se_X0_forget) k_473 (tag_lt (g6_3_t t0) (by decide)) (by rw [lay, (g6_3_t t0)]; rfl) rfl rfl ⟨rfl, rfl⟩ ⟨Nat.le_of_ble_eq_true rfl, Nat.le_of_ble_eq_true rfl⟩ hP hS hl.1 rfl (Nat.le_of_ble_eq_true rfl) dX6_restore_40 ⟨Nat.zero_le _, Nat.zero_le _⟩ (fun H locs hP hS => ?_)
      show W p l e rm6_restore s m args below meth c H locs 0 0 _ (F0 m 43 ls [])
      refine lv_aload_n hx hb dX6_restore_43 rfl (lv_at hl 1 rfl) ?_
      refine g6_1 X hP t0 k_155 dX6_restore_44 ?_
      refine g5_5 X hP (g6_1_t t0) k_60 dX6_restore_47 ?_
      exact r_iret X hr hlk hP hS dX6_restore_50 h
    · replace h := ifp c_8 h
      refine lv_bipush (v := (-3 : Int32)) hx hb dX6_restore_22 (by decide +kernel) ?_
      exact r_iret X hr hlk hP hS dX6_restore_24 h
  · replace h := ifp c_4 h
    refine lv_iconst (v := (-1 : Int32)) hx hb dX6_restore_7 (by decide +kernel) ?_
    exact r_iret X hr hlk hP hS dX6_restore_8 h
end WALKS
