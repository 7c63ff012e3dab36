section WALKS
variable {p : Program} {l : Launch} {e : Env} {s : State} {m : MethodId} {args : Array Value} {below : List Frame} {meth : Method} {c : Code} {g : GG}
abbrev rmL_cell : Room := { frames := 0, cells := 0, slots := 0, locals := 0 }
def fL_cell (N : Nat) (I : Mem) (xs : Nat → Int32) (L : Nat) (a1 : Int32) : Option (Int32 × Mem) :=
    if (Int32.ofNat L) ≤ a1 then
    some (((((15566003 : Int32) * a1) + (10067 : Int32)) &&& (2147483647 : Int32)), I)
    else
    if (a1 < (0 : Int32) ∨ L ≤ a1.toNatClampNeg) then none else
    some (((xs a1.toNatClampNeg) &&& (2147483647 : Int32)), I)
set_option maxHeartbeats 4000000 in
set_option maxRecDepth 100000 in
theorem ccL_cell (l : Launch) (g : GG) (hG : Apart g NT) (N : Nat) (I : Mem) (a1 : Int32) (r0 : Int32) (I0 : Mem) (h : fL_cell N I (gX g) (gL g) a1 = some (r0, I0)) : Mc l g yL_cell cL_cell 2 (some .int) rmL_cell I [.ref (gB g), .int a1] (some (.int r0)) I0 := by
  refine Mc.of hG (by decide +kernel) (Nat.le_of_ble_eq_true rfl) ?_
  intro p e s m args below meth c ls X hr hlk hP hS hl
  have X : Cx g p s m args c cL_cell RL 2 := X
  have hx := X.hx
  have hb := X.hb
  have hl : lv_has ls 2 [(0, .ref (gB g)), (1, .int a1)] := hl
  have locs : List Loc := []
  unfold fL_cell at h
  refine lv_iload_n hx hb dL_cell_0 rfl (lv_at hl 1 rfl) ?_
  refine lv_aload_n hx hb dL_cell_1 rfl (lv_at hl 0 rfl) ?_
  refine va_slen hx hb X.hY.2.2.2.2.2.2.2.1 X.hY.2.2.2.2.2.2.2.2.1 X.hY.2.2.2.2.2.2.2.2.2 hS dL_cell_2 ?_
  refine lv_icmp_ge (tgt := 12) hx hb dL_cell_3 (by decide) (fun c_1 => ?_) (fun c_1 => ?_)
  · replace h := ifp c_1 h
    refine lv_ldc (v := (15566003 : Int32)) hx hb X.ow (X.hts _ k_179) dL_cell_12 ?_
    refine lv_iload_n hx hb dL_cell_14 rfl (lv_at hl 1 rfl) ?_
    refine lv_imul hx hb dL_cell_15 ?_
    refine lv_sipush (v := (10067 : Int32)) hx hb dL_cell_16 (by decide +kernel) ?_
    refine lv_iadd hx hb dL_cell_19 ?_
    refine lv_ldc (v := (2147483647 : Int32)) hx hb X.ow (X.hts _ k_180) dL_cell_20 ?_
    refine lv_iand hx hb dL_cell_22 ?_
    exact r_iret X hr hlk hP hS dL_cell_23 h
  · replace h := ifn c_1 h
    refine lv_aload_n hx hb dL_cell_6 rfl (lv_at hl 0 rfl) ?_
    refine lv_iload_n hx hb dL_cell_7 rfl (lv_at hl 1 rfl) ?_
    obtain ⟨g_2, h⟩ := gd_e h
    refine va_sld hx hb X.hY.2.2.2.2.2.2.2.1 X.hY.2.2.2.2.2.2.2.2.1 X.hY.2.2.2.2.2.2.2.2.2 hS g_2 dL_cell_8 ?_
    refine lv_goto (tgt := 20) hx hb dL_cell_9 (by decide) ?_
    refine lv_ldc (v := (2147483647 : Int32)) hx hb X.ow (X.hts _ k_180) dL_cell_20 ?_
    refine lv_iand hx hb dL_cell_22 ?_
    exact r_iret X hr hlk hP hS dL_cell_23 h
abbrev rmL_errors : Room := { frames := 7, cells := 0, slots := 0, locals := 172 }
def fL_errors_519 (N : Nat) (k0 : Nat) (I : Mem) (v1 : Int32) (v2 : Int32) : Option (Int32 × Mem) :=
    if v2 = (0 : Int32) then
    some ((0 : Int32), I)
    else
    if v1 < (8 : Int32) then
    some ((1 : Int32), I)
    else
    clP (f6_addMove N I k0 (1 : Int32) (0 : Int32)) (fun (q_15 : Int32) (I_16 : Mem) =>
    if q_15 = (-4 : Int32) then
    clP (f6_addWait N I_16 k0 (1 : Int32)) (fun (q_19 : Int32) (I_20 : Mem) =>
    if q_19 = (-4 : Int32) then
    some ((1 : Int32), I_20)
    else
    some ((0 : Int32), I_20))
    else
    some ((0 : Int32), I_16))
def fL_errors_518 (N : Nat) (k0 : Nat) (I : Mem) (v1 : Int32) (s0 : Int32) : Option (Int32 × Mem) :=
    fL_errors_519 N k0 I v1 s0
def fL_errors_517 (N : Nat) (k0 : Nat) (I : Mem) (v1 : Int32) : Option (Int32 × Mem) :=
    fL_errors_518 N k0 I v1 (0 : Int32)
def fL_errors_481 (N : Nat) (k0 : Nat) (I : Mem) (v1 : Int32) (s0 : Int32) : Option (Int32 × Mem) :=
    fL_errors_519 N k0 I v1 s0
def fL_errors_480 (N : Nat) (k0 : Nat) (I : Mem) (v1 : Int32) : Option (Int32 × Mem) :=
    fL_errors_481 N k0 I v1 (0 : Int32)
def fL_errors_476 (N : Nat) (k0 : Nat) (I : Mem) (v1 : Int32) : Option (Int32 × Mem) :=
    fL_errors_481 N k0 I v1 (1 : Int32)
def fL_errors_423 (N : Nat) (k0 : Nat) (I : Mem) (v1 : Int32) (s0 : Int32) : Option (Int32 × Mem) :=
    clP (f6_rampIndex N I k0) (fun (q_8 : Int32) (I_9 : Mem) =>
    if q_8 = (-9 : Int32) then
    if s0 = (0 : Int32) then
    fL_errors_480 N k0 I_9 v1
    else
    clP (f6_stop N I_9 k0) (fun (q_33 : Int32) (I_34 : Mem) =>
    if q_33 = (-3 : Int32) then
    if (0 : Int32) < v1 then
    fL_errors_476 N k0 I_34 v1
    else
    clP (f6_step N I_34 k0) (fun (q_38 : Int32) (I_39 : Mem) =>
    if q_38 = (-3 : Int32) then
    clP (f6_run N I_39 k0 (5 : Int32)) (fun (q_42 : Int32) (I_43 : Mem) =>
    if q_42 = (-3 : Int32) then
    clP (f6_ticksLeft N I_43 k0) (fun (q_46 : Int32) (I_47 : Mem) =>
    if q_46 = (0 : Int32) then
    fL_errors_476 N k0 I_47 v1
    else
    fL_errors_480 N k0 I_47 v1)
    else
    fL_errors_480 N k0 I_43 v1)
    else
    fL_errors_480 N k0 I_39 v1)
    else
    fL_errors_480 N k0 I_34 v1)
    else
    if s0 = (0 : Int32) then
    fL_errors_517 N k0 I_9 v1
    else
    clP (f6_setAcceleration N I_9 k0 (5 : Int32)) (fun (q_23 : Int32) (I_24 : Mem) =>
    if q_23 = (-3 : Int32) then
    clP (f6_removeItem N I_24 k0 (0 : Int32)) (fun (q_27 : Int32) (I_28 : Mem) =>
    if q_27 = (-3 : Int32) then
    if v1 ≤ (0 : Int32) then
    fL_errors_517 N k0 I_28 v1
    else
    fL_errors_518 N k0 I_28 v1 (1 : Int32)
    else
    fL_errors_517 N k0 I_28 v1)
    else
    fL_errors_517 N k0 I_24 v1))
def fL_errors_422 (N : Nat) (k0 : Nat) (I : Mem) (v1 : Int32) : Option (Int32 × Mem) :=
    fL_errors_423 N k0 I v1 (0 : Int32)
def fL_errors (N : Nat) (I : Mem) (k0 : Nat) : Option (Int32 × Mem) :=
    clP (f6_queueLength N I k0) (fun (q_1 : Int32) (I_2 : Mem) =>
    clP (f6_append N I_2 k0 (256 : Int32)) (fun (q_4 : Int32) (I_5 : Mem) =>
    if q_4 = (-2 : Int32) then
    clP (f6_append N I_5 k0 (-1 : Int32)) (fun (q_50 : Int32) (I_51 : Mem) =>
    if q_50 = (-2 : Int32) then
    clP (f6_position N I_51 k0 (2 : Int32)) (fun (q_54 : Int32) (I_55 : Mem) =>
    if q_54 = (-1 : Int32) then
    clP (f6_position N I_55 k0 (-1 : Int32)) (fun (q_58 : Int32) (I_59 : Mem) =>
    if q_58 = (-1 : Int32) then
    clP (f6_itemAt N I_59 k0 q_1) (fun (q_62 : Int32) (I_63 : Mem) =>
    if q_62 = (-1 : Int32) then
    clP (f6_itemAt N I_63 k0 (-1 : Int32)) (fun (q_66 : Int32) (I_67 : Mem) =>
    if q_66 = (-1 : Int32) then
    clP (f6_interval N I_67 k0 (1000 : Int32)) (fun (q_70 : Int32) (I_71 : Mem) =>
    if q_70 = (-2 : Int32) then
    clP (f6_interval N I_71 k0 (-1 : Int32)) (fun (q_74 : Int32) (I_75 : Mem) =>
    if q_74 = (-2 : Int32) then
    clP (f6_approximateInterval N I_75 k0 (1000 : Int32)) (fun (q_78 : Int32) (I_79 : Mem) =>
    if q_78 = (-2 : Int32) then
    clP (f6_setAcceleration N I_79 k0 (0 : Int32)) (fun (q_82 : Int32) (I_83 : Mem) =>
    if q_82 = (-2 : Int32) then
    clP (f6_setAcceleration N I_83 k0 (1000 : Int32)) (fun (q_86 : Int32) (I_87 : Mem) =>
    if q_86 = (-2 : Int32) then
    clP (f6_setSpeedLimit N I_87 k0 (0 : Int32)) (fun (q_90 : Int32) (I_91 : Mem) =>
    if q_90 = (-2 : Int32) then
    clP (f6_setSpeedLimit N I_91 k0 (1000 : Int32)) (fun (q_94 : Int32) (I_95 : Mem) =>
    if q_94 = (-2 : Int32) then
    clP (f6_addMove N I_95 k0 (0 : Int32) (0 : Int32)) (fun (q_98 : Int32) (I_99 : Mem) =>
    if q_98 = (-2 : Int32) then
    clP (f6_addMove N I_99 k0 (1000 : Int32) (1 : Int32)) (fun (q_102 : Int32) (I_103 : Mem) =>
    if q_102 = (-2 : Int32) then
    clP (f6_addMove N I_103 k0 (1 : Int32) (-1000 : Int32)) (fun (q_106 : Int32) (I_107 : Mem) =>
    if q_106 = (-2 : Int32) then
    clP (f6_addWait N I_107 k0 (0 : Int32)) (fun (q_110 : Int32) (I_111 : Mem) =>
    if q_110 = (-2 : Int32) then
    clP (f6_addWait N I_111 k0 (10000 : Int32)) (fun (q_114 : Int32) (I_115 : Mem) =>
    if q_114 = (-2 : Int32) then
    clP (f6_run N I_115 k0 (0 : Int32)) (fun (q_118 : Int32) (I_119 : Mem) =>
    if q_118 = (-2 : Int32) then
    clP (f6_run N I_119 k0 (100000 : Int32)) (fun (q_122 : Int32) (I_123 : Mem) =>
    if q_122 = (-2 : Int32) then
    clP (f6_removeItem N I_123 k0 q_1) (fun (q_126 : Int32) (I_127 : Mem) =>
    if q_126 = (-1 : Int32) then
    clP (f6_moveTicks N I_127 k0 (0 : Int32)) (fun (q_130 : Int32) (I_131 : Mem) =>
    if q_130 = (-2 : Int32) then
    clP (f6_moveTicks N I_131 k0 (1000 : Int32)) (fun (q_134 : Int32) (I_135 : Mem) =>
    if q_134 = (-2 : Int32) then
    clP (f6_positionAfter N I_135 k0 (2 : Int32) (-1 : Int32)) (fun (q_138 : Int32) (I_139 : Mem) =>
    if q_138 = (-1 : Int32) then
    clP (f6_positionAfter N I_139 k0 (0 : Int32) (-1 : Int32)) (fun (q_142 : Int32) (I_143 : Mem) =>
    if q_142 = (-2 : Int32) then
    clP (f6_positionAfter N I_143 k0 (1 : Int32) (100000 : Int32)) (fun (q_146 : Int32) (I_147 : Mem) =>
    if q_146 = (-2 : Int32) then
    clP (f6_leastAcceleration N I_147 k0 (0 : Int32) (1 : Int32)) (fun (q_150 : Int32) (I_151 : Mem) =>
    if q_150 = (-2 : Int32) then
    clP (f6_leastAcceleration N I_151 k0 (1 : Int32) (0 : Int32)) (fun (q_154 : Int32) (I_155 : Mem) =>
    if q_154 = (-2 : Int32) then
    clP (f6_greatestLength N I_155 k0 (0 : Int32)) (fun (q_158 : Int32) (I_159 : Mem) =>
    if q_158 = (-2 : Int32) then
    clP (f6_greatestLength N I_159 k0 (100000 : Int32)) (fun (q_162 : Int32) (I_163 : Mem) =>
    if q_162 = (-2 : Int32) then
    clP (f6_runScript N I_163 k0 (0 : Int32) (0 : Int64)) (fun (q_166 : Int32) (I_167 : Mem) =>
    if q_166 = (-2 : Int32) then
    clP (f6_runScript N I_167 k0 (5 : Int32) (0 : Int64)) (fun (q_170 : Int32) (I_171 : Mem) =>
    if q_170 = (-2 : Int32) then
    clP (f6_runScript N I_171 k0 (1 : Int32) (10000 : Int64)) (fun (q_174 : Int32) (I_175 : Mem) =>
    if q_174 = (-2 : Int32) then
    clP (f6_runScript N I_175 k0 (1 : Int32) (-1 : Int64)) (fun (q_178 : Int32) (I_179 : Mem) =>
    if q_178 = (-2 : Int32) then
    clP (f6_randomSpeeds N I_179 k0 (1 : Int64) (0 : Int32)) (fun (q_182 : Int32) (I_183 : Mem) =>
    if q_182 = (-2 : Int32) then
    clP (f6_randomSpeeds N I_183 k0 (1 : Int64) (501 : Int32)) (fun (q_186 : Int32) (I_187 : Mem) =>
    if q_186 = (-2 : Int32) then
    clP (f6_save N I_187 k0 (2 : Int32)) (fun (q_190 : Int32) (I_191 : Mem) =>
    if q_190 = (-1 : Int32) then
    clP (f6_restore N I_191 k0 (-1 : Int32)) (fun (q_194 : Int32) (I_195 : Mem) =>
    if q_194 = (-1 : Int32) then
    fL_errors_423 N k0 I_195 q_1 (1 : Int32)
    else
    fL_errors_422 N k0 I_195 q_1)
    else
    fL_errors_422 N k0 I_191 q_1)
    else
    fL_errors_422 N k0 I_187 q_1)
    else
    fL_errors_422 N k0 I_183 q_1)
    else
    fL_errors_422 N k0 I_179 q_1)
    else
    fL_errors_422 N k0 I_175 q_1)
    else
    fL_errors_422 N k0 I_171 q_1)
    else
    fL_errors_422 N k0 I_167 q_1)
    else
    fL_errors_422 N k0 I_163 q_1)
    else
    fL_errors_422 N k0 I_159 q_1)
    else
    fL_errors_422 N k0 I_155 q_1)
    else
    fL_errors_422 N k0 I_151 q_1)
    else
    fL_errors_422 N k0 I_147 q_1)
    else
    fL_errors_422 N k0 I_143 q_1)
    else
    fL_errors_422 N k0 I_139 q_1)
    else
    fL_errors_422 N k0 I_135 q_1)
    else
    fL_errors_422 N k0 I_131 q_1)
    else
    fL_errors_422 N k0 I_127 q_1)
    else
    fL_errors_422 N k0 I_123 q_1)
    else
    fL_errors_422 N k0 I_119 q_1)
    else
    fL_errors_422 N k0 I_115 q_1)
    else
    fL_errors_422 N k0 I_111 q_1)
    else
    fL_errors_422 N k0 I_107 q_1)
    else
    fL_errors_422 N k0 I_103 q_1)
    else
    fL_errors_422 N k0 I_99 q_1)
    else
    fL_errors_422 N k0 I_95 q_1)
    else
    fL_errors_422 N k0 I_91 q_1)
    else
    fL_errors_422 N k0 I_87 q_1)
    else
    fL_errors_422 N k0 I_83 q_1)
    else
    fL_errors_422 N k0 I_79 q_1)
    else
    fL_errors_422 N k0 I_75 q_1)
    else
    fL_errors_422 N k0 I_71 q_1)
    else
    fL_errors_422 N k0 I_67 q_1)
    else
    fL_errors_422 N k0 I_63 q_1)
    else
    fL_errors_422 N k0 I_59 q_1)
    else
    fL_errors_422 N k0 I_55 q_1)
    else
    fL_errors_422 N k0 I_51 q_1)
    else
    fL_errors_422 N k0 I_5 q_1))
set_option maxHeartbeats 4000000 in
set_option maxRecDepth 100000 in
theorem LL_errors_519 (hG : Apart g NT) (N : Nat) (k0 : Nat) (t0 : tag k0 = 5) (X : Cx g p s m args c cL_errors RL 3) (hr : meth.sig.returnType = (some .boolean)) (hlk : meth.locks = false) (r0 : Int32) (I0 : Mem) : ∀ (I : Mem) (v1 : Int32) (v2 : Int32), fL_errors_519 N k0 I v1 v2 = some (r0, I0) → ∀ (H : Heap) (locs : List Loc) (ls : Array Slot), Wp g I H → va_S (gA g) s.heap H locs → lv_has ls 3 [(0, .ref (ga g k0)), (1, .int v1), (2, .int v2)] → W p l e rmL_errors s m args below meth c H locs 0 0 (MQ below (Qg g (some (.int r0)) I0) args s 0 0 (gA g)) (F0 m 519 ls []) := by
  have hx := X.hx
  have hb := X.hb
  intro I v1 v2 h H locs ls hP hS hl
  unfold fL_errors_519 at h
  refine lv_iload_n hx hb dL_errors_519 rfl (lv_at hl 2 rfl) ?_
  refine lv_if_eq (tgt := 554) hx hb dL_errors_520 (by decide) (fun c_13 => ?_) (fun c_13 => ?_)
  · replace h := ifp c_13 h
    refine lv_iconst (v := (0 : Int32)) hx hb dL_errors_554 (by decide +kernel) ?_
    exact r_zret X hr hlk hP hS rfl dL_errors_555 h
  · replace h := ifn c_13 h
    refine lv_iload_n hx hb dL_errors_523 rfl (lv_at hl 1 rfl) ?_
    refine lv_bipush (v := (8 : Int32)) hx hb dL_errors_524 (by decide +kernel) ?_
    refine lv_icmp_lt (tgt := 550) hx hb dL_errors_526 (by decide) (fun c_14 => ?_) (fun c_14 => ?_)
    · replace h := ifp c_14 h
      refine lv_iconst (v := (1 : Int32)) hx hb dL_errors_550 (by decide +kernel) ?_
      refine lv_goto (tgt := 555) hx hb dL_errors_551 (by decide) ?_
      exact r_zret X hr hlk hP hS rfl dL_errors_555 h
    · replace h := ifn c_14 h
      refine lv_aload_n hx hb dL_errors_529 rfl (lv_at hl 0 rfl) ?_
      refine lv_iconst (v := (1 : Int32)) hx hb dL_errors_530 (by decide +kernel) ?_
      refine lv_iconst (v := (0 : Int32)) hx hb dL_errors_531 (by decide +kernel) ?_
      obtain ⟨q_15, I_16, hc_17, h⟩ := clP_e h
      refine r_callV (As := [.int (1 : Int32), .int (0 : Int32)]) [] X (c6_addMove l g hG N _ _ _ _ t0 _ _ hc_17) cal_X6_addMove (im_X6_addMove) (se_X6_addMove) k_328 (tag_lt t0 (by decide)) (by rw [lay, t0]; rfl) rfl rfl ⟨rfl, rfl⟩ ⟨Nat.le_of_ble_eq_true rfl, Nat.le_of_ble_eq_true rfl⟩ hP hS hl.1 rfl (Nat.le_of_ble_eq_true rfl) dL_errors_532 ⟨Nat.zero_le _, Nat.zero_le _⟩ (fun H locs hP hS => ?_)
      show W p l e rmL_errors s m args below meth c H locs 0 0 _ (F0 m 535 ls [.int q_15])
      refine lv_bipush (v := (-4 : Int32)) hx hb dL_errors_535 (by decide +kernel) ?_
      refine lv_icmp_ne (tgt := 554) hx hb dL_errors_537 (by decide) (fun c_18 => ?_) (fun c_18 => ?_)
      · replace h := ifn c_18 h
        refine lv_iconst (v := (0 : Int32)) hx hb dL_errors_554 (by decide +kernel) ?_
        exact r_zret X hr hlk hP hS rfl dL_errors_555 h
      · replace h := ifp c_18 h
        refine lv_aload_n hx hb dL_errors_540 rfl (lv_at hl 0 rfl) ?_
        refine lv_iconst (v := (1 : Int32)) hx hb dL_errors_541 (by decide +kernel) ?_
        obtain ⟨q_19, I_20, hc_21, h⟩ := clP_e h
        refine r_callV (As := [.int (1 : Int32)]) [] X (c6_addWait l g hG N _ _ _ t0 _ _ hc_21) cal_X6_addWait (im_X6_addWait) (se_X6_addWait) k_344 (tag_lt t0 (by decide)) (by rw [lay, t0]; rfl) rfl rfl ⟨rfl, rfl⟩ ⟨Nat.le_of_ble_eq_true rfl, Nat.le_of_ble_eq_true rfl⟩ hP hS hl.1 rfl (Nat.le_of_ble_eq_true rfl) dL_errors_542 ⟨Nat.zero_le _, Nat.zero_le _⟩ (fun H locs hP hS => ?_)
        show W p l e rmL_errors s m args below meth c H locs 0 0 _ (F0 m 545 ls [.int q_19])
        refine lv_bipush (v := (-4 : Int32)) hx hb dL_errors_545 (by decide +kernel) ?_
        refine lv_icmp_ne (tgt := 554) hx hb dL_errors_547 (by decide) (fun c_22 => ?_) (fun c_22 => ?_)
        · replace h := ifn c_22 h
          refine lv_iconst (v := (0 : Int32)) hx hb dL_errors_554 (by decide +kernel) ?_
          exact r_zret X hr hlk hP hS rfl dL_errors_555 h
        · replace h := ifp c_22 h
          refine lv_iconst (v := (1 : Int32)) hx hb dL_errors_550 (by decide +kernel) ?_
          refine lv_goto (tgt := 555) hx hb dL_errors_551 (by decide) ?_
          exact r_zret X hr hlk hP hS rfl dL_errors_555 h
set_option maxHeartbeats 4000000 in
set_option maxRecDepth 100000 in
theorem LL_errors_518 (hG : Apart g NT) (N : Nat) (k0 : Nat) (t0 : tag k0 = 5) (X : Cx g p s m args c cL_errors RL 3) (hr : meth.sig.returnType = (some .boolean)) (hlk : meth.locks = false) (r0 : Int32) (I0 : Mem) : ∀ (I : Mem) (v1 : Int32) (s0 : Int32), fL_errors_518 N k0 I v1 s0 = some (r0, I0) → ∀ (H : Heap) (locs : List Loc) (ls : Array Slot), Wp g I H → va_S (gA g) s.heap H locs → lv_has ls 3 [(0, .ref (ga g k0)), (1, .int v1)] → W p l e rmL_errors s m args below meth c H locs 0 0 (MQ below (Qg g (some (.int r0)) I0) args s 0 0 (gA g)) (F0 m 518 ls [.int s0]) := by
  have hx := X.hx
  have hb := X.hb
  intro I v1 s0 h H locs ls hP hS hl
  unfold fL_errors_518 at h
  refine lv_istore_n (lv' := [(2, .int s0), (0, .ref (ga g k0)), (1, .int v1)]) hx hb dL_errors_518 rfl hl (by decide) rfl (fun ls hl => ?_)
  exact LL_errors_519 hG N k0 t0 X hr hlk r0 I0 I v1 s0 h _ _ _ hP hS (lv_sub hl [1, 2, 0] rfl)
set_option maxHeartbeats 4000000 in
set_option maxRecDepth 100000 in
theorem LL_errors_517 (hG : Apart g NT) (N : Nat) (k0 : Nat) (t0 : tag k0 = 5) (X : Cx g p s m args c cL_errors RL 3) (hr : meth.sig.returnType = (some .boolean)) (hlk : meth.locks = false) (r0 : Int32) (I0 : Mem) : ∀ (I : Mem) (v1 : Int32), fL_errors_517 N k0 I v1 = some (r0, I0) → ∀ (H : Heap) (locs : List Loc) (ls : Array Slot), Wp g I H → va_S (gA g) s.heap H locs → lv_has ls 3 [(0, .ref (ga g k0)), (1, .int v1)] → W p l e rmL_errors s m args below meth c H locs 0 0 (MQ below (Qg g (some (.int r0)) I0) args s 0 0 (gA g)) (F0 m 517 ls []) := by
  have hx := X.hx
  have hb := X.hb
  intro I v1 h H locs ls hP hS hl
  unfold fL_errors_517 at h
  refine lv_iconst (v := (0 : Int32)) hx hb dL_errors_517 (by decide +kernel) ?_
  exact LL_errors_518 hG N k0 t0 X hr hlk r0 I0 I v1 (0 : Int32) h _ _ _ hP hS (lv_sub hl [0, 1] rfl)
set_option maxHeartbeats 4000000 in
set_option maxRecDepth 100000 in
theorem LL_errors_481 (hG : Apart g NT) (N : Nat) (k0 : Nat) (t0 : tag k0 = 5) (X : Cx g p s m args c cL_errors RL 3) (hr : meth.sig.returnType = (some .boolean)) (hlk : meth.locks = false) (r0 : Int32) (I0 : Mem) : ∀ (I : Mem) (v1 : Int32) (s0 : Int32), fL_errors_481 N k0 I v1 s0 = some (r0, I0) → ∀ (H : Heap) (locs : List Loc) (ls : Array Slot), Wp g I H → va_S (gA g) s.heap H locs → lv_has ls 3 [(0, .ref (ga g k0)), (1, .int v1)] → W p l e rmL_errors s m args below meth c H locs 0 0 (MQ below (Qg g (some (.int r0)) I0) args s 0 0 (gA g)) (F0 m 481 ls [.int s0]) := by
  have hx := X.hx
  have hb := X.hb
  intro I v1 s0 h H locs ls hP hS hl
  unfold fL_errors_481 at h
  refine lv_istore_n (lv' := [(2, .int s0), (0, .ref (ga g k0)), (1, .int v1)]) hx hb dL_errors_481 rfl hl (by decide) rfl (fun ls hl => ?_)
  refine lv_goto (tgt := 519) hx hb dL_errors_482 (by decide) ?_
  exact LL_errors_519 hG N k0 t0 X hr hlk r0 I0 I v1 s0 h _ _ _ hP hS (lv_sub hl [1, 2, 0] rfl)
set_option maxHeartbeats 4000000 in
set_option maxRecDepth 100000 in
theorem LL_errors_480 (hG : Apart g NT) (N : Nat) (k0 : Nat) (t0 : tag k0 = 5) (X : Cx g p s m args c cL_errors RL 3) (hr : meth.sig.returnType = (some .boolean)) (hlk : meth.locks = false) (r0 : Int32) (I0 : Mem) : ∀ (I : Mem) (v1 : Int32), fL_errors_480 N k0 I v1 = some (r0, I0) → ∀ (H : Heap) (locs : List Loc) (ls : Array Slot), Wp g I H → va_S (gA g) s.heap H locs → lv_has ls 3 [(0, .ref (ga g k0)), (1, .int v1)] → W p l e rmL_errors s m args below meth c H locs 0 0 (MQ below (Qg g (some (.int r0)) I0) args s 0 0 (gA g)) (F0 m 480 ls []) := by
  have hx := X.hx
  have hb := X.hb
  intro I v1 h H locs ls hP hS hl
  unfold fL_errors_480 at h
  refine lv_iconst (v := (0 : Int32)) hx hb dL_errors_480 (by decide +kernel) ?_
  exact LL_errors_481 hG N k0 t0 X hr hlk r0 I0 I v1 (0 : Int32) h _ _ _ hP hS (lv_sub hl [0, 1] rfl)
set_option maxHeartbeats 4000000 in
set_option maxRecDepth 100000 in
theorem LL_errors_476 (hG : Apart g NT) (N : Nat) (k0 : Nat) (t0 : tag k0 = 5) (X : Cx g p s m args c cL_errors RL 3) (hr : meth.sig.returnType = (some .boolean)) (hlk : meth.locks = false) (r0 : Int32) (I0 : Mem) : ∀ (I : Mem) (v1 : Int32), fL_errors_476 N k0 I v1 = some (r0, I0) → ∀ (H : Heap) (locs : List Loc) (ls : Array Slot), Wp g I H → va_S (gA g) s.heap H locs → lv_has ls 3 [(0, .ref (ga g k0)), (1, .int v1)] → W p l e rmL_errors s m args below meth c H locs 0 0 (MQ below (Qg g (some (.int r0)) I0) args s 0 0 (gA g)) (F0 m 476 ls []) := by
  have hx := X.hx
  have hb := X.hb
  intro I v1 h H locs ls hP hS hl
  unfold fL_errors_476 at h
  refine lv_iconst (v := (1 : Int32)) hx hb dL_errors_476 (by decide +kernel) ?_
  refine lv_goto (tgt := 481) hx hb dL_errors_477 (by decide) ?_
  exact LL_errors_481 hG N k0 t0 X hr hlk r0 I0 I v1 (1 : Int32) h _ _ _ hP hS (lv_sub hl [0, 1] rfl)
set_option maxHeartbeats 4000000 in
set_option maxRecDepth 100000 in
theorem LL_errors_423 (hG : Apart g NT) (N : Nat) (k0 : Nat) (t0 : tag k0 = 5) (X : Cx g p s m args c cL_errors RL 3) (hr : meth.sig.returnType = (some .boolean)) (hlk : meth.locks = false) (r0 : Int32) (I0 : Mem) : ∀ (I : Mem) (v1 : Int32) (s0 : Int32), fL_errors_423 N k0 I v1 s0 = some (r0, I0) → ∀ (H : Heap) (locs : List Loc) (ls : Array Slot), Wp g I H → va_S (gA g) s.heap H locs → lv_has ls 3 [(0, .ref (ga g k0)), (1, .int v1)] → W p l e rmL_errors s m args below meth c H locs 0 0 (MQ below (Qg g (some (.int r0)) I0) args s 0 0 (gA g)) (F0 m 423 ls [.int s0]) := by
  have hx := X.hx
  have hb := X.hb
  intro I v1 s0 h H locs ls hP hS hl
  unfold fL_errors_423 at h
  refine lv_istore_n (lv' := [(2, .int s0), (0, .ref (ga g k0)), (1, .int v1)]) hx hb dL_errors_423 rfl hl (by decide) rfl (fun ls hl => ?_)
  refine lv_aload_n hx hb dL_errors_424 rfl (lv_at hl 1 rfl) ?_
  obtain ⟨q_8, I_9, hc_10, h⟩ := clP_e h
  refine r_callV (As := []) [] X (c6_rampIndex l g hG N _ _ t0 _ _ hc_10) cal_X6_rampIndex (im_X6_rampIndex) (se_X6_rampIndex) k_477 (tag_lt t0 (by decide)) (by rw [lay, t0]; rfl) rfl rfl ⟨rfl, rfl⟩ ⟨Nat.le_of_ble_eq_true rfl, Nat.le_of_ble_eq_true rfl⟩ hP hS hl.1 rfl (Nat.le_of_ble_eq_true rfl) dL_errors_425 ⟨Nat.zero_le _, Nat.zero_le _⟩ (fun H locs hP hS => ?_)
  show W p l e rmL_errors s m args below meth c H locs 0 0 _ (F0 m 428 ls [.int q_8])
  refine lv_bipush (v := (-9 : Int32)) hx hb dL_errors_428 (by decide +kernel) ?_
  refine lv_icmp_ne (tgt := 485) hx hb dL_errors_430 (by decide) (fun c_11 => ?_) (fun c_11 => ?_)
  · replace h := ifn c_11 h
    refine lv_iload_n hx hb dL_errors_485 rfl (lv_at hl 0 rfl) ?_
    refine lv_if_eq (tgt := 517) hx hb dL_errors_486 (by decide) (fun c_12 => ?_) (fun c_12 => ?_)
    · replace h := ifp c_12 h
      exact LL_errors_517 hG N k0 t0 X hr hlk r0 I0 I_9 v1 h _ _ _ hP hS (lv_sub hl [1, 2] rfl)
    · replace h := ifn c_12 h
      refine lv_aload_n hx hb dL_errors_489 rfl (lv_at hl 1 rfl) ?_
      refine lv_iconst (v := (5 : Int32)) hx hb dL_errors_490 (by decide +kernel) ?_
      obtain ⟨q_23, I_24, hc_25, h⟩ := clP_e h
      refine r_callV (As := [.int (5 : Int32)]) [] X (c6_setAcceleration l g hG N _ _ _ t0 _ _ hc_25) cal_X6_setAcceleration (im_X6_setAcceleration) (se_X6_setAcceleration) k_298 (tag_lt t0 (by decide)) (by rw [lay, t0]; rfl) rfl rfl ⟨rfl, rfl⟩ ⟨Nat.le_of_ble_eq_true rfl, Nat.le_of_ble_eq_true rfl⟩ hP hS hl.1 rfl (Nat.le_of_ble_eq_true rfl) dL_errors_491 ⟨Nat.zero_le _, Nat.zero_le _⟩ (fun H locs hP hS => ?_)
      show W p l e rmL_errors s m args below meth c H locs 0 0 _ (F0 m 494 ls [.int q_23])
      refine lv_bipush (v := (-3 : Int32)) hx hb dL_errors_494 (by decide +kernel) ?_
      refine lv_icmp_ne (tgt := 517) hx hb dL_errors_496 (by decide) (fun c_26 => ?_) (fun c_26 => ?_)
      · replace h := ifn c_26 h
        exact LL_errors_517 hG N k0 t0 X hr hlk r0 I0 I_24 v1 h _ _ _ hP hS (lv_sub hl [1, 2] rfl)
      · replace h := ifp c_26 h
        refine lv_aload_n hx hb dL_errors_499 rfl (lv_at hl 1 rfl) ?_
        refine lv_iconst (v := (0 : Int32)) hx hb dL_errors_500 (by decide +kernel) ?_
        obtain ⟨q_27, I_28, hc_29, h⟩ := clP_e h
        refine r_callV (As := [.int (0 : Int32)]) [] X (c6_removeItem l g hG N _ _ _ t0 _ _ hc_29) cal_X6_removeItem (im_X6_removeItem) (se_X6_removeItem) k_400 (tag_lt t0 (by decide)) (by rw [lay, t0]; rfl) rfl rfl ⟨rfl, rfl⟩ ⟨Nat.le_of_ble_eq_true rfl, Nat.le_of_ble_eq_true rfl⟩ hP hS hl.1 rfl (Nat.le_of_ble_eq_true rfl) dL_errors_501 ⟨Nat.zero_le _, Nat.zero_le _⟩ (fun H locs hP hS => ?_)
        show W p l e rmL_errors s m args below meth c H locs 0 0 _ (F0 m 504 ls [.int q_27])
        refine lv_bipush (v := (-3 : Int32)) hx hb dL_errors_504 (by decide +kernel) ?_
        refine lv_icmp_ne (tgt := 517) hx hb dL_errors_506 (by decide) (fun c_30 => ?_) (fun c_30 => ?_)
        · replace h := ifn c_30 h
          exact LL_errors_517 hG N k0 t0 X hr hlk r0 I0 I_28 v1 h _ _ _ hP hS (lv_sub hl [1, 2] rfl)
        · replace h := ifp c_30 h
          refine lv_iload_n hx hb dL_errors_509 rfl (lv_at hl 2 rfl) ?_
          refine lv_if_le (tgt := 517) hx hb dL_errors_510 (by decide) (fun c_31 => ?_) (fun c_31 => ?_)
          · replace h := ifp c_31 h
            exact LL_errors_517 hG N k0 t0 X hr hlk r0 I0 I_28 v1 h _ _ _ hP hS (lv_sub hl [1, 2] rfl)
          · replace h := ifn c_31 h
            refine lv_iconst (v := (1 : Int32)) hx hb dL_errors_513 (by decide +kernel) ?_
            refine lv_goto (tgt := 518) hx hb dL_errors_514 (by decide) ?_
            exact LL_errors_518 hG N k0 t0 X hr hlk r0 I0 I_28 v1 (1 : Int32) h _ _ _ hP hS (lv_sub hl [1, 2] rfl)
  · replace h := ifp c_11 h
    refine lv_iload_n hx hb dL_errors_433 rfl (lv_at hl 0 rfl) ?_
    refine lv_if_eq (tgt := 480) hx hb dL_errors_434 (by decide) (fun c_32 => ?_) (fun c_32 => ?_)
    · replace h := ifp c_32 h
      exact LL_errors_480 hG N k0 t0 X hr hlk r0 I0 I_9 v1 h _ _ _ hP hS (lv_sub hl [1, 2] rfl)
    · replace h := ifn c_32 h
      refine lv_aload_n hx hb dL_errors_437 rfl (lv_at hl 1 rfl) ?_
      obtain ⟨q_33, I_34, hc_35, h⟩ := clP_e h
      refine r_callV (As := []) [] X (c6_stop l g hG N _ _ t0 _ _ hc_35) cal_X6_stop (im_X6_stop) (se_X6_stop) k_481 (tag_lt t0 (by decide)) (by rw [lay, t0]; rfl) rfl rfl ⟨rfl, rfl⟩ ⟨Nat.le_of_ble_eq_true rfl, Nat.le_of_ble_eq_true rfl⟩ hP hS hl.1 rfl (Nat.le_of_ble_eq_true rfl) dL_errors_438 ⟨Nat.zero_le _, Nat.zero_le _⟩ (fun H locs hP hS => ?_)
      show W p l e rmL_errors s m args below meth c H locs 0 0 _ (F0 m 441 ls [.int q_33])
      refine lv_bipush (v := (-3 : Int32)) hx hb dL_errors_441 (by decide +kernel) ?_
      refine lv_icmp_ne (tgt := 480) hx hb dL_errors_443 (by decide) (fun c_36 => ?_) (fun c_36 => ?_)
      · replace h := ifn c_36 h
        exact LL_errors_480 hG N k0 t0 X hr hlk r0 I0 I_34 v1 h _ _ _ hP hS (lv_sub hl [1, 2] rfl)
      · replace h := ifp c_36 h
        refine lv_iload_n hx hb dL_errors_446 rfl (lv_at hl 2 rfl) ?_
        refine lv_if_gt (tgt := 476) hx hb dL_errors_447 (by decide) (fun c_37 => ?_) (fun c_37 => ?_)
        · replace h := ifp c_37 h
          exact LL_errors_476 hG N k0 t0 X hr hlk r0 I0 I_34 v1 h _ _ _ hP hS (lv_sub hl [1, 2] rfl)
        · replace h := ifn c_37 h
          refine lv_aload_n hx hb dL_errors_450 rfl (lv_at hl 1 rfl) ?_
          obtain ⟨q_38, I_39, hc_40, h⟩ := clP_e h
          refine r_callV (As := []) [] X (c6_step l g hG N _ _ t0 _ _ hc_40) cal_X6_step (im_X6_step) (se_X6_step) k_485 (tag_lt t0 (by decide)) (by rw [lay, t0]; rfl) rfl rfl ⟨rfl, rfl⟩ ⟨Nat.le_of_ble_eq_true rfl, Nat.le_of_ble_eq_true rfl⟩ hP hS hl.1 rfl (Nat.le_of_ble_eq_true rfl) dL_errors_451 ⟨Nat.zero_le _, Nat.zero_le _⟩ (fun H locs hP hS => ?_)
          show W p l e rmL_errors s m args below meth c H locs 0 0 _ (F0 m 454 ls [.int q_38])
          refine lv_bipush (v := (-3 : Int32)) hx hb dL_errors_454 (by decide +kernel) ?_
          refine lv_icmp_ne (tgt := 480) hx hb dL_errors_456 (by decide) (fun c_41 => ?_) (fun c_41 => ?_)
          · replace h := ifn c_41 h
            exact LL_errors_480 hG N k0 t0 X hr hlk r0 I0 I_39 v1 h _ _ _ hP hS (lv_sub hl [1, 2] rfl)
          · replace h := ifp c_41 h
            refine lv_aload_n hx hb dL_errors_459 rfl (lv_at hl 1 rfl) ?_
            refine lv_iconst (v := (5 : Int32)) hx hb dL_errors_460 (by decide +kernel) ?_
            obtain ⟨q_42, I_43, hc_44, h⟩ := clP_e h
            refine r_callV (As := [.int (5 : Int32)]) [] X (c6_run l g hG N _ _ _ t0 _ _ hc_44) cal_X6_run (im_X6_run) (se_X6_run) k_348 (tag_lt t0 (by decide)) (by rw [lay, t0]; rfl) rfl rfl ⟨rfl, rfl⟩ ⟨Nat.le_of_ble_eq_true rfl, Nat.le_of_ble_eq_true rfl⟩ hP hS hl.1 rfl (Nat.le_of_ble_eq_true rfl) dL_errors_461 ⟨Nat.zero_le _, Nat.zero_le _⟩ (fun H locs hP hS => ?_)
            show W p l e rmL_errors s m args below meth c H locs 0 0 _ (F0 m 464 ls [.int q_42])
            refine lv_bipush (v := (-3 : Int32)) hx hb dL_errors_464 (by decide +kernel) ?_
            refine lv_icmp_ne (tgt := 480) hx hb dL_errors_466 (by decide) (fun c_45 => ?_) (fun c_45 => ?_)
            · replace h := ifn c_45 h
              exact LL_errors_480 hG N k0 t0 X hr hlk r0 I0 I_43 v1 h _ _ _ hP hS (lv_sub hl [1, 2] rfl)
            · replace h := ifp c_45 h
              refine lv_aload_n hx hb dL_errors_469 rfl (lv_at hl 1 rfl) ?_
              obtain ⟨q_46, I_47, hc_48, h⟩ := clP_e h
              refine r_callV (As := []) [] X (c6_ticksLeft l g hG N _ _ t0 _ _ hc_48) cal_X6_ticksLeft (im_X6_ticksLeft) (se_X6_ticksLeft) k_489 (tag_lt t0 (by decide)) (by rw [lay, t0]; rfl) rfl rfl ⟨rfl, rfl⟩ ⟨Nat.le_of_ble_eq_true rfl, Nat.le_of_ble_eq_true rfl⟩ hP hS hl.1 rfl (Nat.le_of_ble_eq_true rfl) dL_errors_470 ⟨Nat.zero_le _, Nat.zero_le _⟩ (fun H locs hP hS => ?_)
              show W p l e rmL_errors s m args below meth c H locs 0 0 _ (F0 m 473 ls [.int q_46])
              refine lv_if_ne (tgt := 480) hx hb dL_errors_473 (by decide) (fun c_49 => ?_) (fun c_49 => ?_)
              · replace h := ifn c_49 h
                exact LL_errors_480 hG N k0 t0 X hr hlk r0 I0 I_47 v1 h _ _ _ hP hS (lv_sub hl [1, 2] rfl)
              · replace h := ifp c_49 h
                exact LL_errors_476 hG N k0 t0 X hr hlk r0 I0 I_47 v1 h _ _ _ hP hS (lv_sub hl [1, 2] rfl)
set_option maxHeartbeats 4000000 in
set_option maxRecDepth 100000 in
theorem LL_errors_422 (hG : Apart g NT) (N : Nat) (k0 : Nat) (t0 : tag k0 = 5) (X : Cx g p s m args c cL_errors RL 3) (hr : meth.sig.returnType = (some .boolean)) (hlk : meth.locks = false) (r0 : Int32) (I0 : Mem) : ∀ (I : Mem) (v1 : Int32), fL_errors_422 N k0 I v1 = some (r0, I0) → ∀ (H : Heap) (locs : List Loc) (ls : Array Slot), Wp g I H → va_S (gA g) s.heap H locs → lv_has ls 3 [(0, .ref (ga g k0)), (1, .int v1)] → W p l e rmL_errors s m args below meth c H locs 0 0 (MQ below (Qg g (some (.int r0)) I0) args s 0 0 (gA g)) (F0 m 422 ls []) := by
  have hx := X.hx
  have hb := X.hb
  intro I v1 h H locs ls hP hS hl
  unfold fL_errors_422 at h
  refine lv_iconst (v := (0 : Int32)) hx hb dL_errors_422 (by decide +kernel) ?_
  exact LL_errors_423 hG N k0 t0 X hr hlk r0 I0 I v1 (0 : Int32) h _ _ _ hP hS (lv_sub hl [0, 1] rfl)
set_option maxHeartbeats 4000000 in
set_option maxRecDepth 100000 in
theorem ccL_errors (l : Launch) (g : GG) (hG : Apart g NT) (N : Nat) (I : Mem) (k0 : Nat) (t0 : tag k0 = 5) (r0 : Int32) (I0 : Mem) (h : fL_errors N I k0 = some (r0, I0)) : Mc l g yL_errors cL_errors 3 (some .boolean) rmL_errors I [.ref (ga g k0)] (some (.int r0)) I0 := by
  refine Mc.of hG (by decide +kernel) (Nat.le_of_ble_eq_true rfl) ?_
  intro p e s m args below meth c ls X hr hlk hP hS hl
  have X : Cx g p s m args c cL_errors RL 3 := X
  have hx := X.hx
  have hb := X.hb
  have hl : lv_has ls 3 [(0, .ref (ga g k0))] := hl
  have locs : List Loc := []
  unfold fL_errors at h
  refine lv_aload_n hx hb dL_errors_0 rfl (lv_at hl 0 rfl) ?_
  obtain ⟨q_1, I_2, hc_3, h⟩ := clP_e h
  refine r_callV (As := []) [] X (c6_queueLength l g hG N _ _ t0 _ _ hc_3) cal_X6_queueLength (im_X6_queueLength) (se_X6_queueLength) k_184 (tag_lt t0 (by decide)) (by rw [lay, t0]; rfl) rfl rfl ⟨rfl, rfl⟩ ⟨Nat.le_of_ble_eq_true rfl, Nat.le_of_ble_eq_true rfl⟩ hP hS hl.1 rfl (Nat.le_of_ble_eq_true rfl) dL_errors_1 ⟨Nat.zero_le _, Nat.zero_le _⟩ (fun H locs hP hS => ?_)
  show W p l e rmL_errors s m args below meth c H locs 0 0 _ (F0 m 4 ls [.int q_1])
  refine lv_istore_n (lv' := [(1, .int q_1), (0, .ref (ga g k0))]) hx hb dL_errors_4 rfl hl (by decide) rfl (fun ls hl => ?_)
  refine lv_aload_n hx hb dL_errors_5 rfl (lv_at hl 1 rfl) ?_
  refine lv_sipush (v := (256 : Int32)) hx hb dL_errors_6 (by decide +kernel) ?_
  obtain ⟨q_4, I_5, hc_6, h⟩ := clP_e h
  refine r_callV (As := [.int (256 : Int32)]) [] X (c6_append l g hG N _ _ _ t0 _ _ hc_6) cal_X6_append (im_X6_append) (se_X6_append) k_188 (tag_lt t0 (by decide)) (by rw [lay, t0]; rfl) rfl rfl ⟨rfl, rfl⟩ ⟨Nat.le_of_ble_eq_true rfl, Nat.le_of_ble_eq_true rfl⟩ hP hS hl.1 rfl (Nat.le_of_ble_eq_true rfl) dL_errors_9 ⟨Nat.zero_le _, Nat.zero_le _⟩ (fun H locs hP hS => ?_)
  show W p l e rmL_errors s m args below meth c H locs 0 0 _ (F0 m 12 ls [.int q_4])
  refine lv_bipush (v := (-2 : Int32)) hx hb dL_errors_12 (by decide +kernel) ?_
  refine lv_icmp_ne (tgt := 422) hx hb dL_errors_14 (by decide) (fun c_7 => ?_) (fun c_7 => ?_)
  · replace h := ifn c_7 h
    exact LL_errors_422 hG N k0 t0 X hr hlk r0 I0 I_5 q_1 h _ _ _ hP hS (lv_sub hl [1, 0] rfl)
  · replace h := ifp c_7 h
    refine lv_aload_n hx hb dL_errors_17 rfl (lv_at hl 1 rfl) ?_
    refine lv_iconst (v := (-1 : Int32)) hx hb dL_errors_18 (by decide +kernel) ?_
    obtain ⟨q_50, I_51, hc_52, h⟩ := clP_e h
    refine r_callV (As := [.int (-1 : Int32)]) [] X (c6_append l g hG N _ _ _ t0 _ _ hc_52) cal_X6_append (im_X6_append) (se_X6_append) k_188 (tag_lt t0 (by decide)) (by rw [lay, t0]; rfl) rfl rfl ⟨rfl, rfl⟩ ⟨Nat.le_of_ble_eq_true rfl, Nat.le_of_ble_eq_true rfl⟩ hP hS hl.1 rfl (Nat.le_of_ble_eq_true rfl) dL_errors_19 ⟨Nat.zero_le _, Nat.zero_le _⟩ (fun H locs hP hS => ?_)
    show W p l e rmL_errors s m args below meth c H locs 0 0 _ (F0 m 22 ls [.int q_50])
    refine lv_bipush (v := (-2 : Int32)) hx hb dL_errors_22 (by decide +kernel) ?_
    refine lv_icmp_ne (tgt := 422) hx hb dL_errors_24 (by decide) (fun c_53 => ?_) (fun c_53 => ?_)
    · replace h := ifn c_53 h
      exact LL_errors_422 hG N k0 t0 X hr hlk r0 I0 I_51 q_1 h _ _ _ hP hS (lv_sub hl [1, 0] rfl)
    · replace h := ifp c_53 h
      refine lv_aload_n hx hb dL_errors_27 rfl (lv_at hl 1 rfl) ?_
      refine lv_iconst (v := (2 : Int32)) hx hb dL_errors_28 (by decide +kernel) ?_
      obtain ⟨q_54, I_55, hc_56, h⟩ := clP_e h
      refine r_callV (As := [.int (2 : Int32)]) [] X (c6_position l g hG N _ _ _ t0 _ _ hc_56) cal_X6_position (im_X6_position) (se_X6_position) k_196 (tag_lt t0 (by decide)) (by rw [lay, t0]; rfl) rfl rfl ⟨rfl, rfl⟩ ⟨Nat.le_of_ble_eq_true rfl, Nat.le_of_ble_eq_true rfl⟩ hP hS hl.1 rfl (Nat.le_of_ble_eq_true rfl) dL_errors_29 ⟨Nat.zero_le _, Nat.zero_le _⟩ (fun H locs hP hS => ?_)
      show W p l e rmL_errors s m args below meth c H locs 0 0 _ (F0 m 32 ls [.int q_54])
      refine lv_iconst (v := (-1 : Int32)) hx hb dL_errors_32 (by decide +kernel) ?_
      refine lv_icmp_ne (tgt := 422) hx hb dL_errors_33 (by decide) (fun c_57 => ?_) (fun c_57 => ?_)
      · replace h := ifn c_57 h
        exact LL_errors_422 hG N k0 t0 X hr hlk r0 I0 I_55 q_1 h _ _ _ hP hS (lv_sub hl [1, 0] rfl)
      · replace h := ifp c_57 h
        refine lv_aload_n hx hb dL_errors_36 rfl (lv_at hl 1 rfl) ?_
        refine lv_iconst (v := (-1 : Int32)) hx hb dL_errors_37 (by decide +kernel) ?_
        obtain ⟨q_58, I_59, hc_60, h⟩ := clP_e h
        refine r_callV (As := [.int (-1 : Int32)]) [] X (c6_position l g hG N _ _ _ t0 _ _ hc_60) cal_X6_position (im_X6_position) (se_X6_position) k_196 (tag_lt t0 (by decide)) (by rw [lay, t0]; rfl) rfl rfl ⟨rfl, rfl⟩ ⟨Nat.le_of_ble_eq_true rfl, Nat.le_of_ble_eq_true rfl⟩ hP hS hl.1 rfl (Nat.le_of_ble_eq_true rfl) dL_errors_38 ⟨Nat.zero_le _, Nat.zero_le _⟩ (fun H locs hP hS => ?_)
        show W p l e rmL_errors s m args below meth c H locs 0 0 _ (F0 m 41 ls [.int q_58])
        refine lv_iconst (v := (-1 : Int32)) hx hb dL_errors_41 (by decide +kernel) ?_
        refine lv_icmp_ne (tgt := 422) hx hb dL_errors_42 (by decide) (fun c_61 => ?_) (fun c_61 => ?_)
        · replace h := ifn c_61 h
          exact LL_errors_422 hG N k0 t0 X hr hlk r0 I0 I_59 q_1 h _ _ _ hP hS (lv_sub hl [1, 0] rfl)
        · replace h := ifp c_61 h
          refine lv_aload_n hx hb dL_errors_45 rfl (lv_at hl 1 rfl) ?_
          refine lv_iload_n hx hb dL_errors_46 rfl (lv_at hl 0 rfl) ?_
          obtain ⟨q_62, I_63, hc_64, h⟩ := clP_e h
          refine r_callV (As := [.int q_1]) [] X (c6_itemAt l g hG N _ _ _ t0 _ _ hc_64) cal_X6_itemAt (im_X6_itemAt) (se_X6_itemAt) k_208 (tag_lt t0 (by decide)) (by rw [lay, t0]; rfl) rfl rfl ⟨rfl, rfl⟩ ⟨Nat.le_of_ble_eq_true rfl, Nat.le_of_ble_eq_true rfl⟩ hP hS hl.1 rfl (Nat.le_of_ble_eq_true rfl) dL_errors_47 ⟨Nat.zero_le _, Nat.zero_le _⟩ (fun H locs hP hS => ?_)
          show W p l e rmL_errors s m args below meth c H locs 0 0 _ (F0 m 50 ls [.int q_62])
          refine lv_iconst (v := (-1 : Int32)) hx hb dL_errors_50 (by decide +kernel) ?_
          refine lv_icmp_ne (tgt := 422) hx hb dL_errors_51 (by decide) (fun c_65 => ?_) (fun c_65 => ?_)
          · replace h := ifn c_65 h
            exact LL_errors_422 hG N k0 t0 X hr hlk r0 I0 I_63 q_1 h _ _ _ hP hS (lv_sub hl [1, 0] rfl)
          · replace h := ifp c_65 h
            refine lv_aload_n hx hb dL_errors_54 rfl (lv_at hl 1 rfl) ?_
            refine lv_iconst (v := (-1 : Int32)) hx hb dL_errors_55 (by decide +kernel) ?_
            obtain ⟨q_66, I_67, hc_68, h⟩ := clP_e h
            refine r_callV (As := [.int (-1 : Int32)]) [] X (c6_itemAt l g hG N _ _ _ t0 _ _ hc_68) cal_X6_itemAt (im_X6_itemAt) (se_X6_itemAt) k_208 (tag_lt t0 (by decide)) (by rw [lay, t0]; rfl) rfl rfl ⟨rfl, rfl⟩ ⟨Nat.le_of_ble_eq_true rfl, Nat.le_of_ble_eq_true rfl⟩ hP hS hl.1 rfl (Nat.le_of_ble_eq_true rfl) dL_errors_56 ⟨Nat.zero_le _, Nat.zero_le _⟩ (fun H locs hP hS => ?_)
            show W p l e rmL_errors s m args below meth c H locs 0 0 _ (F0 m 59 ls [.int q_66])
            refine lv_iconst (v := (-1 : Int32)) hx hb dL_errors_59 (by decide +kernel) ?_
            refine lv_icmp_ne (tgt := 422) hx hb dL_errors_60 (by decide) (fun c_69 => ?_) (fun c_69 => ?_)
            · replace h := ifn c_69 h
              exact LL_errors_422 hG N k0 t0 X hr hlk r0 I0 I_67 q_1 h _ _ _ hP hS (lv_sub hl [1, 0] rfl)
            · replace h := ifp c_69 h
              refine lv_aload_n hx hb dL_errors_63 rfl (lv_at hl 1 rfl) ?_
              refine lv_sipush (v := (1000 : Int32)) hx hb dL_errors_64 (by decide +kernel) ?_
              obtain ⟨q_70, I_71, hc_72, h⟩ := clP_e h
              refine r_callV (As := [.int (1000 : Int32)]) [] X (c6_interval l g hG N _ _ _ t0 _ _ hc_72) cal_X6_interval (im_X6_interval) (se_X6_interval) k_239 (tag_lt t0 (by decide)) (by rw [lay, t0]; rfl) rfl rfl ⟨rfl, rfl⟩ ⟨Nat.le_of_ble_eq_true rfl, Nat.le_of_ble_eq_true rfl⟩ hP hS hl.1 rfl (Nat.le_of_ble_eq_true rfl) dL_errors_67 ⟨Nat.zero_le _, Nat.zero_le _⟩ (fun H locs hP hS => ?_)
              show W p l e rmL_errors s m args below meth c H locs 0 0 _ (F0 m 70 ls [.int q_70])
              refine lv_bipush (v := (-2 : Int32)) hx hb dL_errors_70 (by decide +kernel) ?_
              refine lv_icmp_ne (tgt := 422) hx hb dL_errors_72 (by decide) (fun c_73 => ?_) (fun c_73 => ?_)
              · replace h := ifn c_73 h
                exact LL_errors_422 hG N k0 t0 X hr hlk r0 I0 I_71 q_1 h _ _ _ hP hS (lv_sub hl [1, 0] rfl)
              · replace h := ifp c_73 h
                refine lv_aload_n hx hb dL_errors_75 rfl (lv_at hl 1 rfl) ?_
                refine lv_iconst (v := (-1 : Int32)) hx hb dL_errors_76 (by decide +kernel) ?_
                obtain ⟨q_74, I_75, hc_76, h⟩ := clP_e h
                refine r_callV (As := [.int (-1 : Int32)]) [] X (c6_interval l g hG N _ _ _ t0 _ _ hc_76) cal_X6_interval (im_X6_interval) (se_X6_interval) k_239 (tag_lt t0 (by decide)) (by rw [lay, t0]; rfl) rfl rfl ⟨rfl, rfl⟩ ⟨Nat.le_of_ble_eq_true rfl, Nat.le_of_ble_eq_true rfl⟩ hP hS hl.1 rfl (Nat.le_of_ble_eq_true rfl) dL_errors_77 ⟨Nat.zero_le _, Nat.zero_le _⟩ (fun H locs hP hS => ?_)
                show W p l e rmL_errors s m args below meth c H locs 0 0 _ (F0 m 80 ls [.int q_74])
                refine lv_bipush (v := (-2 : Int32)) hx hb dL_errors_80 (by decide +kernel) ?_
                refine lv_icmp_ne (tgt := 422) hx hb dL_errors_82 (by decide) (fun c_77 => ?_) (fun c_77 => ?_)
                · replace h := ifn c_77 h
                  exact LL_errors_422 hG N k0 t0 X hr hlk r0 I0 I_75 q_1 h _ _ _ hP hS (lv_sub hl [1, 0] rfl)
                · replace h := ifp c_77 h
                  refine lv_aload_n hx hb dL_errors_85 rfl (lv_at hl 1 rfl) ?_
                  refine lv_sipush (v := (1000 : Int32)) hx hb dL_errors_86 (by decide +kernel) ?_
                  obtain ⟨q_78, I_79, hc_80, h⟩ := clP_e h
                  refine r_callV (As := [.int (1000 : Int32)]) [] X (c6_approximateInterval l g hG N _ _ _ t0 _ _ hc_80) cal_X6_approximateInterval (im_X6_approximateInterval) (se_X6_approximateInterval) k_290 (tag_lt t0 (by decide)) (by rw [lay, t0]; rfl) rfl rfl ⟨rfl, rfl⟩ ⟨Nat.le_of_ble_eq_true rfl, Nat.le_of_ble_eq_true rfl⟩ hP hS hl.1 rfl (Nat.le_of_ble_eq_true rfl) dL_errors_89 ⟨Nat.zero_le _, Nat.zero_le _⟩ (fun H locs hP hS => ?_)
                  show W p l e rmL_errors s m args below meth c H locs 0 0 _ (F0 m 92 ls [.int q_78])
                  refine lv_bipush (v := (-2 : Int32)) hx hb dL_errors_92 (by decide +kernel) ?_
                  refine lv_icmp_ne (tgt := 422) hx hb dL_errors_94 (by decide) (fun c_81 => ?_) (fun c_81 => ?_)
                  · replace h := ifn c_81 h
                    exact LL_errors_422 hG N k0 t0 X hr hlk r0 I0 I_79 q_1 h _ _ _ hP hS (lv_sub hl [1, 0] rfl)
                  · replace h := ifp c_81 h
                    refine lv_aload_n hx hb dL_errors_97 rfl (lv_at hl 1 rfl) ?_
                    refine lv_iconst (v := (0 : Int32)) hx hb dL_errors_98 (by decide +kernel) ?_
                    obtain ⟨q_82, I_83, hc_84, h⟩ := clP_e h
                    refine r_callV (As := [.int (0 : Int32)]) [] X (c6_setAcceleration l g hG N _ _ _ t0 _ _ hc_84) cal_X6_setAcceleration (im_X6_setAcceleration) (se_X6_setAcceleration) k_298 (tag_lt t0 (by decide)) (by rw [lay, t0]; rfl) rfl rfl ⟨rfl, rfl⟩ ⟨Nat.le_of_ble_eq_true rfl, Nat.le_of_ble_eq_true rfl⟩ hP hS hl.1 rfl (Nat.le_of_ble_eq_true rfl) dL_errors_99 ⟨Nat.zero_le _, Nat.zero_le _⟩ (fun H locs hP hS => ?_)
                    show W p l e rmL_errors s m args below meth c H locs 0 0 _ (F0 m 102 ls [.int q_82])
                    refine lv_bipush (v := (-2 : Int32)) hx hb dL_errors_102 (by decide +kernel) ?_
                    refine lv_icmp_ne (tgt := 422) hx hb dL_errors_104 (by decide) (fun c_85 => ?_) (fun c_85 => ?_)
                    · replace h := ifn c_85 h
                      exact LL_errors_422 hG N k0 t0 X hr hlk r0 I0 I_83 q_1 h _ _ _ hP hS (lv_sub hl [1, 0] rfl)
                    · replace h := ifp c_85 h
                      refine lv_aload_n hx hb dL_errors_107 rfl (lv_at hl 1 rfl) ?_
                      refine lv_sipush (v := (1000 : Int32)) hx hb dL_errors_108 (by decide +kernel) ?_
                      obtain ⟨q_86, I_87, hc_88, h⟩ := clP_e h
                      refine r_callV (As := [.int (1000 : Int32)]) [] X (c6_setAcceleration l g hG N _ _ _ t0 _ _ hc_88) cal_X6_setAcceleration (im_X6_setAcceleration) (se_X6_setAcceleration) k_298 (tag_lt t0 (by decide)) (by rw [lay, t0]; rfl) rfl rfl ⟨rfl, rfl⟩ ⟨Nat.le_of_ble_eq_true rfl, Nat.le_of_ble_eq_true rfl⟩ hP hS hl.1 rfl (Nat.le_of_ble_eq_true rfl) dL_errors_111 ⟨Nat.zero_le _, Nat.zero_le _⟩ (fun H locs hP hS => ?_)
                      show W p l e rmL_errors s m args below meth c H locs 0 0 _ (F0 m 114 ls [.int q_86])
                      refine lv_bipush (v := (-2 : Int32)) hx hb dL_errors_114 (by decide +kernel) ?_
                      refine lv_icmp_ne (tgt := 422) hx hb dL_errors_116 (by decide) (fun c_89 => ?_) (fun c_89 => ?_)
                      · replace h := ifn c_89 h
                        exact LL_errors_422 hG N k0 t0 X hr hlk r0 I0 I_87 q_1 h _ _ _ hP hS (lv_sub hl [1, 0] rfl)
                      · replace h := ifp c_89 h
                        refine lv_aload_n hx hb dL_errors_119 rfl (lv_at hl 1 rfl) ?_
                        refine lv_iconst (v := (0 : Int32)) hx hb dL_errors_120 (by decide +kernel) ?_
                        obtain ⟨q_90, I_91, hc_92, h⟩ := clP_e h
                        refine r_callV (As := [.int (0 : Int32)]) [] X (c6_setSpeedLimit l g hG N _ _ _ t0 _ _ hc_92) cal_X6_setSpeedLimit (im_X6_setSpeedLimit) (se_X6_setSpeedLimit) k_324 (tag_lt t0 (by decide)) (by rw [lay, t0]; rfl) rfl rfl ⟨rfl, rfl⟩ ⟨Nat.le_of_ble_eq_true rfl, Nat.le_of_ble_eq_true rfl⟩ hP hS hl.1 rfl (Nat.le_of_ble_eq_true rfl) dL_errors_121 ⟨Nat.zero_le _, Nat.zero_le _⟩ (fun H locs hP hS => ?_)
                        show W p l e rmL_errors s m args below meth c H locs 0 0 _ (F0 m 124 ls [.int q_90])
                        refine lv_bipush (v := (-2 : Int32)) hx hb dL_errors_124 (by decide +kernel) ?_
                        refine lv_icmp_ne (tgt := 422) hx hb dL_errors_126 (by decide) (fun c_93 => ?_) (fun c_93 => ?_)
                        · replace h := ifn c_93 h
                          exact LL_errors_422 hG N k0 t0 X hr hlk r0 I0 I_91 q_1 h _ _ _ hP hS (lv_sub hl [1, 0] rfl)
                        · replace h := ifp c_93 h
                          refine lv_aload_n hx hb dL_errors_129 rfl (lv_at hl 1 rfl) ?_
                          refine lv_sipush (v := (1000 : Int32)) hx hb dL_errors_130 (by decide +kernel) ?_
                          obtain ⟨q_94, I_95, hc_96, h⟩ := clP_e h
                          refine r_callV (As := [.int (1000 : Int32)]) [] X (c6_setSpeedLimit l g hG N _ _ _ t0 _ _ hc_96) cal_X6_setSpeedLimit (im_X6_setSpeedLimit) (se_X6_setSpeedLimit) k_324 (tag_lt t0 (by decide)) (by rw [lay, t0]; rfl) rfl rfl ⟨rfl, rfl⟩ ⟨Nat.le_of_ble_eq_true rfl, Nat.le_of_ble_eq_true rfl⟩ hP hS hl.1 rfl (Nat.le_of_ble_eq_true rfl) dL_errors_133 ⟨Nat.zero_le _, Nat.zero_le _⟩ (fun H locs hP hS => ?_)
                          show W p l e rmL_errors s m args below meth c H locs 0 0 _ (F0 m 136 ls [.int q_94])
                          refine lv_bipush (v := (-2 : Int32)) hx hb dL_errors_136 (by decide +kernel) ?_
                          refine lv_icmp_ne (tgt := 422) hx hb dL_errors_138 (by decide) (fun c_97 => ?_) (fun c_97 => ?_)
                          · replace h := ifn c_97 h
                            exact LL_errors_422 hG N k0 t0 X hr hlk r0 I0 I_95 q_1 h _ _ _ hP hS (lv_sub hl [1, 0] rfl)
                          · replace h := ifp c_97 h
                            refine lv_aload_n hx hb dL_errors_141 rfl (lv_at hl 1 rfl) ?_
                            refine lv_iconst (v := (0 : Int32)) hx hb dL_errors_142 (by decide +kernel) ?_
                            refine lv_iconst (v := (0 : Int32)) hx hb dL_errors_143 (by decide +kernel) ?_
                            obtain ⟨q_98, I_99, hc_100, h⟩ := clP_e h
                            refine r_callV (As := [.int (0 : Int32), .int (0 : Int32)]) [] X (c6_addMove l g hG N _ _ _ _ t0 _ _ hc_100) cal_X6_addMove (im_X6_addMove) (se_X6_addMove) k_328 (tag_lt t0 (by decide)) (by rw [lay, t0]; rfl) rfl rfl ⟨rfl, rfl⟩ ⟨Nat.le_of_ble_eq_true rfl, Nat.le_of_ble_eq_true rfl⟩ hP hS hl.1 rfl (Nat.le_of_ble_eq_true rfl) dL_errors_144 ⟨Nat.zero_le _, Nat.zero_le _⟩ (fun H locs hP hS => ?_)
                            show W p l e rmL_errors s m args below meth c H locs 0 0 _ (F0 m 147 ls [.int q_98])
                            refine lv_bipush (v := (-2 : Int32)) hx hb dL_errors_147 (by decide +kernel) ?_
                            refine lv_icmp_ne (tgt := 422) hx hb dL_errors_149 (by decide) (fun c_101 => ?_) (fun c_101 => ?_)
                            · replace h := ifn c_101 h
                              exact LL_errors_422 hG N k0 t0 X hr hlk r0 I0 I_99 q_1 h _ _ _ hP hS (lv_sub hl [1, 0] rfl)
                            · replace h := ifp c_101 h
                              refine lv_aload_n hx hb dL_errors_152 rfl (lv_at hl 1 rfl) ?_
                              refine lv_sipush (v := (1000 : Int32)) hx hb dL_errors_153 (by decide +kernel) ?_
                              refine lv_iconst (v := (1 : Int32)) hx hb dL_errors_156 (by decide +kernel) ?_
                              obtain ⟨q_102, I_103, hc_104, h⟩ := clP_e h
                              refine r_callV (As := [.int (1000 : Int32), .int (1 : Int32)]) [] X (c6_addMove l g hG N _ _ _ _ t0 _ _ hc_104) cal_X6_addMove (im_X6_addMove) (se_X6_addMove) k_328 (tag_lt t0 (by decide)) (by rw [lay, t0]; rfl) rfl rfl ⟨rfl, rfl⟩ ⟨Nat.le_of_ble_eq_true rfl, Nat.le_of_ble_eq_true rfl⟩ hP hS hl.1 rfl (Nat.le_of_ble_eq_true rfl) dL_errors_157 ⟨Nat.zero_le _, Nat.zero_le _⟩ (fun H locs hP hS => ?_)
                              show W p l e rmL_errors s m args below meth c H locs 0 0 _ (F0 m 160 ls [.int q_102])
                              refine lv_bipush (v := (-2 : Int32)) hx hb dL_errors_160 (by decide +kernel) ?_
                              refine lv_icmp_ne (tgt := 422) hx hb dL_errors_162 (by decide) (fun c_105 => ?_) (fun c_105 => ?_)
                              · replace h := ifn c_105 h
                                exact LL_errors_422 hG N k0 t0 X hr hlk r0 I0 I_103 q_1 h _ _ _ hP hS (lv_sub hl [1, 0] rfl)
                              · replace h := ifp c_105 h
                                refine lv_aload_n hx hb dL_errors_165 rfl (lv_at hl 1 rfl) ?_
                                refine lv_iconst (v := (1 : Int32)) hx hb dL_errors_166 (by decide +kernel) ?_
                                refine lv_sipush (v := (-1000 : Int32)) hx hb dL_errors_167 (by decide +kernel) ?_
                                obtain ⟨q_106, I_107, hc_108, h⟩ := clP_e h
                                refine r_callV (As := [.int (1 : Int32), .int (-1000 : Int32)]) [] X (c6_addMove l g hG N _ _ _ _ t0 _ _ hc_108) cal_X6_addMove (im_X6_addMove) (se_X6_addMove) k_328 (tag_lt t0 (by decide)) (by rw [lay, t0]; rfl) rfl rfl ⟨rfl, rfl⟩ ⟨Nat.le_of_ble_eq_true rfl, Nat.le_of_ble_eq_true rfl⟩ hP hS hl.1 rfl (Nat.le_of_ble_eq_true rfl) dL_errors_170 ⟨Nat.zero_le _, Nat.zero_le _⟩ (fun H locs hP hS => ?_)
                                show W p l e rmL_errors s m args below meth c H locs 0 0 _ (F0 m 173 ls [.int q_106])
                                refine lv_bipush (v := (-2 : Int32)) hx hb dL_errors_173 (by decide +kernel) ?_
                                refine lv_icmp_ne (tgt := 422) hx hb dL_errors_175 (by decide) (fun c_109 => ?_) (fun c_109 => ?_)
                                · replace h := ifn c_109 h
                                  exact LL_errors_422 hG N k0 t0 X hr hlk r0 I0 I_107 q_1 h _ _ _ hP hS (lv_sub hl [1, 0] rfl)
                                · replace h := ifp c_109 h
                                  refine lv_aload_n hx hb dL_errors_178 rfl (lv_at hl 1 rfl) ?_
                                  refine lv_iconst (v := (0 : Int32)) hx hb dL_errors_179 (by decide +kernel) ?_
                                  obtain ⟨q_110, I_111, hc_112, h⟩ := clP_e h
                                  refine r_callV (As := [.int (0 : Int32)]) [] X (c6_addWait l g hG N _ _ _ t0 _ _ hc_112) cal_X6_addWait (im_X6_addWait) (se_X6_addWait) k_344 (tag_lt t0 (by decide)) (by rw [lay, t0]; rfl) rfl rfl ⟨rfl, rfl⟩ ⟨Nat.le_of_ble_eq_true rfl, Nat.le_of_ble_eq_true rfl⟩ hP hS hl.1 rfl (Nat.le_of_ble_eq_true rfl) dL_errors_180 ⟨Nat.zero_le _, Nat.zero_le _⟩ (fun H locs hP hS => ?_)
                                  show W p l e rmL_errors s m args below meth c H locs 0 0 _ (F0 m 183 ls [.int q_110])
                                  refine lv_bipush (v := (-2 : Int32)) hx hb dL_errors_183 (by decide +kernel) ?_
                                  refine lv_icmp_ne (tgt := 422) hx hb dL_errors_185 (by decide) (fun c_113 => ?_) (fun c_113 => ?_)
                                  · replace h := ifn c_113 h
                                    exact LL_errors_422 hG N k0 t0 X hr hlk r0 I0 I_111 q_1 h _ _ _ hP hS (lv_sub hl [1, 0] rfl)
                                  · replace h := ifp c_113 h
                                    refine lv_aload_n hx hb dL_errors_188 rfl (lv_at hl 1 rfl) ?_
                                    refine lv_sipush (v := (10000 : Int32)) hx hb dL_errors_189 (by decide +kernel) ?_
                                    obtain ⟨q_114, I_115, hc_116, h⟩ := clP_e h
                                    refine r_callV (As := [.int (10000 : Int32)]) [] X (c6_addWait l g hG N _ _ _ t0 _ _ hc_116) cal_X6_addWait (im_X6_addWait) (se_X6_addWait) k_344 (tag_lt t0 (by decide)) (by rw [lay, t0]; rfl) rfl rfl ⟨rfl, rfl⟩ ⟨Nat.le_of_ble_eq_true rfl, Nat.le_of_ble_eq_true rfl⟩ hP hS hl.1 rfl (Nat.le_of_ble_eq_true rfl) dL_errors_192 ⟨Nat.zero_le _, Nat.zero_le _⟩ (fun H locs hP hS => ?_)
                                    show W p l e rmL_errors s m args below meth c H locs 0 0 _ (F0 m 195 ls [.int q_114])
                                    refine lv_bipush (v := (-2 : Int32)) hx hb dL_errors_195 (by decide +kernel) ?_
                                    refine lv_icmp_ne (tgt := 422) hx hb dL_errors_197 (by decide) (fun c_117 => ?_) (fun c_117 => ?_)
                                    · replace h := ifn c_117 h
                                      exact LL_errors_422 hG N k0 t0 X hr hlk r0 I0 I_115 q_1 h _ _ _ hP hS (lv_sub hl [1, 0] rfl)
                                    · replace h := ifp c_117 h
                                      refine lv_aload_n hx hb dL_errors_200 rfl (lv_at hl 1 rfl) ?_
                                      refine lv_iconst (v := (0 : Int32)) hx hb dL_errors_201 (by decide +kernel) ?_
                                      obtain ⟨q_118, I_119, hc_120, h⟩ := clP_e h
                                      refine r_callV (As := [.int (0 : Int32)]) [] X (c6_run l g hG N _ _ _ t0 _ _ hc_120) cal_X6_run (im_X6_run) (se_X6_run) k_348 (tag_lt t0 (by decide)) (by rw [lay, t0]; rfl) rfl rfl ⟨rfl, rfl⟩ ⟨Nat.le_of_ble_eq_true rfl, Nat.le_of_ble_eq_true rfl⟩ hP hS hl.1 rfl (Nat.le_of_ble_eq_true rfl) dL_errors_202 ⟨Nat.zero_le _, Nat.zero_le _⟩ (fun H locs hP hS => ?_)
                                      show W p l e rmL_errors s m args below meth c H locs 0 0 _ (F0 m 205 ls [.int q_118])
                                      refine lv_bipush (v := (-2 : Int32)) hx hb dL_errors_205 (by decide +kernel) ?_
                                      refine lv_icmp_ne (tgt := 422) hx hb dL_errors_207 (by decide) (fun c_121 => ?_) (fun c_121 => ?_)
                                      · replace h := ifn c_121 h
                                        exact LL_errors_422 hG N k0 t0 X hr hlk r0 I0 I_119 q_1 h _ _ _ hP hS (lv_sub hl [1, 0] rfl)
                                      · replace h := ifp c_121 h
                                        refine lv_aload_n hx hb dL_errors_210 rfl (lv_at hl 1 rfl) ?_
                                        refine lv_ldc (v := (100000 : Int32)) hx hb X.ow (X.hts _ k_399) dL_errors_211 ?_
                                        obtain ⟨q_122, I_123, hc_124, h⟩ := clP_e h
                                        refine r_callV (As := [.int (100000 : Int32)]) [] X (c6_run l g hG N _ _ _ t0 _ _ hc_124) cal_X6_run (im_X6_run) (se_X6_run) k_348 (tag_lt t0 (by decide)) (by rw [lay, t0]; rfl) rfl rfl ⟨rfl, rfl⟩ ⟨Nat.le_of_ble_eq_true rfl, Nat.le_of_ble_eq_true rfl⟩ hP hS hl.1 rfl (Nat.le_of_ble_eq_true rfl) dL_errors_213 ⟨Nat.zero_le _, Nat.zero_le _⟩ (fun H locs hP hS => ?_)
                                        show W p l e rmL_errors s m args below meth c H locs 0 0 _ (F0 m 216 ls [.int q_122])
                                        refine lv_bipush (v := (-2 : Int32)) hx hb dL_errors_216 (by decide +kernel) ?_
                                        refine lv_icmp_ne (tgt := 422) hx hb dL_errors_218 (by decide) (fun c_125 => ?_) (fun c_125 => ?_)
                                        · replace h := ifn c_125 h
                                          exact LL_errors_422 hG N k0 t0 X hr hlk r0 I0 I_123 q_1 h _ _ _ hP hS (lv_sub hl [1, 0] rfl)
                                        · replace h := ifp c_125 h
                                          refine lv_aload_n hx hb dL_errors_221 rfl (lv_at hl 1 rfl) ?_
                                          refine lv_iload_n hx hb dL_errors_222 rfl (lv_at hl 0 rfl) ?_
                                          obtain ⟨q_126, I_127, hc_128, h⟩ := clP_e h
                                          refine r_callV (As := [.int q_1]) [] X (c6_removeItem l g hG N _ _ _ t0 _ _ hc_128) cal_X6_removeItem (im_X6_removeItem) (se_X6_removeItem) k_400 (tag_lt t0 (by decide)) (by rw [lay, t0]; rfl) rfl rfl ⟨rfl, rfl⟩ ⟨Nat.le_of_ble_eq_true rfl, Nat.le_of_ble_eq_true rfl⟩ hP hS hl.1 rfl (Nat.le_of_ble_eq_true rfl) dL_errors_223 ⟨Nat.zero_le _, Nat.zero_le _⟩ (fun H locs hP hS => ?_)
                                          show W p l e rmL_errors s m args below meth c H locs 0 0 _ (F0 m 226 ls [.int q_126])
                                          refine lv_iconst (v := (-1 : Int32)) hx hb dL_errors_226 (by decide +kernel) ?_
                                          refine lv_icmp_ne (tgt := 422) hx hb dL_errors_227 (by decide) (fun c_129 => ?_) (fun c_129 => ?_)
                                          · replace h := ifn c_129 h
                                            exact LL_errors_422 hG N k0 t0 X hr hlk r0 I0 I_127 q_1 h _ _ _ hP hS (lv_sub hl [1, 0] rfl)
                                          · replace h := ifp c_129 h
                                            refine lv_aload_n hx hb dL_errors_230 rfl (lv_at hl 1 rfl) ?_
                                            refine lv_iconst (v := (0 : Int32)) hx hb dL_errors_231 (by decide +kernel) ?_
                                            obtain ⟨q_130, I_131, hc_132, h⟩ := clP_e h
                                            refine r_callV (As := [.int (0 : Int32)]) [] X (c6_moveTicks l g hG N _ _ _ t0 _ _ hc_132) cal_X6_moveTicks (im_X6_moveTicks) (se_X6_moveTicks) k_405 (tag_lt t0 (by decide)) (by rw [lay, t0]; rfl) rfl rfl ⟨rfl, rfl⟩ ⟨Nat.le_of_ble_eq_true rfl, Nat.le_of_ble_eq_true rfl⟩ hP hS hl.1 rfl (Nat.le_of_ble_eq_true rfl) dL_errors_232 ⟨Nat.zero_le _, Nat.zero_le _⟩ (fun H locs hP hS => ?_)
                                            show W p l e rmL_errors s m args below meth c H locs 0 0 _ (F0 m 235 ls [.int q_130])
                                            refine lv_bipush (v := (-2 : Int32)) hx hb dL_errors_235 (by decide +kernel) ?_
                                            refine lv_icmp_ne (tgt := 422) hx hb dL_errors_237 (by decide) (fun c_133 => ?_) (fun c_133 => ?_)
                                            · replace h := ifn c_133 h
                                              exact LL_errors_422 hG N k0 t0 X hr hlk r0 I0 I_131 q_1 h _ _ _ hP hS (lv_sub hl [1, 0] rfl)
                                            · replace h := ifp c_133 h
                                              refine lv_aload_n hx hb dL_errors_240 rfl (lv_at hl 1 rfl) ?_
                                              refine lv_sipush (v := (1000 : Int32)) hx hb dL_errors_241 (by decide +kernel) ?_
                                              obtain ⟨q_134, I_135, hc_136, h⟩ := clP_e h
                                              refine r_callV (As := [.int (1000 : Int32)]) [] X (c6_moveTicks l g hG N _ _ _ t0 _ _ hc_136) cal_X6_moveTicks (im_X6_moveTicks) (se_X6_moveTicks) k_405 (tag_lt t0 (by decide)) (by rw [lay, t0]; rfl) rfl rfl ⟨rfl, rfl⟩ ⟨Nat.le_of_ble_eq_true rfl, Nat.le_of_ble_eq_true rfl⟩ hP hS hl.1 rfl (Nat.le_of_ble_eq_true rfl) dL_errors_244 ⟨Nat.zero_le _, Nat.zero_le _⟩ (fun H locs hP hS => ?_)
                                              show W p l e rmL_errors s m args below meth c H locs 0 0 _ (F0 m 247 ls [.int q_134])
                                              refine lv_bipush (v := (-2 : Int32)) hx hb dL_errors_247 (by decide +kernel) ?_
                                              refine lv_icmp_ne (tgt := 422) hx hb dL_errors_249 (by decide) (fun c_137 => ?_) (fun c_137 => ?_)
                                              · replace h := ifn c_137 h
                                                exact LL_errors_422 hG N k0 t0 X hr hlk r0 I0 I_135 q_1 h _ _ _ hP hS (lv_sub hl [1, 0] rfl)
                                              · replace h := ifp c_137 h
                                                refine lv_aload_n hx hb dL_errors_252 rfl (lv_at hl 1 rfl) ?_
                                                refine lv_iconst (v := (2 : Int32)) hx hb dL_errors_253 (by decide +kernel) ?_
                                                refine lv_iconst (v := (-1 : Int32)) hx hb dL_errors_254 (by decide +kernel) ?_
                                                obtain ⟨q_138, I_139, hc_140, h⟩ := clP_e h
                                                refine r_callV (As := [.int (2 : Int32), .int (-1 : Int32)]) [] X (c6_positionAfter l g hG N _ _ _ _ t0 _ _ hc_140) cal_X6_positionAfter (im_X6_positionAfter) (se_X6_positionAfter) k_410 (tag_lt t0 (by decide)) (by rw [lay, t0]; rfl) rfl rfl ⟨rfl, rfl⟩ ⟨Nat.le_of_ble_eq_true rfl, Nat.le_of_ble_eq_true rfl⟩ hP hS hl.1 rfl (Nat.le_of_ble_eq_true rfl) dL_errors_255 ⟨Nat.zero_le _, Nat.zero_le _⟩ (fun H locs hP hS => ?_)
                                                show W p l e rmL_errors s m args below meth c H locs 0 0 _ (F0 m 258 ls [.int q_138])
                                                refine lv_iconst (v := (-1 : Int32)) hx hb dL_errors_258 (by decide +kernel) ?_
                                                refine lv_icmp_ne (tgt := 422) hx hb dL_errors_259 (by decide) (fun c_141 => ?_) (fun c_141 => ?_)
                                                · replace h := ifn c_141 h
                                                  exact LL_errors_422 hG N k0 t0 X hr hlk r0 I0 I_139 q_1 h _ _ _ hP hS (lv_sub hl [1, 0] rfl)
                                                · replace h := ifp c_141 h
                                                  refine lv_aload_n hx hb dL_errors_262 rfl (lv_at hl 1 rfl) ?_
                                                  refine lv_iconst (v := (0 : Int32)) hx hb dL_errors_263 (by decide +kernel) ?_
                                                  refine lv_iconst (v := (-1 : Int32)) hx hb dL_errors_264 (by decide +kernel) ?_
                                                  obtain ⟨q_142, I_143, hc_144, h⟩ := clP_e h
                                                  refine r_callV (As := [.int (0 : Int32), .int (-1 : Int32)]) [] X (c6_positionAfter l g hG N _ _ _ _ t0 _ _ hc_144) cal_X6_positionAfter (im_X6_positionAfter) (se_X6_positionAfter) k_410 (tag_lt t0 (by decide)) (by rw [lay, t0]; rfl) rfl rfl ⟨rfl, rfl⟩ ⟨Nat.le_of_ble_eq_true rfl, Nat.le_of_ble_eq_true rfl⟩ hP hS hl.1 rfl (Nat.le_of_ble_eq_true rfl) dL_errors_265 ⟨Nat.zero_le _, Nat.zero_le _⟩ (fun H locs hP hS => ?_)
                                                  show W p l e rmL_errors s m args below meth c H locs 0 0 _ (F0 m 268 ls [.int q_142])
                                                  refine lv_bipush (v := (-2 : Int32)) hx hb dL_errors_268 (by decide +kernel) ?_
                                                  refine lv_icmp_ne (tgt := 422) hx hb dL_errors_270 (by decide) (fun c_145 => ?_) (fun c_145 => ?_)
                                                  · replace h := ifn c_145 h
                                                    exact LL_errors_422 hG N k0 t0 X hr hlk r0 I0 I_143 q_1 h _ _ _ hP hS (lv_sub hl [1, 0] rfl)
                                                  · replace h := ifp c_145 h
                                                    refine lv_aload_n hx hb dL_errors_273 rfl (lv_at hl 1 rfl) ?_
                                                    refine lv_iconst (v := (1 : Int32)) hx hb dL_errors_274 (by decide +kernel) ?_
                                                    refine lv_ldc (v := (100000 : Int32)) hx hb X.ow (X.hts _ k_399) dL_errors_275 ?_
                                                    obtain ⟨q_146, I_147, hc_148, h⟩ := clP_e h
                                                    refine r_callV (As := [.int (1 : Int32), .int (100000 : Int32)]) [] X (c6_positionAfter l g hG N _ _ _ _ t0 _ _ hc_148) cal_X6_positionAfter (im_X6_positionAfter) (se_X6_positionAfter) k_410 (tag_lt t0 (by decide)) (by rw [lay, t0]; rfl) rfl rfl ⟨rfl, rfl⟩ ⟨Nat.le_of_ble_eq_true rfl, Nat.le_of_ble_eq_true rfl⟩ hP hS hl.1 rfl (Nat.le_of_ble_eq_true rfl) dL_errors_277 ⟨Nat.zero_le _, Nat.zero_le _⟩ (fun H locs hP hS => ?_)
                                                    show W p l e rmL_errors s m args below meth c H locs 0 0 _ (F0 m 280 ls [.int q_146])
                                                    refine lv_bipush (v := (-2 : Int32)) hx hb dL_errors_280 (by decide +kernel) ?_
                                                    refine lv_icmp_ne (tgt := 422) hx hb dL_errors_282 (by decide) (fun c_149 => ?_) (fun c_149 => ?_)
                                                    · replace h := ifn c_149 h
                                                      exact LL_errors_422 hG N k0 t0 X hr hlk r0 I0 I_147 q_1 h _ _ _ hP hS (lv_sub hl [1, 0] rfl)
                                                    · replace h := ifp c_149 h
                                                      refine lv_aload_n hx hb dL_errors_285 rfl (lv_at hl 1 rfl) ?_
                                                      refine lv_iconst (v := (0 : Int32)) hx hb dL_errors_286 (by decide +kernel) ?_
                                                      refine lv_iconst (v := (1 : Int32)) hx hb dL_errors_287 (by decide +kernel) ?_
                                                      obtain ⟨q_150, I_151, hc_152, h⟩ := clP_e h
                                                      refine r_callV (As := [.int (0 : Int32), .int (1 : Int32)]) [] X (c6_leastAcceleration l g hG N _ _ _ _ t0 _ _ hc_152) cal_X6_leastAcceleration (im_X6_leastAcceleration) (se_X6_leastAcceleration) k_415 (tag_lt t0 (by decide)) (by rw [lay, t0]; rfl) rfl rfl ⟨rfl, rfl⟩ ⟨Nat.le_of_ble_eq_true rfl, Nat.le_of_ble_eq_true rfl⟩ hP hS hl.1 rfl (Nat.le_of_ble_eq_true rfl) dL_errors_288 ⟨Nat.zero_le _, Nat.zero_le _⟩ (fun H locs hP hS => ?_)
                                                      show W p l e rmL_errors s m args below meth c H locs 0 0 _ (F0 m 291 ls [.int q_150])
                                                      refine lv_bipush (v := (-2 : Int32)) hx hb dL_errors_291 (by decide +kernel) ?_
                                                      refine lv_icmp_ne (tgt := 422) hx hb dL_errors_293 (by decide) (fun c_153 => ?_) (fun c_153 => ?_)
                                                      · replace h := ifn c_153 h
                                                        exact LL_errors_422 hG N k0 t0 X hr hlk r0 I0 I_151 q_1 h _ _ _ hP hS (lv_sub hl [1, 0] rfl)
                                                      · replace h := ifp c_153 h
                                                        refine lv_aload_n hx hb dL_errors_296 rfl (lv_at hl 1 rfl) ?_
                                                        refine lv_iconst (v := (1 : Int32)) hx hb dL_errors_297 (by decide +kernel) ?_
                                                        refine lv_iconst (v := (0 : Int32)) hx hb dL_errors_298 (by decide +kernel) ?_
                                                        obtain ⟨q_154, I_155, hc_156, h⟩ := clP_e h
                                                        refine r_callV (As := [.int (1 : Int32), .int (0 : Int32)]) [] X (c6_leastAcceleration l g hG N _ _ _ _ t0 _ _ hc_156) cal_X6_leastAcceleration (im_X6_leastAcceleration) (se_X6_leastAcceleration) k_415 (tag_lt t0 (by decide)) (by rw [lay, t0]; rfl) rfl rfl ⟨rfl, rfl⟩ ⟨Nat.le_of_ble_eq_true rfl, Nat.le_of_ble_eq_true rfl⟩ hP hS hl.1 rfl (Nat.le_of_ble_eq_true rfl) dL_errors_299 ⟨Nat.zero_le _, Nat.zero_le _⟩ (fun H locs hP hS => ?_)
                                                        show W p l e rmL_errors s m args below meth c H locs 0 0 _ (F0 m 302 ls [.int q_154])
                                                        refine lv_bipush (v := (-2 : Int32)) hx hb dL_errors_302 (by decide +kernel) ?_
                                                        refine lv_icmp_ne (tgt := 422) hx hb dL_errors_304 (by decide) (fun c_157 => ?_) (fun c_157 => ?_)
                                                        · replace h := ifn c_157 h
                                                          exact LL_errors_422 hG N k0 t0 X hr hlk r0 I0 I_155 q_1 h _ _ _ hP hS (lv_sub hl [1, 0] rfl)
                                                        · replace h := ifp c_157 h
                                                          refine lv_aload_n hx hb dL_errors_307 rfl (lv_at hl 1 rfl) ?_
                                                          refine lv_iconst (v := (0 : Int32)) hx hb dL_errors_308 (by decide +kernel) ?_
                                                          obtain ⟨q_158, I_159, hc_160, h⟩ := clP_e h
                                                          refine r_callV (As := [.int (0 : Int32)]) [] X (c6_greatestLength l g hG N _ _ _ t0 _ _ hc_160) cal_X6_greatestLength (im_X6_greatestLength) (se_X6_greatestLength) k_430 (tag_lt t0 (by decide)) (by rw [lay, t0]; rfl) rfl rfl ⟨rfl, rfl⟩ ⟨Nat.le_of_ble_eq_true rfl, Nat.le_of_ble_eq_true rfl⟩ hP hS hl.1 rfl (Nat.le_of_ble_eq_true rfl) dL_errors_309 ⟨Nat.zero_le _, Nat.zero_le _⟩ (fun H locs hP hS => ?_)
                                                          show W p l e rmL_errors s m args below meth c H locs 0 0 _ (F0 m 312 ls [.int q_158])
                                                          refine lv_bipush (v := (-2 : Int32)) hx hb dL_errors_312 (by decide +kernel) ?_
                                                          refine lv_icmp_ne (tgt := 422) hx hb dL_errors_314 (by decide) (fun c_161 => ?_) (fun c_161 => ?_)
                                                          · replace h := ifn c_161 h
                                                            exact LL_errors_422 hG N k0 t0 X hr hlk r0 I0 I_159 q_1 h _ _ _ hP hS (lv_sub hl [1, 0] rfl)
                                                          · replace h := ifp c_161 h
                                                            refine lv_aload_n hx hb dL_errors_317 rfl (lv_at hl 1 rfl) ?_
                                                            refine lv_ldc (v := (100000 : Int32)) hx hb X.ow (X.hts _ k_399) dL_errors_318 ?_
                                                            obtain ⟨q_162, I_163, hc_164, h⟩ := clP_e h
                                                            refine r_callV (As := [.int (100000 : Int32)]) [] X (c6_greatestLength l g hG N _ _ _ t0 _ _ hc_164) cal_X6_greatestLength (im_X6_greatestLength) (se_X6_greatestLength) k_430 (tag_lt t0 (by decide)) (by rw [lay, t0]; rfl) rfl rfl ⟨rfl, rfl⟩ ⟨Nat.le_of_ble_eq_true rfl, Nat.le_of_ble_eq_true rfl⟩ hP hS hl.1 rfl (Nat.le_of_ble_eq_true rfl) dL_errors_320 ⟨Nat.zero_le _, Nat.zero_le _⟩ (fun H locs hP hS => ?_)
                                                            show W p l e rmL_errors s m args below meth c H locs 0 0 _ (F0 m 323 ls [.int q_162])
                                                            refine lv_bipush (v := (-2 : Int32)) hx hb dL_errors_323 (by decide +kernel) ?_
                                                            refine lv_icmp_ne (tgt := 422) hx hb dL_errors_325 (by decide) (fun c_165 => ?_) (fun c_165 => ?_)
                                                            · replace h := ifn c_165 h
                                                              exact LL_errors_422 hG N k0 t0 X hr hlk r0 I0 I_163 q_1 h _ _ _ hP hS (lv_sub hl [1, 0] rfl)
                                                            · replace h := ifp c_165 h
                                                              refine lv_aload_n hx hb dL_errors_328 rfl (lv_at hl 1 rfl) ?_
                                                              refine lv_iconst (v := (0 : Int32)) hx hb dL_errors_329 (by decide +kernel) ?_
                                                              refine lv_lconst (v := (0 : Int64)) hx hb dL_errors_330 (by decide +kernel) ?_
                                                              obtain ⟨q_166, I_167, hc_168, h⟩ := clP_e h
                                                              refine r_callV (As := [.int (0 : Int32), .long (0 : Int64)]) [] X (c6_runScript l g hG N _ _ _ _ t0 _ _ hc_168) cal_X6_runScript (im_X6_runScript) (se_X6_runScript) k_434 (tag_lt t0 (by decide)) (by rw [lay, t0]; rfl) rfl rfl ⟨rfl, rfl⟩ ⟨Nat.le_of_ble_eq_true rfl, Nat.le_of_ble_eq_true rfl⟩ hP hS hl.1 rfl (Nat.le_of_ble_eq_true rfl) dL_errors_331 ⟨Nat.zero_le _, Nat.zero_le _⟩ (fun H locs hP hS => ?_)
                                                              show W p l e rmL_errors s m args below meth c H locs 0 0 _ (F0 m 334 ls [.int q_166])
                                                              refine lv_bipush (v := (-2 : Int32)) hx hb dL_errors_334 (by decide +kernel) ?_
                                                              refine lv_icmp_ne (tgt := 422) hx hb dL_errors_336 (by decide) (fun c_169 => ?_) (fun c_169 => ?_)
                                                              · replace h := ifn c_169 h
                                                                exact LL_errors_422 hG N k0 t0 X hr hlk r0 I0 I_167 q_1 h _ _ _ hP hS (lv_sub hl [1, 0] rfl)
                                                              · replace h := ifp c_169 h
                                                                refine lv_aload_n hx hb dL_errors_339 rfl (lv_at hl 1 rfl) ?_
                                                                refine lv_iconst (v := (5 : Int32)) hx hb dL_errors_340 (by decide +kernel) ?_
                                                                refine lv_lconst (v := (0 : Int64)) hx hb dL_errors_341 (by decide +kernel) ?_
                                                                obtain ⟨q_170, I_171, hc_172, h⟩ := clP_e h
                                                                refine r_callV (As := [.int (5 : Int32), .long (0 : Int64)]) [] X (c6_runScript l g hG N _ _ _ _ t0 _ _ hc_172) cal_X6_runScript (im_X6_runScript) (se_X6_runScript) k_434 (tag_lt t0 (by decide)) (by rw [lay, t0]; rfl) rfl rfl ⟨rfl, rfl⟩ ⟨Nat.le_of_ble_eq_true rfl, Nat.le_of_ble_eq_true rfl⟩ hP hS hl.1 rfl (Nat.le_of_ble_eq_true rfl) dL_errors_342 ⟨Nat.zero_le _, Nat.zero_le _⟩ (fun H locs hP hS => ?_)
                                                                show W p l e rmL_errors s m args below meth c H locs 0 0 _ (F0 m 345 ls [.int q_170])
                                                                refine lv_bipush (v := (-2 : Int32)) hx hb dL_errors_345 (by decide +kernel) ?_
                                                                refine lv_icmp_ne (tgt := 422) hx hb dL_errors_347 (by decide) (fun c_173 => ?_) (fun c_173 => ?_)
                                                                · replace h := ifn c_173 h
                                                                  exact LL_errors_422 hG N k0 t0 X hr hlk r0 I0 I_171 q_1 h _ _ _ hP hS (lv_sub hl [1, 0] rfl)
                                                                · replace h := ifp c_173 h
                                                                  refine lv_aload_n hx hb dL_errors_350 rfl (lv_at hl 1 rfl) ?_
                                                                  refine lv_iconst (v := (1 : Int32)) hx hb dL_errors_351 (by decide +kernel) ?_
                                                                  refine lv_ldc2 (v := (10000 : Int64)) hx hb X.ow (X.hts _ k_450) dL_errors_352 ?_
                                                                  obtain ⟨q_174, I_175, hc_176, h⟩ := clP_e h
                                                                  refine r_callV (As := [.int (1 : Int32), .long (10000 : Int64)]) [] X (c6_runScript l g hG N _ _ _ _ t0 _ _ hc_176) cal_X6_runScript (im_X6_runScript) (se_X6_runScript) k_434 (tag_lt t0 (by decide)) (by rw [lay, t0]; rfl) rfl rfl ⟨rfl, rfl⟩ ⟨Nat.le_of_ble_eq_true rfl, Nat.le_of_ble_eq_true rfl⟩ hP hS hl.1 rfl (Nat.le_of_ble_eq_true rfl) dL_errors_355 ⟨Nat.zero_le _, Nat.zero_le _⟩ (fun H locs hP hS => ?_)
                                                                  show W p l e rmL_errors s m args below meth c H locs 0 0 _ (F0 m 358 ls [.int q_174])
                                                                  refine lv_bipush (v := (-2 : Int32)) hx hb dL_errors_358 (by decide +kernel) ?_
                                                                  refine lv_icmp_ne (tgt := 422) hx hb dL_errors_360 (by decide) (fun c_177 => ?_) (fun c_177 => ?_)
                                                                  · replace h := ifn c_177 h
                                                                    exact LL_errors_422 hG N k0 t0 X hr hlk r0 I0 I_175 q_1 h _ _ _ hP hS (lv_sub hl [1, 0] rfl)
                                                                  · replace h := ifp c_177 h
                                                                    refine lv_aload_n hx hb dL_errors_363 rfl (lv_at hl 1 rfl) ?_
                                                                    refine lv_iconst (v := (1 : Int32)) hx hb dL_errors_364 (by decide +kernel) ?_
                                                                    refine lv_ldc2 (v := (-1 : Int64)) hx hb X.ow (X.hts _ k_451) dL_errors_365 ?_
                                                                    obtain ⟨q_178, I_179, hc_180, h⟩ := clP_e h
                                                                    refine r_callV (As := [.int (1 : Int32), .long (-1 : Int64)]) [] X (c6_runScript l g hG N _ _ _ _ t0 _ _ hc_180) cal_X6_runScript (im_X6_runScript) (se_X6_runScript) k_434 (tag_lt t0 (by decide)) (by rw [lay, t0]; rfl) rfl rfl ⟨rfl, rfl⟩ ⟨Nat.le_of_ble_eq_true rfl, Nat.le_of_ble_eq_true rfl⟩ hP hS hl.1 rfl (Nat.le_of_ble_eq_true rfl) dL_errors_368 ⟨Nat.zero_le _, Nat.zero_le _⟩ (fun H locs hP hS => ?_)
                                                                    show W p l e rmL_errors s m args below meth c H locs 0 0 _ (F0 m 371 ls [.int q_178])
                                                                    refine lv_bipush (v := (-2 : Int32)) hx hb dL_errors_371 (by decide +kernel) ?_
                                                                    refine lv_icmp_ne (tgt := 422) hx hb dL_errors_373 (by decide) (fun c_181 => ?_) (fun c_181 => ?_)
                                                                    · replace h := ifn c_181 h
                                                                      exact LL_errors_422 hG N k0 t0 X hr hlk r0 I0 I_179 q_1 h _ _ _ hP hS (lv_sub hl [1, 0] rfl)
                                                                    · replace h := ifp c_181 h
                                                                      refine lv_aload_n hx hb dL_errors_376 rfl (lv_at hl 1 rfl) ?_
                                                                      refine lv_lconst (v := (1 : Int64)) hx hb dL_errors_377 (by decide +kernel) ?_
                                                                      refine lv_iconst (v := (0 : Int32)) hx hb dL_errors_378 (by decide +kernel) ?_
                                                                      obtain ⟨q_182, I_183, hc_184, h⟩ := clP_e h
                                                                      refine r_callV (As := [.long (1 : Int64), .int (0 : Int32)]) [] X (c6_randomSpeeds l g hG N _ _ _ _ t0 _ _ hc_184) cal_X6_randomSpeeds (im_X6_randomSpeeds) (se_X6_randomSpeeds) k_452 (tag_lt t0 (by decide)) (by rw [lay, t0]; rfl) rfl rfl ⟨rfl, rfl⟩ ⟨Nat.le_of_ble_eq_true rfl, Nat.le_of_ble_eq_true rfl⟩ hP hS hl.1 rfl (Nat.le_of_ble_eq_true rfl) dL_errors_379 ⟨Nat.zero_le _, Nat.zero_le _⟩ (fun H locs hP hS => ?_)
                                                                      show W p l e rmL_errors s m args below meth c H locs 0 0 _ (F0 m 382 ls [.int q_182])
                                                                      refine lv_bipush (v := (-2 : Int32)) hx hb dL_errors_382 (by decide +kernel) ?_
                                                                      refine lv_icmp_ne (tgt := 422) hx hb dL_errors_384 (by decide) (fun c_185 => ?_) (fun c_185 => ?_)
                                                                      · replace h := ifn c_185 h
                                                                        exact LL_errors_422 hG N k0 t0 X hr hlk r0 I0 I_183 q_1 h _ _ _ hP hS (lv_sub hl [1, 0] rfl)
                                                                      · replace h := ifp c_185 h
                                                                        refine lv_aload_n hx hb dL_errors_387 rfl (lv_at hl 1 rfl) ?_
                                                                        refine lv_lconst (v := (1 : Int64)) hx hb dL_errors_388 (by decide +kernel) ?_
                                                                        refine lv_sipush (v := (501 : Int32)) hx hb dL_errors_389 (by decide +kernel) ?_
                                                                        obtain ⟨q_186, I_187, hc_188, h⟩ := clP_e h
                                                                        refine r_callV (As := [.long (1 : Int64), .int (501 : Int32)]) [] X (c6_randomSpeeds l g hG N _ _ _ _ t0 _ _ hc_188) cal_X6_randomSpeeds (im_X6_randomSpeeds) (se_X6_randomSpeeds) k_452 (tag_lt t0 (by decide)) (by rw [lay, t0]; rfl) rfl rfl ⟨rfl, rfl⟩ ⟨Nat.le_of_ble_eq_true rfl, Nat.le_of_ble_eq_true rfl⟩ hP hS hl.1 rfl (Nat.le_of_ble_eq_true rfl) dL_errors_392 ⟨Nat.zero_le _, Nat.zero_le _⟩ (fun H locs hP hS => ?_)
                                                                        show W p l e rmL_errors s m args below meth c H locs 0 0 _ (F0 m 395 ls [.int q_186])
                                                                        refine lv_bipush (v := (-2 : Int32)) hx hb dL_errors_395 (by decide +kernel) ?_
                                                                        refine lv_icmp_ne (tgt := 422) hx hb dL_errors_397 (by decide) (fun c_189 => ?_) (fun c_189 => ?_)
                                                                        · replace h := ifn c_189 h
                                                                          exact LL_errors_422 hG N k0 t0 X hr hlk r0 I0 I_187 q_1 h _ _ _ hP hS (lv_sub hl [1, 0] rfl)
                                                                        · replace h := ifp c_189 h
                                                                          refine lv_aload_n hx hb dL_errors_400 rfl (lv_at hl 1 rfl) ?_
                                                                          refine lv_iconst (v := (2 : Int32)) hx hb dL_errors_401 (by decide +kernel) ?_
                                                                          obtain ⟨q_190, I_191, hc_192, h⟩ := clP_e h
                                                                          refine r_callV (As := [.int (2 : Int32)]) [] X (c6_save l g hG N _ _ _ t0 _ _ hc_192) cal_X6_save (im_X6_save) (se_X6_save) k_458 (tag_lt t0 (by decide)) (by rw [lay, t0]; rfl) rfl rfl ⟨rfl, rfl⟩ ⟨Nat.le_of_ble_eq_true rfl, Nat.le_of_ble_eq_true rfl⟩ hP hS hl.1 rfl (Nat.le_of_ble_eq_true rfl) dL_errors_402 ⟨Nat.zero_le _, Nat.zero_le _⟩ (fun H locs hP hS => ?_)
                                                                          show W p l e rmL_errors s m args below meth c H locs 0 0 _ (F0 m 405 ls [.int q_190])
                                                                          refine lv_iconst (v := (-1 : Int32)) hx hb dL_errors_405 (by decide +kernel) ?_
                                                                          refine lv_icmp_ne (tgt := 422) hx hb dL_errors_406 (by decide) (fun c_193 => ?_) (fun c_193 => ?_)
                                                                          · replace h := ifn c_193 h
                                                                            exact LL_errors_422 hG N k0 t0 X hr hlk r0 I0 I_191 q_1 h _ _ _ hP hS (lv_sub hl [1, 0] rfl)
                                                                          · replace h := ifp c_193 h
                                                                            refine lv_aload_n hx hb dL_errors_409 rfl (lv_at hl 1 rfl) ?_
                                                                            refine lv_iconst (v := (-1 : Int32)) hx hb dL_errors_410 (by decide +kernel) ?_
                                                                            obtain ⟨q_194, I_195, hc_196, h⟩ := clP_e h
                                                                            refine r_callV (As := [.int (-1 : Int32)]) [] X (c6_restore l g hG N _ _ _ t0 _ _ hc_196) cal_X6_restore (im_X6_restore) (se_X6_restore) k_469 (tag_lt t0 (by decide)) (by rw [lay, t0]; rfl) rfl rfl ⟨rfl, rfl⟩ ⟨Nat.le_of_ble_eq_true rfl, Nat.le_of_ble_eq_true rfl⟩ hP hS hl.1 rfl (Nat.le_of_ble_eq_true rfl) dL_errors_411 ⟨Nat.zero_le _, Nat.zero_le _⟩ (fun H locs hP hS => ?_)
                                                                            show W p l e rmL_errors s m args below meth c H locs 0 0 _ (F0 m 414 ls [.int q_194])
                                                                            refine lv_iconst (v := (-1 : Int32)) hx hb dL_errors_414 (by decide +kernel) ?_
                                                                            refine lv_icmp_ne (tgt := 422) hx hb dL_errors_415 (by decide) (fun c_197 => ?_) (fun c_197 => ?_)
                                                                            · replace h := ifn c_197 h
                                                                              exact LL_errors_422 hG N k0 t0 X hr hlk r0 I0 I_195 q_1 h _ _ _ hP hS (lv_sub hl [1, 0] rfl)
                                                                            · replace h := ifp c_197 h
                                                                              refine lv_iconst (v := (1 : Int32)) hx hb dL_errors_418 (by decide +kernel) ?_
                                                                              refine lv_goto (tgt := 423) hx hb dL_errors_419 (by decide) ?_
                                                                              exact LL_errors_423 hG N k0 t0 X hr hlk r0 I0 I_195 q_1 (1 : Int32) h _ _ _ hP hS (lv_sub hl [1, 0] rfl)
abbrev rmL_digits : Room := { frames := 2, cells := 0, slots := 0, locals := 42 }
def fL_digits_17 (N : Nat) (k0 : Nat) (a1 : Int32) (a2 : Int32) : Nat → Mem → Int32 → Int32 → Option (Int32 × Mem)
  | 0, _, _, _ => none
  | cnt+1, I, v3, v4 =>
    if v4 ≤ (0 : Int32) then
    some (v3, I)
    else
    if v4 = (0 : Int32) then none else
    clP (f6_append N I k0 ((48 : Int32) + ((a1 / v4) - (a1 / v4) / (10 : Int32) * (10 : Int32)))) (fun (q_4 : Int32) (I_5 : Mem) =>
    letM (v3 + q_4) (fun x_7 : Int32 =>
    letM (v4 / (10 : Int32)) (fun x_8 : Int32 =>
    fL_digits_17 N k0 a1 a2 cnt I_5 x_7 x_8)))
def fL_digits_15 (N : Nat) (k0 : Nat) (a1 : Int32) (a2 : Int32) (I : Mem) (v3 : Int32) (s0 : Int32) : Option (Int32 × Mem) :=
    fL_digits_17 N k0 a1 a2 N I v3 s0
def fL_digits (N : Nat) (I : Mem) (k0 : Nat) (a1 : Int32) (a2 : Int32) : Option (Int32 × Mem) :=
    if a2 = (4 : Int32) then
    fL_digits_15 N k0 a1 a2 I (0 : Int32) (1000 : Int32)
    else
    fL_digits_15 N k0 a1 a2 I (0 : Int32) (100 : Int32)
set_option maxHeartbeats 4000000 in
set_option maxRecDepth 100000 in
theorem LL_digits_17 (hG : Apart g NT) (N : Nat) (k0 : Nat) (a1 : Int32) (a2 : Int32) (t0 : tag k0 = 5) (X : Cx g p s m args c cL_digits RL 5) (hr : meth.sig.returnType = (some .int)) (hlk : meth.locks = false) (r0 : Int32) (I0 : Mem) : ∀ (cnt : Nat) (I : Mem) (v3 : Int32) (v4 : Int32), fL_digits_17 N k0 a1 a2 cnt I v3 v4 = some (r0, I0) → ∀ (H : Heap) (locs : List Loc) (ls : Array Slot), Wp g I H → va_S (gA g) s.heap H locs → lv_has ls 5 [(0, .ref (ga g k0)), (1, .int a1), (3, .int v3), (4, .int v4)] → W p l e rmL_digits s m args below meth c H locs 0 0 (MQ below (Qg g (some (.int r0)) I0) args s 0 0 (gA g)) (F0 m 17 ls []) := by
  have hx := X.hx
  have hb := X.hb
  intro cnt
  induction cnt with
  | zero =>
    intro I v3 v4 h
    rw [fL_digits_17] at h
    cases h
  | succ cnt ih =>
    intro I v3 v4 h H locs ls hP hS hl
    rw [fL_digits_17] at h
    refine lv_iload hx hb dL_digits_17 (lv_at hl 3 rfl) ?_
    refine lv_if_le (tgt := 49) hx hb dL_digits_19 (by decide) (fun c_2 => ?_) (fun c_2 => ?_)
    · replace h := ifp c_2 h
      refine lv_iload_n hx hb dL_digits_49 rfl (lv_at hl 2 rfl) ?_
      exact r_iret X hr hlk hP hS dL_digits_50 h
    · replace h := ifn c_2 h
      refine lv_iload_n hx hb dL_digits_22 rfl (lv_at hl 2 rfl) ?_
      refine lv_aload_n hx hb dL_digits_23 rfl (lv_at hl 0 rfl) ?_
      refine lv_bipush (v := (48 : Int32)) hx hb dL_digits_24 (by decide +kernel) ?_
      refine lv_iload_n hx hb dL_digits_26 rfl (lv_at hl 1 rfl) ?_
      refine lv_iload hx hb dL_digits_27 (lv_at hl 3 rfl) ?_
      obtain ⟨g_3, h⟩ := gd_e h
      refine lv_idiv hx hb dL_digits_29 g_3 ?_
      refine lv_bipush (v := (10 : Int32)) hx hb dL_digits_30 (by decide +kernel) ?_
      refine lv_irem hx hb dL_digits_32 (by decide) ?_
      refine lv_iadd hx hb dL_digits_33 ?_
      obtain ⟨q_4, I_5, hc_6, h⟩ := clP_e h
      refine r_callV (As := [.int ((48 : Int32) + ((a1 / v4) - (a1 / v4) / (10 : Int32) * (10 : Int32)))]) [.int v3] X (c6_append l g hG N _ _ _ t0 _ _ hc_6) cal_X6_append (im_X6_append) (se_X6_append) k_188 (tag_lt t0 (by decide)) (by rw [lay, t0]; rfl) rfl rfl ⟨rfl, rfl⟩ ⟨Nat.le_of_ble_eq_true rfl, Nat.le_of_ble_eq_true rfl⟩ hP hS hl.1 rfl (Nat.le_of_ble_eq_true rfl) dL_digits_34 ⟨Nat.zero_le _, Nat.zero_le _⟩ (fun H locs hP hS => ?_)
      show W p l e rmL_digits s m args below meth c H locs 0 0 _ (F0 m 37 ls [.int q_4, .int v3])
      refine lv_iadd hx hb dL_digits_37 ?_
      obtain ⟨x_7, ex_7, h⟩ := letM_e h
      refine r_nmi ex_7 ?_
      refine lv_istore_n (lv' := [(3, .int x_7), (0, .ref (ga g k0)), (1, .int a1), (4, .int v4)]) hx hb dL_digits_38 rfl hl (by decide) rfl (fun ls hl => ?_)
      refine lv_iload hx hb dL_digits_39 (lv_at hl 3 rfl) ?_
      refine lv_bipush (v := (10 : Int32)) hx hb dL_digits_41 (by decide +kernel) ?_
      refine lv_idiv hx hb dL_digits_43 (by decide) ?_
      obtain ⟨x_8, ex_8, h⟩ := letM_e h
      refine r_nmi ex_8 ?_
      refine lv_istore (lv' := [(4, .int x_8), (3, .int x_7), (0, .ref (ga g k0)), (1, .int a1)]) hx hb dL_digits_44 hl (by decide) rfl (fun ls hl => ?_)
      refine lv_goto (tgt := 17) hx hb dL_digits_46 (by decide) ?_
      exact ih I_5 x_7 x_8 h _ _ _ hP hS (lv_sub hl [2, 3, 1, 0] rfl)
set_option maxHeartbeats 4000000 in
set_option maxRecDepth 100000 in
theorem LL_digits_15 (hG : Apart g NT) (N : Nat) (k0 : Nat) (a1 : Int32) (a2 : Int32) (t0 : tag k0 = 5) (X : Cx g p s m args c cL_digits RL 5) (hr : meth.sig.returnType = (some .int)) (hlk : meth.locks = false) (r0 : Int32) (I0 : Mem) : ∀ (I : Mem) (v3 : Int32) (s0 : Int32), fL_digits_15 N k0 a1 a2 I v3 s0 = some (r0, I0) → ∀ (H : Heap) (locs : List Loc) (ls : Array Slot), Wp g I H → va_S (gA g) s.heap H locs → lv_has ls 5 [(0, .ref (ga g k0)), (1, .int a1), (3, .int v3)] → W p l e rmL_digits s m args below meth c H locs 0 0 (MQ below (Qg g (some (.int r0)) I0) args s 0 0 (gA g)) (F0 m 15 ls [.int s0]) := by
  have hx := X.hx
  have hb := X.hb
  intro I v3 s0 h H locs ls hP hS hl
  unfold fL_digits_15 at h
  refine lv_istore (lv' := [(4, .int s0), (0, .ref (ga g k0)), (1, .int a1), (3, .int v3)]) hx hb dL_digits_15 hl (by decide) rfl (fun ls hl => ?_)
  exact LL_digits_17 hG N k0 a1 a2 t0 X hr hlk r0 I0 N I v3 s0 h _ _ _ hP hS (lv_sub hl [1, 2, 3, 0] rfl)
set_option maxHeartbeats 4000000 in
set_option maxRecDepth 100000 in
theorem ccL_digits (l : Launch) (g : GG) (hG : Apart g NT) (N : Nat) (I : Mem) (k0 : Nat) (a1 : Int32) (a2 : Int32) (t0 : tag k0 = 5) (r0 : Int32) (I0 : Mem) (h : fL_digits N I k0 a1 a2 = some (r0, I0)) : Mc l g yL_digits cL_digits 5 (some .int) rmL_digits I [.ref (ga g k0), .int a1, .int a2] (some (.int r0)) I0 := by
  refine Mc.of hG (by decide +kernel) (Nat.le_of_ble_eq_true rfl) ?_
  intro p e s m args below meth c ls X hr hlk hP hS hl
  have X : Cx g p s m args c cL_digits RL 5 := X
  have hx := X.hx
  have hb := X.hb
  have hl : lv_has ls 5 [(0, .ref (ga g k0)), (1, .int a1), (2, .int a2)] := hl
  have locs : List Loc := []
  unfold fL_digits at h
  refine lv_iconst (v := (0 : Int32)) hx hb dL_digits_0 (by decide +kernel) ?_
  refine lv_istore_n (lv' := [(3, .int (0 : Int32)), (0, .ref (ga g k0)), (1, .int a1), (2, .int a2)]) hx hb dL_digits_1 rfl hl (by decide) rfl (fun ls hl => ?_)
  refine lv_iload_n hx hb dL_digits_2 rfl (lv_at hl 3 rfl) ?_
  refine lv_iconst (v := (4 : Int32)) hx hb dL_digits_3 (by decide +kernel) ?_
  refine lv_icmp_ne (tgt := 13) hx hb dL_digits_4 (by decide) (fun c_1 => ?_) (fun c_1 => ?_)
  · replace h := ifn c_1 h
    refine lv_bipush (v := (100 : Int32)) hx hb dL_digits_13 (by decide +kernel) ?_
    exact LL_digits_15 hG N k0 a1 a2 t0 X hr hlk r0 I0 I (0 : Int32) (100 : Int32) h _ _ _ hP hS (lv_sub hl [1, 2, 0] rfl)
  · replace h := ifp c_1 h
    refine lv_sipush (v := (1000 : Int32)) hx hb dL_digits_7 (by decide +kernel) ?_
    refine lv_goto (tgt := 15) hx hb dL_digits_10 (by decide) ?_
    exact LL_digits_15 hG N k0 a1 a2 t0 X hr hlk r0 I0 I (0 : Int32) (1000 : Int32) h _ _ _ hP hS (lv_sub hl [1, 2, 0] rfl)
abbrev rmL_load : Room := { frames := 6, cells := 0, slots := 0, locals := 133 }
def fL_load_253 (N : Nat) (k0 : Nat) (a1 : Int32) (a2 : Int32) (I : Mem) (s0 : Int32) (s1 : Int32) : Option (Int32 × Mem) :=
    letM (s1 + s0) (fun x_20 : Int32 =>
    clP (f6_load N I k0) (fun (q_21 : Int32) (I_22 : Mem) =>
    some ((((53 : Int32) * x_20) + q_21), I_22)))
def fL_load_66 (N : Nat) (k0 : Nat) (a1 : Int32) (a2 : Int32) : Nat → Mem → Int32 → Int32 → Int32 → Option (Int32 × Mem)
  | 0, _, _, _, _ => none
  | cnt+1, I, v3, v4, v5 =>
    if (a2 - a2 / (6 : Int32) * (6 : Int32)) ≤ v5 then
    if (a1 - a1 / (41 : Int32) * (41 : Int32)) = (0 : Int32) then
    if ((a2 - a2 / (4 : Int32) * (4 : Int32)) < (0 : Int32) ∨ 4 ≤ (a2 - a2 / (4 : Int32) * (4 : Int32)).toNatClampNeg) then none else
    clP (f6_append N I k0 (chS (a2 - a2 / (4 : Int32) * (4 : Int32)))) (fun (q_25 : Int32) (I_26 : Mem) =>
    fL_load_253 N k0 a1 a2 I_26 q_25 v3)
    else
    fL_load_253 N k0 a1 a2 I (0 : Int32) v3
    else
    if (v4 - v4 / (4 : Int32) * (4 : Int32)) = (0 : Int32) then
    clP (f6_append N I k0 (119 : Int32)) (fun (q_138 : Int32) (I_139 : Mem) =>
    clP (fL_digits N I_139 k0 ((1 : Int32) + ((v4 / (4 : Int32)) - (v4 / (4 : Int32)) / (900 : Int32) * (900 : Int32))) (4 : Int32)) (fun (q_141 : Int32) (I_142 : Mem) =>
    letM (v3 + (q_138 + q_141)) (fun x_144 : Int32 =>
    letM ((v4 / (7 : Int32)) + ((104729 : Int32) * (v5 + (1 : Int32)))) (fun x_145 : Int32 =>
    letM (v5 + (1 : Int32)) (fun x_146 : Int32 =>
    fL_load_66 N k0 a1 a2 cnt I_142 x_144 x_145 x_146)))))
    else
    if (v4 - v4 / (8 : Int32) * (8 : Int32)) = (1 : Int32) then
    clP (f6_append N I k0 (109 : Int32)) (fun (q_84 : Int32) (I_85 : Mem) =>
    if ((v4 / (4 : Int32)) - (v4 / (4 : Int32)) / (2 : Int32) * (2 : Int32)) = (0 : Int32) then
    clP (f6_append N I_85 k0 (43 : Int32)) (fun (q_113 : Int32) (I_114 : Mem) =>
    clP (fL_digits N I_114 k0 ((v4 / (8 : Int32)) - (v4 / (8 : Int32)) / (1000 : Int32) * (1000 : Int32)) (3 : Int32)) (fun (q_116 : Int32) (I_117 : Mem) =>
    if ((v4 / (5 : Int32)) - (v4 / (5 : Int32)) / (2 : Int32) * (2 : Int32)) = (0 : Int32) then
    clP (f6_append N I_117 k0 (43 : Int32)) (fun (q_129 : Int32) (I_130 : Mem) =>
    clP (fL_digits N I_130 k0 ((v4 / (11 : Int32)) - (v4 / (11 : Int32)) / (1000 : Int32) * (1000 : Int32)) (3 : Int32)) (fun (q_132 : Int32) (I_133 : Mem) =>
    letM (v3 + ((((q_84 + q_113) + q_116) + q_129) + q_132)) (fun x_135 : Int32 =>
    letM ((v4 / (7 : Int32)) + ((104729 : Int32) * (v5 + (1 : Int32)))) (fun x_136 : Int32 =>
    letM (v5 + (1 : Int32)) (fun x_137 : Int32 =>
    fL_load_66 N k0 a1 a2 cnt I_133 x_135 x_136 x_137)))))
    else
    clP (f6_append N I_117 k0 (45 : Int32)) (fun (q_120 : Int32) (I_121 : Mem) =>
    clP (fL_digits N I_121 k0 ((v4 / (11 : Int32)) - (v4 / (11 : Int32)) / (1000 : Int32) * (1000 : Int32)) (3 : Int32)) (fun (q_123 : Int32) (I_124 : Mem) =>
    letM (v3 + ((((q_84 + q_113) + q_116) + q_120) + q_123)) (fun x_126 : Int32 =>
    letM ((v4 / (7 : Int32)) + ((104729 : Int32) * (v5 + (1 : Int32)))) (fun x_127 : Int32 =>
    letM (v5 + (1 : Int32)) (fun x_128 : Int32 =>
    fL_load_66 N k0 a1 a2 cnt I_124 x_126 x_127 x_128)))))))
    else
    clP (f6_append N I_85 k0 (45 : Int32)) (fun (q_88 : Int32) (I_89 : Mem) =>
    clP (fL_digits N I_89 k0 ((v4 / (8 : Int32)) - (v4 / (8 : Int32)) / (1000 : Int32) * (1000 : Int32)) (3 : Int32)) (fun (q_91 : Int32) (I_92 : Mem) =>
    if ((v4 / (5 : Int32)) - (v4 / (5 : Int32)) / (2 : Int32) * (2 : Int32)) = (0 : Int32) then
    clP (f6_append N I_92 k0 (43 : Int32)) (fun (q_104 : Int32) (I_105 : Mem) =>
    clP (fL_digits N I_105 k0 ((v4 / (11 : Int32)) - (v4 / (11 : Int32)) / (1000 : Int32) * (1000 : Int32)) (3 : Int32)) (fun (q_107 : Int32) (I_108 : Mem) =>
    letM (v3 + ((((q_84 + q_88) + q_91) + q_104) + q_107)) (fun x_110 : Int32 =>
    letM ((v4 / (7 : Int32)) + ((104729 : Int32) * (v5 + (1 : Int32)))) (fun x_111 : Int32 =>
    letM (v5 + (1 : Int32)) (fun x_112 : Int32 =>
    fL_load_66 N k0 a1 a2 cnt I_108 x_110 x_111 x_112)))))
    else
    clP (f6_append N I_92 k0 (45 : Int32)) (fun (q_95 : Int32) (I_96 : Mem) =>
    clP (fL_digits N I_96 k0 ((v4 / (11 : Int32)) - (v4 / (11 : Int32)) / (1000 : Int32) * (1000 : Int32)) (3 : Int32)) (fun (q_98 : Int32) (I_99 : Mem) =>
    letM (v3 + ((((q_84 + q_88) + q_91) + q_95) + q_98)) (fun x_101 : Int32 =>
    letM ((v4 / (7 : Int32)) + ((104729 : Int32) * (v5 + (1 : Int32)))) (fun x_102 : Int32 =>
    letM (v5 + (1 : Int32)) (fun x_103 : Int32 =>
    fL_load_66 N k0 a1 a2 cnt I_99 x_101 x_102 x_103))))))))
    else
    clP (f6_append N I k0 (109 : Int32)) (fun (q_30 : Int32) (I_31 : Mem) =>
    if ((v4 / (4 : Int32)) - (v4 / (4 : Int32)) / (2 : Int32) * (2 : Int32)) = (0 : Int32) then
    clP (f6_append N I_31 k0 (43 : Int32)) (fun (q_59 : Int32) (I_60 : Mem) =>
    clP (fL_digits N I_60 k0 ((v4 / (8 : Int32)) - (v4 / (8 : Int32)) / (40 : Int32) * (40 : Int32)) (3 : Int32)) (fun (q_62 : Int32) (I_63 : Mem) =>
    if ((v4 / (5 : Int32)) - (v4 / (5 : Int32)) / (2 : Int32) * (2 : Int32)) = (0 : Int32) then
    clP (f6_append N I_63 k0 (43 : Int32)) (fun (q_75 : Int32) (I_76 : Mem) =>
    clP (fL_digits N I_76 k0 ((v4 / (11 : Int32)) - (v4 / (11 : Int32)) / (40 : Int32) * (40 : Int32)) (3 : Int32)) (fun (q_78 : Int32) (I_79 : Mem) =>
    letM (v3 + ((((q_30 + q_59) + q_62) + q_75) + q_78)) (fun x_81 : Int32 =>
    letM ((v4 / (7 : Int32)) + ((104729 : Int32) * (v5 + (1 : Int32)))) (fun x_82 : Int32 =>
    letM (v5 + (1 : Int32)) (fun x_83 : Int32 =>
    fL_load_66 N k0 a1 a2 cnt I_79 x_81 x_82 x_83)))))
    else
    clP (f6_append N I_63 k0 (45 : Int32)) (fun (q_66 : Int32) (I_67 : Mem) =>
    clP (fL_digits N I_67 k0 ((v4 / (11 : Int32)) - (v4 / (11 : Int32)) / (40 : Int32) * (40 : Int32)) (3 : Int32)) (fun (q_69 : Int32) (I_70 : Mem) =>
    letM (v3 + ((((q_30 + q_59) + q_62) + q_66) + q_69)) (fun x_72 : Int32 =>
    letM ((v4 / (7 : Int32)) + ((104729 : Int32) * (v5 + (1 : Int32)))) (fun x_73 : Int32 =>
    letM (v5 + (1 : Int32)) (fun x_74 : Int32 =>
    fL_load_66 N k0 a1 a2 cnt I_70 x_72 x_73 x_74)))))))
    else
    clP (f6_append N I_31 k0 (45 : Int32)) (fun (q_34 : Int32) (I_35 : Mem) =>
    clP (fL_digits N I_35 k0 ((v4 / (8 : Int32)) - (v4 / (8 : Int32)) / (40 : Int32) * (40 : Int32)) (3 : Int32)) (fun (q_37 : Int32) (I_38 : Mem) =>
    if ((v4 / (5 : Int32)) - (v4 / (5 : Int32)) / (2 : Int32) * (2 : Int32)) = (0 : Int32) then
    clP (f6_append N I_38 k0 (43 : Int32)) (fun (q_50 : Int32) (I_51 : Mem) =>
    clP (fL_digits N I_51 k0 ((v4 / (11 : Int32)) - (v4 / (11 : Int32)) / (40 : Int32) * (40 : Int32)) (3 : Int32)) (fun (q_53 : Int32) (I_54 : Mem) =>
    letM (v3 + ((((q_30 + q_34) + q_37) + q_50) + q_53)) (fun x_56 : Int32 =>
    letM ((v4 / (7 : Int32)) + ((104729 : Int32) * (v5 + (1 : Int32)))) (fun x_57 : Int32 =>
    letM (v5 + (1 : Int32)) (fun x_58 : Int32 =>
    fL_load_66 N k0 a1 a2 cnt I_54 x_56 x_57 x_58)))))
    else
    clP (f6_append N I_38 k0 (45 : Int32)) (fun (q_41 : Int32) (I_42 : Mem) =>
    clP (fL_digits N I_42 k0 ((v4 / (11 : Int32)) - (v4 / (11 : Int32)) / (40 : Int32) * (40 : Int32)) (3 : Int32)) (fun (q_44 : Int32) (I_45 : Mem) =>
    letM (v3 + ((((q_30 + q_34) + q_37) + q_41) + q_44)) (fun x_47 : Int32 =>
    letM ((v4 / (7 : Int32)) + ((104729 : Int32) * (v5 + (1 : Int32)))) (fun x_48 : Int32 =>
    letM (v5 + (1 : Int32)) (fun x_49 : Int32 =>
    fL_load_66 N k0 a1 a2 cnt I_45 x_47 x_48 x_49))))))))
def fL_load_29 (N : Nat) (k0 : Nat) (a1 : Int32) (a2 : Int32) (I : Mem) (s0 : Int32) (s1 : Int32) (s3 : Int32) : Option (Int32 × Mem) :=
    clP (fL_digits N I k0 (s1 + s0) (3 : Int32)) (fun (q_8 : Int32) (I_9 : Mem) =>
    clP (f6_append N I_9 k0 (118 : Int32)) (fun (q_11 : Int32) (I_12 : Mem) =>
    clP (fL_digits N I_12 k0 ((1 : Int32) + ((a1 / (999 : Int32)) - (a1 / (999 : Int32)) / (999 : Int32) * (999 : Int32))) (3 : Int32)) (fun (q_14 : Int32) (I_15 : Mem) =>
    letM (((s3 + q_8) + q_11) + q_14) (fun x_17 : Int32 =>
    fL_load_66 N k0 a1 a2 N I_15 x_17 a2 (0 : Int32)))))
def fL_load (N : Nat) (I : Mem) (k0 : Nat) (a1 : Int32) (a2 : Int32) : Option (Int32 × Mem) :=
    clP (f6_clearText N I k0) (fun (q_1 : Int32) (I_2 : Mem) =>
    clP (f6_append N I_2 k0 (97 : Int32)) (fun (q_4 : Int32) (I_5 : Mem) =>
    if (a1 - a1 / (43 : Int32) * (43 : Int32)) = (0 : Int32) then
    fL_load_29 N k0 a1 a2 I_5 (0 : Int32) (a1 - a1 / (999 : Int32) * (999 : Int32)) (q_1 + q_4)
    else
    fL_load_29 N k0 a1 a2 I_5 (1 : Int32) (a1 - a1 / (999 : Int32) * (999 : Int32)) (q_1 + q_4)))
set_option maxHeartbeats 4000000 in
set_option maxRecDepth 100000 in
theorem LL_load_253 (hG : Apart g NT) (N : Nat) (k0 : Nat) (a1 : Int32) (a2 : Int32) (t0 : tag k0 = 5) (X : Cx g p s m args c cL_load RL 7) (hr : meth.sig.returnType = (some .int)) (hlk : meth.locks = false) (r0 : Int32) (I0 : Mem) : ∀ (I : Mem) (s0 : Int32) (s1 : Int32), fL_load_253 N k0 a1 a2 I s0 s1 = some (r0, I0) → ∀ (H : Heap) (locs : List Loc) (ls : Array Slot), Wp g I H → va_S (gA g) s.heap H locs → lv_has ls 7 [(0, .ref (ga g k0))] → W p l e rmL_load s m args below meth c H locs 0 0 (MQ below (Qg g (some (.int r0)) I0) args s 0 0 (gA g)) (F0 m 253 ls [.int s0, .int s1]) := by
  have hx := X.hx
  have hb := X.hb
  intro I s0 s1 h H locs ls hP hS hl
  unfold fL_load_253 at h
  refine lv_iadd hx hb dL_load_253 ?_
  obtain ⟨x_20, ex_20, h⟩ := letM_e h
  refine r_nmi ex_20 ?_
  refine lv_istore_n (lv' := [(3, .int x_20), (0, .ref (ga g k0))]) hx hb dL_load_254 rfl hl (by decide) rfl (fun ls hl => ?_)
  refine lv_bipush (v := (53 : Int32)) hx hb dL_load_255 (by decide +kernel) ?_
  refine lv_iload_n hx hb dL_load_257 rfl (lv_at hl 0 rfl) ?_
  refine lv_imul hx hb dL_load_258 ?_
  refine lv_aload_n hx hb dL_load_259 rfl (lv_at hl 1 rfl) ?_
  obtain ⟨q_21, I_22, hc_23, h⟩ := clP_e h
  refine r_callV (As := []) [.int ((53 : Int32) * x_20)] X (c6_load l g hG N _ _ t0 _ _ hc_23) cal_X6_load (im_X6_load) (se_X6_load) k_548 (tag_lt t0 (by decide)) (by rw [lay, t0]; rfl) rfl rfl ⟨rfl, rfl⟩ ⟨Nat.le_of_ble_eq_true rfl, Nat.le_of_ble_eq_true rfl⟩ hP hS hl.1 rfl (Nat.le_of_ble_eq_true rfl) dL_load_260 ⟨Nat.zero_le _, Nat.zero_le _⟩ (fun H locs hP hS => ?_)
  show W p l e rmL_load s m args below meth c H locs 0 0 _ (F0 m 263 ls [.int q_21, .int ((53 : Int32) * x_20)])
  refine lv_iadd hx hb dL_load_263 ?_
  exact r_iret X hr hlk hP hS dL_load_264 h
set_option maxHeartbeats 4000000 in
set_option maxRecDepth 100000 in
theorem LL_load_66 (hG : Apart g NT) (N : Nat) (k0 : Nat) (a1 : Int32) (a2 : Int32) (t0 : tag k0 = 5) (X : Cx g p s m args c cL_load RL 7) (hr : meth.sig.returnType = (some .int)) (hlk : meth.locks = false) (r0 : Int32) (I0 : Mem) : ∀ (cnt : Nat) (I : Mem) (v3 : Int32) (v4 : Int32) (v5 : Int32), fL_load_66 N k0 a1 a2 cnt I v3 v4 v5 = some (r0, I0) → ∀ (H : Heap) (locs : List Loc) (ls : Array Slot), Wp g I H → va_S (gA g) s.heap H locs → lv_has ls 7 [(0, .ref (ga g k0)), (1, .int a1), (2, .int a2), (3, .int v3), (4, .int v4), (5, .int v5)] → W p l e rmL_load s m args below meth c H locs 0 0 (MQ below (Qg g (some (.int r0)) I0) args s 0 0 (gA g)) (F0 m 66 ls []) := by
  have hx := X.hx
  have hb := X.hb
  intro cnt
  induction cnt with
  | zero =>
    intro I v3 v4 v5 h
    rw [fL_load_66] at h
    cases h
  | succ cnt ih =>
    intro I v3 v4 v5 h H locs ls hP hS hl
    rw [fL_load_66] at h
    refine lv_iload hx hb dL_load_66 (lv_at hl 5 rfl) ?_
    refine lv_iload_n hx hb dL_load_68 rfl (lv_at hl 2 rfl) ?_
    refine lv_bipush (v := (6 : Int32)) hx hb dL_load_69 (by decide +kernel) ?_
    refine lv_irem hx hb dL_load_71 (by decide) ?_
    refine lv_icmp_ge (tgt := 229) hx hb dL_load_72 (by decide) (fun c_18 => ?_) (fun c_18 => ?_)
    · replace h := ifp c_18 h
      refine lv_iload_n hx hb dL_load_229 rfl (lv_at hl 3 rfl) ?_
      refine lv_iload_n hx hb dL_load_230 rfl (lv_at hl 1 rfl) ?_
      refine lv_bipush (v := (41 : Int32)) hx hb dL_load_231 (by decide +kernel) ?_
      refine lv_irem hx hb dL_load_233 (by decide) ?_
      refine lv_if_ne (tgt := 252) hx hb dL_load_234 (by decide) (fun c_19 => ?_) (fun c_19 => ?_)
      · replace h := ifn c_19 h
        refine lv_iconst (v := (0 : Int32)) hx hb dL_load_252 (by decide +kernel) ?_
        exact LL_load_253 hG N k0 a1 a2 t0 X hr hlk r0 I0 I (0 : Int32) v3 h _ _ _ hP hS (lv_sub hl [0] rfl)
      · replace h := ifp c_19 h
        refine lv_aload_n hx hb dL_load_237 rfl (lv_at hl 0 rfl) ?_
        refine va_ldcS hx hb X.ow (X.hY.2.2.2.2.2.2.1) dL_load_238 ?_
        refine lv_iload_n hx hb dL_load_240 rfl (lv_at hl 2 rfl) ?_
        refine lv_iconst (v := (4 : Int32)) hx hb dL_load_241 (by decide +kernel) ?_
        refine lv_irem hx hb dL_load_242 (by decide) ?_
        obtain ⟨g_24, h⟩ := gd_e h
        refine r_charAt (k := (a2 - a2 / (4 : Int32) * (4 : Int32))) [.ref (ga g k0), .int v3] hG X g_24 k_508 hP hS hl.1 (Nat.le_of_ble_eq_true rfl) (Nat.le_of_ble_eq_true rfl) rfl (Nat.le_of_ble_eq_true rfl) dL_load_243 ⟨Nat.zero_le _, Nat.zero_le _⟩ (fun H locs hP hS => ?_)
        show W p l e rmL_load s m args below meth c H locs 0 0 _ (F0 m 246 ls [.int (chS (a2 - a2 / (4 : Int32) * (4 : Int32))), .ref (ga g k0), .int v3])
        obtain ⟨q_25, I_26, hc_27, h⟩ := clP_e h
        refine r_callV (As := [.int (chS (a2 - a2 / (4 : Int32) * (4 : Int32)))]) [.int v3] X (c6_append l g hG N _ _ _ t0 _ _ hc_27) cal_X6_append (im_X6_append) (se_X6_append) k_188 (tag_lt t0 (by decide)) (by rw [lay, t0]; rfl) rfl rfl ⟨rfl, rfl⟩ ⟨Nat.le_of_ble_eq_true rfl, Nat.le_of_ble_eq_true rfl⟩ hP hS hl.1 rfl (Nat.le_of_ble_eq_true rfl) dL_load_246 ⟨Nat.zero_le _, Nat.zero_le _⟩ (fun H locs hP hS => ?_)
        show W p l e rmL_load s m args below meth c H locs 0 0 _ (F0 m 249 ls [.int q_25, .int v3])
        refine lv_goto (tgt := 253) hx hb dL_load_249 (by decide) ?_
        exact LL_load_253 hG N k0 a1 a2 t0 X hr hlk r0 I0 I_26 q_25 v3 h _ _ _ hP hS (lv_sub hl [0] rfl)
    · replace h := ifn c_18 h
      refine lv_iload hx hb dL_load_75 (lv_at hl 4 rfl) ?_
      refine lv_iconst (v := (4 : Int32)) hx hb dL_load_77 (by decide +kernel) ?_
      refine lv_irem hx hb dL_load_78 (by decide) ?_
      refine lv_if_ne (tgt := 110) hx hb dL_load_79 (by decide) (fun c_28 => ?_) (fun c_28 => ?_)
      · replace h := ifn c_28 h
        refine lv_iload hx hb dL_load_110 (lv_at hl 4 rfl) ?_
        refine lv_bipush (v := (8 : Int32)) hx hb dL_load_112 (by decide +kernel) ?_
        refine lv_irem hx hb dL_load_114 (by decide) ?_
        refine lv_iconst (v := (1 : Int32)) hx hb dL_load_115 (by decide +kernel) ?_
        refine lv_icmp_ne (tgt := 125) hx hb dL_load_116 (by decide) (fun c_29 => ?_) (fun c_29 => ?_)
        · replace h := ifn c_29 h
          refine lv_bipush (v := (40 : Int32)) hx hb dL_load_125 (by decide +kernel) ?_
          refine lv_istore (lv' := [(6, .int (40 : Int32)), (0, .ref (ga g k0)), (1, .int a1), (2, .int a2), (3, .int v3), (4, .int v4), (5, .int v5)]) hx hb dL_load_127 hl (by decide) rfl (fun ls hl => ?_)
          refine lv_iload_n hx hb dL_load_129 rfl (lv_at hl 4 rfl) ?_
          refine lv_aload_n hx hb dL_load_130 rfl (lv_at hl 1 rfl) ?_
          refine lv_bipush (v := (109 : Int32)) hx hb dL_load_131 (by decide +kernel) ?_
          obtain ⟨q_30, I_31, hc_32, h⟩ := clP_e h
          refine r_callV (As := [.int (109 : Int32)]) [.int v3] X (c6_append l g hG N _ _ _ t0 _ _ hc_32) cal_X6_append (im_X6_append) (se_X6_append) k_188 (tag_lt t0 (by decide)) (by rw [lay, t0]; rfl) rfl rfl ⟨rfl, rfl⟩ ⟨Nat.le_of_ble_eq_true rfl, Nat.le_of_ble_eq_true rfl⟩ hP hS hl.1 rfl (Nat.le_of_ble_eq_true rfl) dL_load_133 ⟨Nat.zero_le _, Nat.zero_le _⟩ (fun H locs hP hS => ?_)
          show W p l e rmL_load s m args below meth c H locs 0 0 _ (F0 m 136 ls [.int q_30, .int v3])
          refine lv_aload_n hx hb dL_load_136 rfl (lv_at hl 1 rfl) ?_
          refine lv_iload hx hb dL_load_137 (lv_at hl 5 rfl) ?_
          refine lv_iconst (v := (4 : Int32)) hx hb dL_load_139 (by decide +kernel) ?_
          refine lv_idiv hx hb dL_load_140 (by decide) ?_
          refine lv_iconst (v := (2 : Int32)) hx hb dL_load_141 (by decide +kernel) ?_
          refine lv_irem hx hb dL_load_142 (by decide) ?_
          refine lv_if_ne (tgt := 151) hx hb dL_load_143 (by decide) (fun c_33 => ?_) (fun c_33 => ?_)
          · replace h := ifn c_33 h
            refine lv_bipush (v := (45 : Int32)) hx hb dL_load_151 (by decide +kernel) ?_
            obtain ⟨q_34, I_35, hc_36, h⟩ := clP_e h
            refine r_callV (As := [.int (45 : Int32)]) [.int q_30, .int v3] X (c6_append l g hG N _ _ _ t0 _ _ hc_36) cal_X6_append (im_X6_append) (se_X6_append) k_188 (tag_lt t0 (by decide)) (by rw [lay, t0]; rfl) rfl rfl ⟨rfl, rfl⟩ ⟨Nat.le_of_ble_eq_true rfl, Nat.le_of_ble_eq_true rfl⟩ hP hS hl.1 rfl (Nat.le_of_ble_eq_true rfl) dL_load_153 ⟨Nat.zero_le _, Nat.zero_le _⟩ (fun H locs hP hS => ?_)
            show W p l e rmL_load s m args below meth c H locs 0 0 _ (F0 m 156 ls [.int q_34, .int q_30, .int v3])
            refine lv_iadd hx hb dL_load_156 ?_
            refine lv_aload_n hx hb dL_load_157 rfl (lv_at hl 1 rfl) ?_
            refine lv_iload hx hb dL_load_158 (lv_at hl 5 rfl) ?_
            refine lv_bipush (v := (8 : Int32)) hx hb dL_load_160 (by decide +kernel) ?_
            refine lv_idiv hx hb dL_load_162 (by decide) ?_
            refine lv_iload hx hb dL_load_163 (lv_at hl 0 rfl) ?_
            refine lv_irem hx hb dL_load_165 (by decide) ?_
            refine lv_iconst (v := (3 : Int32)) hx hb dL_load_166 (by decide +kernel) ?_
            obtain ⟨q_37, I_38, hc_39, h⟩ := clP_e h
            refine r_callS (As := [.ref (ga g k0), .int ((v4 / (8 : Int32)) - (v4 / (8 : Int32)) / (40 : Int32) * (40 : Int32)), .int (3 : Int32)]) [.int (q_30 + q_34), .int v3] X (ccL_digits l g hG N _ _ _ _ t0 _ _ hc_39) cal_L_digits (sc_L_digits) k_503 rfl ⟨rfl, rfl⟩ ⟨Nat.le_of_ble_eq_true rfl, Nat.le_of_ble_eq_true rfl⟩ hP hS hl.1 rfl (Nat.le_of_ble_eq_true rfl) dL_load_167 ⟨Nat.zero_le _, Nat.zero_le _⟩ (fun H locs hP hS => ?_)
            show W p l e rmL_load s m args below meth c H locs 0 0 _ (F0 m 170 ls [.int q_37, .int (q_30 + q_34), .int v3])
            refine lv_iadd hx hb dL_load_170 ?_
            refine lv_aload_n hx hb dL_load_171 rfl (lv_at hl 1 rfl) ?_
            refine lv_iload hx hb dL_load_172 (lv_at hl 5 rfl) ?_
            refine lv_iconst (v := (5 : Int32)) hx hb dL_load_174 (by decide +kernel) ?_
            refine lv_idiv hx hb dL_load_175 (by decide) ?_
            refine lv_iconst (v := (2 : Int32)) hx hb dL_load_176 (by decide +kernel) ?_
            refine lv_irem hx hb dL_load_177 (by decide) ?_
            refine lv_if_ne (tgt := 186) hx hb dL_load_178 (by decide) (fun c_40 => ?_) (fun c_40 => ?_)
            · replace h := ifn c_40 h
              refine lv_bipush (v := (45 : Int32)) hx hb dL_load_186 (by decide +kernel) ?_
              obtain ⟨q_41, I_42, hc_43, h⟩ := clP_e h
              refine r_callV (As := [.int (45 : Int32)]) [.int ((q_30 + q_34) + q_37), .int v3] X (c6_append l g hG N _ _ _ t0 _ _ hc_43) cal_X6_append (im_X6_append) (se_X6_append) k_188 (tag_lt t0 (by decide)) (by rw [lay, t0]; rfl) rfl rfl ⟨rfl, rfl⟩ ⟨Nat.le_of_ble_eq_true rfl, Nat.le_of_ble_eq_true rfl⟩ hP hS hl.1 rfl (Nat.le_of_ble_eq_true rfl) dL_load_188 ⟨Nat.zero_le _, Nat.zero_le _⟩ (fun H locs hP hS => ?_)
              show W p l e rmL_load s m args below meth c H locs 0 0 _ (F0 m 191 ls [.int q_41, .int ((q_30 + q_34) + q_37), .int v3])
              refine lv_iadd hx hb dL_load_191 ?_
              refine lv_aload_n hx hb dL_load_192 rfl (lv_at hl 1 rfl) ?_
              refine lv_iload hx hb dL_load_193 (lv_at hl 5 rfl) ?_
              refine lv_bipush (v := (11 : Int32)) hx hb dL_load_195 (by decide +kernel) ?_
              refine lv_idiv hx hb dL_load_197 (by decide) ?_
              refine lv_iload hx hb dL_load_198 (lv_at hl 0 rfl) ?_
              refine lv_irem hx hb dL_load_200 (by decide) ?_
              refine lv_iconst (v := (3 : Int32)) hx hb dL_load_201 (by decide +kernel) ?_
              obtain ⟨q_44, I_45, hc_46, h⟩ := clP_e h
              refine r_callS (As := [.ref (ga g k0), .int ((v4 / (11 : Int32)) - (v4 / (11 : Int32)) / (40 : Int32) * (40 : Int32)), .int (3 : Int32)]) [.int (((q_30 + q_34) + q_37) + q_41), .int v3] X (ccL_digits l g hG N _ _ _ _ t0 _ _ hc_46) cal_L_digits (sc_L_digits) k_503 rfl ⟨rfl, rfl⟩ ⟨Nat.le_of_ble_eq_true rfl, Nat.le_of_ble_eq_true rfl⟩ hP hS hl.1 rfl (Nat.le_of_ble_eq_true rfl) dL_load_202 ⟨Nat.zero_le _, Nat.zero_le _⟩ (fun H locs hP hS => ?_)
              show W p l e rmL_load s m args below meth c H locs 0 0 _ (F0 m 205 ls [.int q_44, .int (((q_30 + q_34) + q_37) + q_41), .int v3])
              refine lv_iadd hx hb dL_load_205 ?_
              refine lv_iadd hx hb dL_load_206 ?_
              obtain ⟨x_47, ex_47, h⟩ := letM_e h
              refine r_nmi ex_47 ?_
              refine lv_istore_n (lv' := [(3, .int x_47), (6, .int (40 : Int32)), (0, .ref (ga g k0)), (1, .int a1), (2, .int a2), (4, .int v4), (5, .int v5)]) hx hb dL_load_207 rfl hl (by decide) rfl (fun ls hl => ?_)
              refine lv_iload hx hb dL_load_208 (lv_at hl 5 rfl) ?_
              refine lv_bipush (v := (7 : Int32)) hx hb dL_load_210 (by decide +kernel) ?_
              refine lv_idiv hx hb dL_load_212 (by decide) ?_
              refine lv_ldc (v := (104729 : Int32)) hx hb X.ow (X.hts _ k_506) dL_load_213 ?_
              refine lv_iload hx hb dL_load_215 (lv_at hl 6 rfl) ?_
              refine lv_iconst (v := (1 : Int32)) hx hb dL_load_217 (by decide +kernel) ?_
              refine lv_iadd hx hb dL_load_218 ?_
              refine lv_imul hx hb dL_load_219 ?_
              refine lv_iadd hx hb dL_load_220 ?_
              obtain ⟨x_48, ex_48, h⟩ := letM_e h
              refine r_nmi ex_48 ?_
              refine lv_istore (lv' := [(4, .int x_48), (3, .int x_47), (6, .int (40 : Int32)), (0, .ref (ga g k0)), (1, .int a1), (2, .int a2), (5, .int v5)]) hx hb dL_load_221 hl (by decide) rfl (fun ls hl => ?_)
              obtain ⟨x_49, ex_49, h⟩ := letM_e h
              refine lv_iinc (v := x_49) (lv' := [(5, .int x_49), (4, .int x_48), (3, .int x_47), (6, .int (40 : Int32)), (0, .ref (ga g k0)), (1, .int a1), (2, .int a2)]) hx hb dL_load_223 hl (k := 6) rfl (by rw [ex_49]; rfl) (by decide) rfl (fun ls hl => ?_)
              refine lv_goto (tgt := 66) hx hb dL_load_226 (by decide) ?_
              exact ih I_45 x_47 x_48 x_49 h _ _ _ hP hS (lv_sub hl [4, 5, 6, 2, 1, 0] rfl)
            · replace h := ifp c_40 h
              refine lv_bipush (v := (43 : Int32)) hx hb dL_load_181 (by decide +kernel) ?_
              refine lv_goto (tgt := 188) hx hb dL_load_183 (by decide) ?_
              obtain ⟨q_50, I_51, hc_52, h⟩ := clP_e h
              refine r_callV (As := [.int (43 : Int32)]) [.int ((q_30 + q_34) + q_37), .int v3] X (c6_append l g hG N _ _ _ t0 _ _ hc_52) cal_X6_append (im_X6_append) (se_X6_append) k_188 (tag_lt t0 (by decide)) (by rw [lay, t0]; rfl) rfl rfl ⟨rfl, rfl⟩ ⟨Nat.le_of_ble_eq_true rfl, Nat.le_of_ble_eq_true rfl⟩ hP hS hl.1 rfl (Nat.le_of_ble_eq_true rfl) dL_load_188 ⟨Nat.zero_le _, Nat.zero_le _⟩ (fun H locs hP hS => ?_)
              show W p l e rmL_load s m args below meth c H locs 0 0 _ (F0 m 191 ls [.int q_50, .int ((q_30 + q_34) + q_37), .int v3])
              refine lv_iadd hx hb dL_load_191 ?_
              refine lv_aload_n hx hb dL_load_192 rfl (lv_at hl 1 rfl) ?_
              refine lv_iload hx hb dL_load_193 (lv_at hl 5 rfl) ?_
              refine lv_bipush (v := (11 : Int32)) hx hb dL_load_195 (by decide +kernel) ?_
              refine lv_idiv hx hb dL_load_197 (by decide) ?_
              refine lv_iload hx hb dL_load_198 (lv_at hl 0 rfl) ?_
              refine lv_irem hx hb dL_load_200 (by decide) ?_
              refine lv_iconst (v := (3 : Int32)) hx hb dL_load_201 (by decide +kernel) ?_
              obtain ⟨q_53, I_54, hc_55, h⟩ := clP_e h
              refine r_callS (As := [.ref (ga g k0), .int ((v4 / (11 : Int32)) - (v4 / (11 : Int32)) / (40 : Int32) * (40 : Int32)), .int (3 : Int32)]) [.int (((q_30 + q_34) + q_37) + q_50), .int v3] X (ccL_digits l g hG N _ _ _ _ t0 _ _ hc_55) cal_L_digits (sc_L_digits) k_503 rfl ⟨rfl, rfl⟩ ⟨Nat.le_of_ble_eq_true rfl, Nat.le_of_ble_eq_true rfl⟩ hP hS hl.1 rfl (Nat.le_of_ble_eq_true rfl) dL_load_202 ⟨Nat.zero_le _, Nat.zero_le _⟩ (fun H locs hP hS => ?_)
              show W p l e rmL_load s m args below meth c H locs 0 0 _ (F0 m 205 ls [.int q_53, .int (((q_30 + q_34) + q_37) + q_50), .int v3])
              refine lv_iadd hx hb dL_load_205 ?_
              refine lv_iadd hx hb dL_load_206 ?_
              obtain ⟨x_56, ex_56, h⟩ := letM_e h
              refine r_nmi ex_56 ?_
              refine lv_istore_n (lv' := [(3, .int x_56), (6, .int (40 : Int32)), (0, .ref (ga g k0)), (1, .int a1), (2, .int a2), (4, .int v4), (5, .int v5)]) hx hb dL_load_207 rfl hl (by decide) rfl (fun ls hl => ?_)
              refine lv_iload hx hb dL_load_208 (lv_at hl 5 rfl) ?_
              refine lv_bipush (v := (7 : Int32)) hx hb dL_load_210 (by decide +kernel) ?_
              refine lv_idiv hx hb dL_load_212 (by decide) ?_
              refine lv_ldc (v := (104729 : Int32)) hx hb X.ow (X.hts _ k_506) dL_load_213 ?_
              refine lv_iload hx hb dL_load_215 (lv_at hl 6 rfl) ?_
              refine lv_iconst (v := (1 : Int32)) hx hb dL_load_217 (by decide +kernel) ?_
              refine lv_iadd hx hb dL_load_218 ?_
              refine lv_imul hx hb dL_load_219 ?_
              refine lv_iadd hx hb dL_load_220 ?_
              obtain ⟨x_57, ex_57, h⟩ := letM_e h
              refine r_nmi ex_57 ?_
              refine lv_istore (lv' := [(4, .int x_57), (3, .int x_56), (6, .int (40 : Int32)), (0, .ref (ga g k0)), (1, .int a1), (2, .int a2), (5, .int v5)]) hx hb dL_load_221 hl (by decide) rfl (fun ls hl => ?_)
              obtain ⟨x_58, ex_58, h⟩ := letM_e h
              refine lv_iinc (v := x_58) (lv' := [(5, .int x_58), (4, .int x_57), (3, .int x_56), (6, .int (40 : Int32)), (0, .ref (ga g k0)), (1, .int a1), (2, .int a2)]) hx hb dL_load_223 hl (k := 6) rfl (by rw [ex_58]; rfl) (by decide) rfl (fun ls hl => ?_)
              refine lv_goto (tgt := 66) hx hb dL_load_226 (by decide) ?_
              exact ih I_54 x_56 x_57 x_58 h _ _ _ hP hS (lv_sub hl [4, 5, 6, 2, 1, 0] rfl)
          · replace h := ifp c_33 h
            refine lv_bipush (v := (43 : Int32)) hx hb dL_load_146 (by decide +kernel) ?_
            refine lv_goto (tgt := 153) hx hb dL_load_148 (by decide) ?_
            obtain ⟨q_59, I_60, hc_61, h⟩ := clP_e h
            refine r_callV (As := [.int (43 : Int32)]) [.int q_30, .int v3] X (c6_append l g hG N _ _ _ t0 _ _ hc_61) cal_X6_append (im_X6_append) (se_X6_append) k_188 (tag_lt t0 (by decide)) (by rw [lay, t0]; rfl) rfl rfl ⟨rfl, rfl⟩ ⟨Nat.le_of_ble_eq_true rfl, Nat.le_of_ble_eq_true rfl⟩ hP hS hl.1 rfl (Nat.le_of_ble_eq_true rfl) dL_load_153 ⟨Nat.zero_le _, Nat.zero_le _⟩ (fun H locs hP hS => ?_)
            show W p l e rmL_load s m args below meth c H locs 0 0 _ (F0 m 156 ls [.int q_59, .int q_30, .int v3])
            refine lv_iadd hx hb dL_load_156 ?_
            refine lv_aload_n hx hb dL_load_157 rfl (lv_at hl 1 rfl) ?_
            refine lv_iload hx hb dL_load_158 (lv_at hl 5 rfl) ?_
            refine lv_bipush (v := (8 : Int32)) hx hb dL_load_160 (by decide +kernel) ?_
            refine lv_idiv hx hb dL_load_162 (by decide) ?_
            refine lv_iload hx hb dL_load_163 (lv_at hl 0 rfl) ?_
            refine lv_irem hx hb dL_load_165 (by decide) ?_
            refine lv_iconst (v := (3 : Int32)) hx hb dL_load_166 (by decide +kernel) ?_
            obtain ⟨q_62, I_63, hc_64, h⟩ := clP_e h
            refine r_callS (As := [.ref (ga g k0), .int ((v4 / (8 : Int32)) - (v4 / (8 : Int32)) / (40 : Int32) * (40 : Int32)), .int (3 : Int32)]) [.int (q_30 + q_59), .int v3] X (ccL_digits l g hG N _ _ _ _ t0 _ _ hc_64) cal_L_digits (sc_L_digits) k_503 rfl ⟨rfl, rfl⟩ ⟨Nat.le_of_ble_eq_true rfl, Nat.le_of_ble_eq_true rfl⟩ hP hS hl.1 rfl (Nat.le_of_ble_eq_true rfl) dL_load_167 ⟨Nat.zero_le _, Nat.zero_le _⟩ (fun H locs hP hS => ?_)
            show W p l e rmL_load s m args below meth c H locs 0 0 _ (F0 m 170 ls [.int q_62, .int (q_30 + q_59), .int v3])
            refine lv_iadd hx hb dL_load_170 ?_
            refine lv_aload_n hx hb dL_load_171 rfl (lv_at hl 1 rfl) ?_
            refine lv_iload hx hb dL_load_172 (lv_at hl 5 rfl) ?_
            refine lv_iconst (v := (5 : Int32)) hx hb dL_load_174 (by decide +kernel) ?_
            refine lv_idiv hx hb dL_load_175 (by decide) ?_
            refine lv_iconst (v := (2 : Int32)) hx hb dL_load_176 (by decide +kernel) ?_
            refine lv_irem hx hb dL_load_177 (by decide) ?_
            refine lv_if_ne (tgt := 186) hx hb dL_load_178 (by decide) (fun c_65 => ?_) (fun c_65 => ?_)
            · replace h := ifn c_65 h
              refine lv_bipush (v := (45 : Int32)) hx hb dL_load_186 (by decide +kernel) ?_
              obtain ⟨q_66, I_67, hc_68, h⟩ := clP_e h
              refine r_callV (As := [.int (45 : Int32)]) [.int ((q_30 + q_59) + q_62), .int v3] X (c6_append l g hG N _ _ _ t0 _ _ hc_68) cal_X6_append (im_X6_append) (se_X6_append) k_188 (tag_lt t0 (by decide)) (by rw [lay, t0]; rfl) rfl rfl ⟨rfl, rfl⟩ ⟨Nat.le_of_ble_eq_true rfl, Nat.le_of_ble_eq_true rfl⟩ hP hS hl.1 rfl (Nat.le_of_ble_eq_true rfl) dL_load_188 ⟨Nat.zero_le _, Nat.zero_le _⟩ (fun H locs hP hS => ?_)
              show W p l e rmL_load s m args below meth c H locs 0 0 _ (F0 m 191 ls [.int q_66, .int ((q_30 + q_59) + q_62), .int v3])
              refine lv_iadd hx hb dL_load_191 ?_
              refine lv_aload_n hx hb dL_load_192 rfl (lv_at hl 1 rfl) ?_
              refine lv_iload hx hb dL_load_193 (lv_at hl 5 rfl) ?_
              refine lv_bipush (v := (11 : Int32)) hx hb dL_load_195 (by decide +kernel) ?_
              refine lv_idiv hx hb dL_load_197 (by decide) ?_
              refine lv_iload hx hb dL_load_198 (lv_at hl 0 rfl) ?_
              refine lv_irem hx hb dL_load_200 (by decide) ?_
              refine lv_iconst (v := (3 : Int32)) hx hb dL_load_201 (by decide +kernel) ?_
              obtain ⟨q_69, I_70, hc_71, h⟩ := clP_e h
              refine r_callS (As := [.ref (ga g k0), .int ((v4 / (11 : Int32)) - (v4 / (11 : Int32)) / (40 : Int32) * (40 : Int32)), .int (3 : Int32)]) [.int (((q_30 + q_59) + q_62) + q_66), .int v3] X (ccL_digits l g hG N _ _ _ _ t0 _ _ hc_71) cal_L_digits (sc_L_digits) k_503 rfl ⟨rfl, rfl⟩ ⟨Nat.le_of_ble_eq_true rfl, Nat.le_of_ble_eq_true rfl⟩ hP hS hl.1 rfl (Nat.le_of_ble_eq_true rfl) dL_load_202 ⟨Nat.zero_le _, Nat.zero_le _⟩ (fun H locs hP hS => ?_)
              show W p l e rmL_load s m args below meth c H locs 0 0 _ (F0 m 205 ls [.int q_69, .int (((q_30 + q_59) + q_62) + q_66), .int v3])
              refine lv_iadd hx hb dL_load_205 ?_
              refine lv_iadd hx hb dL_load_206 ?_
              obtain ⟨x_72, ex_72, h⟩ := letM_e h
              refine r_nmi ex_72 ?_
              refine lv_istore_n (lv' := [(3, .int x_72), (6, .int (40 : Int32)), (0, .ref (ga g k0)), (1, .int a1), (2, .int a2), (4, .int v4), (5, .int v5)]) hx hb dL_load_207 rfl hl (by decide) rfl (fun ls hl => ?_)
              refine lv_iload hx hb dL_load_208 (lv_at hl 5 rfl) ?_
              refine lv_bipush (v := (7 : Int32)) hx hb dL_load_210 (by decide +kernel) ?_
              refine lv_idiv hx hb dL_load_212 (by decide) ?_
              refine lv_ldc (v := (104729 : Int32)) hx hb X.ow (X.hts _ k_506) dL_load_213 ?_
              refine lv_iload hx hb dL_load_215 (lv_at hl 6 rfl) ?_
              refine lv_iconst (v := (1 : Int32)) hx hb dL_load_217 (by decide +kernel) ?_
              refine lv_iadd hx hb dL_load_218 ?_
              refine lv_imul hx hb dL_load_219 ?_
              refine lv_iadd hx hb dL_load_220 ?_
              obtain ⟨x_73, ex_73, h⟩ := letM_e h
              refine r_nmi ex_73 ?_
              refine lv_istore (lv' := [(4, .int x_73), (3, .int x_72), (6, .int (40 : Int32)), (0, .ref (ga g k0)), (1, .int a1), (2, .int a2), (5, .int v5)]) hx hb dL_load_221 hl (by decide) rfl (fun ls hl => ?_)
              obtain ⟨x_74, ex_74, h⟩ := letM_e h
              refine lv_iinc (v := x_74) (lv' := [(5, .int x_74), (4, .int x_73), (3, .int x_72), (6, .int (40 : Int32)), (0, .ref (ga g k0)), (1, .int a1), (2, .int a2)]) hx hb dL_load_223 hl (k := 6) rfl (by rw [ex_74]; rfl) (by decide) rfl (fun ls hl => ?_)
              refine lv_goto (tgt := 66) hx hb dL_load_226 (by decide) ?_
              exact ih I_70 x_72 x_73 x_74 h _ _ _ hP hS (lv_sub hl [4, 5, 6, 2, 1, 0] rfl)
            · replace h := ifp c_65 h
              refine lv_bipush (v := (43 : Int32)) hx hb dL_load_181 (by decide +kernel) ?_
              refine lv_goto (tgt := 188) hx hb dL_load_183 (by decide) ?_
              obtain ⟨q_75, I_76, hc_77, h⟩ := clP_e h
              refine r_callV (As := [.int (43 : Int32)]) [.int ((q_30 + q_59) + q_62), .int v3] X (c6_append l g hG N _ _ _ t0 _ _ hc_77) cal_X6_append (im_X6_append) (se_X6_append) k_188 (tag_lt t0 (by decide)) (by rw [lay, t0]; rfl) rfl rfl ⟨rfl, rfl⟩ ⟨Nat.le_of_ble_eq_true rfl, Nat.le_of_ble_eq_true rfl⟩ hP hS hl.1 rfl (Nat.le_of_ble_eq_true rfl) dL_load_188 ⟨Nat.zero_le _, Nat.zero_le _⟩ (fun H locs hP hS => ?_)
              show W p l e rmL_load s m args below meth c H locs 0 0 _ (F0 m 191 ls [.int q_75, .int ((q_30 + q_59) + q_62), .int v3])
              refine lv_iadd hx hb dL_load_191 ?_
              refine lv_aload_n hx hb dL_load_192 rfl (lv_at hl 1 rfl) ?_
              refine lv_iload hx hb dL_load_193 (lv_at hl 5 rfl) ?_
              refine lv_bipush (v := (11 : Int32)) hx hb dL_load_195 (by decide +kernel) ?_
              refine lv_idiv hx hb dL_load_197 (by decide) ?_
              refine lv_iload hx hb dL_load_198 (lv_at hl 0 rfl) ?_
              refine lv_irem hx hb dL_load_200 (by decide) ?_
              refine lv_iconst (v := (3 : Int32)) hx hb dL_load_201 (by decide +kernel) ?_
              obtain ⟨q_78, I_79, hc_80, h⟩ := clP_e h
              refine r_callS (As := [.ref (ga g k0), .int ((v4 / (11 : Int32)) - (v4 / (11 : Int32)) / (40 : Int32) * (40 : Int32)), .int (3 : Int32)]) [.int (((q_30 + q_59) + q_62) + q_75), .int v3] X (ccL_digits l g hG N _ _ _ _ t0 _ _ hc_80) cal_L_digits (sc_L_digits) k_503 rfl ⟨rfl, rfl⟩ ⟨Nat.le_of_ble_eq_true rfl, Nat.le_of_ble_eq_true rfl⟩ hP hS hl.1 rfl (Nat.le_of_ble_eq_true rfl) dL_load_202 ⟨Nat.zero_le _, Nat.zero_le _⟩ (fun H locs hP hS => ?_)
              show W p l e rmL_load s m args below meth c H locs 0 0 _ (F0 m 205 ls [.int q_78, .int (((q_30 + q_59) + q_62) + q_75), .int v3])
              refine lv_iadd hx hb dL_load_205 ?_
              refine lv_iadd hx hb dL_load_206 ?_
              obtain ⟨x_81, ex_81, h⟩ := letM_e h
              refine r_nmi ex_81 ?_
              refine lv_istore_n (lv' := [(3, .int x_81), (6, .int (40 : Int32)), (0, .ref (ga g k0)), (1, .int a1), (2, .int a2), (4, .int v4), (5, .int v5)]) hx hb dL_load_207 rfl hl (by decide) rfl (fun ls hl => ?_)
              refine lv_iload hx hb dL_load_208 (lv_at hl 5 rfl) ?_
              refine lv_bipush (v := (7 : Int32)) hx hb dL_load_210 (by decide +kernel) ?_
              refine lv_idiv hx hb dL_load_212 (by decide) ?_
              refine lv_ldc (v := (104729 : Int32)) hx hb X.ow (X.hts _ k_506) dL_load_213 ?_
              refine lv_iload hx hb dL_load_215 (lv_at hl 6 rfl) ?_
              refine lv_iconst (v := (1 : Int32)) hx hb dL_load_217 (by decide +kernel) ?_
              refine lv_iadd hx hb dL_load_218 ?_
              refine lv_imul hx hb dL_load_219 ?_
              refine lv_iadd hx hb dL_load_220 ?_
              obtain ⟨x_82, ex_82, h⟩ := letM_e h
              refine r_nmi ex_82 ?_
              refine lv_istore (lv' := [(4, .int x_82), (3, .int x_81), (6, .int (40 : Int32)), (0, .ref (ga g k0)), (1, .int a1), (2, .int a2), (5, .int v5)]) hx hb dL_load_221 hl (by decide) rfl (fun ls hl => ?_)
              obtain ⟨x_83, ex_83, h⟩ := letM_e h
              refine lv_iinc (v := x_83) (lv' := [(5, .int x_83), (4, .int x_82), (3, .int x_81), (6, .int (40 : Int32)), (0, .ref (ga g k0)), (1, .int a1), (2, .int a2)]) hx hb dL_load_223 hl (k := 6) rfl (by rw [ex_83]; rfl) (by decide) rfl (fun ls hl => ?_)
              refine lv_goto (tgt := 66) hx hb dL_load_226 (by decide) ?_
              exact ih I_79 x_81 x_82 x_83 h _ _ _ hP hS (lv_sub hl [4, 5, 6, 2, 1, 0] rfl)
        · replace h := ifp c_29 h
          refine lv_sipush (v := (1000 : Int32)) hx hb dL_load_119 (by decide +kernel) ?_
          refine lv_goto (tgt := 127) hx hb dL_load_122 (by decide) ?_
          refine lv_istore (lv' := [(6, .int (1000 : Int32)), (0, .ref (ga g k0)), (1, .int a1), (2, .int a2), (3, .int v3), (4, .int v4), (5, .int v5)]) hx hb dL_load_127 hl (by decide) rfl (fun ls hl => ?_)
          refine lv_iload_n hx hb dL_load_129 rfl (lv_at hl 4 rfl) ?_
          refine lv_aload_n hx hb dL_load_130 rfl (lv_at hl 1 rfl) ?_
          refine lv_bipush (v := (109 : Int32)) hx hb dL_load_131 (by decide +kernel) ?_
          obtain ⟨q_84, I_85, hc_86, h⟩ := clP_e h
          refine r_callV (As := [.int (109 : Int32)]) [.int v3] X (c6_append l g hG N _ _ _ t0 _ _ hc_86) cal_X6_append (im_X6_append) (se_X6_append) k_188 (tag_lt t0 (by decide)) (by rw [lay, t0]; rfl) rfl rfl ⟨rfl, rfl⟩ ⟨Nat.le_of_ble_eq_true rfl, Nat.le_of_ble_eq_true rfl⟩ hP hS hl.1 rfl (Nat.le_of_ble_eq_true rfl) dL_load_133 ⟨Nat.zero_le _, Nat.zero_le _⟩ (fun H locs hP hS => ?_)
          show W p l e rmL_load s m args below meth c H locs 0 0 _ (F0 m 136 ls [.int q_84, .int v3])
          refine lv_aload_n hx hb dL_load_136 rfl (lv_at hl 1 rfl) ?_
          refine lv_iload hx hb dL_load_137 (lv_at hl 5 rfl) ?_
          refine lv_iconst (v := (4 : Int32)) hx hb dL_load_139 (by decide +kernel) ?_
          refine lv_idiv hx hb dL_load_140 (by decide) ?_
          refine lv_iconst (v := (2 : Int32)) hx hb dL_load_141 (by decide +kernel) ?_
          refine lv_irem hx hb dL_load_142 (by decide) ?_
          refine lv_if_ne (tgt := 151) hx hb dL_load_143 (by decide) (fun c_87 => ?_) (fun c_87 => ?_)
          · replace h := ifn c_87 h
            refine lv_bipush (v := (45 : Int32)) hx hb dL_load_151 (by decide +kernel) ?_
            obtain ⟨q_88, I_89, hc_90, h⟩ := clP_e h
            refine r_callV (As := [.int (45 : Int32)]) [.int q_84, .int v3] X (c6_append l g hG N _ _ _ t0 _ _ hc_90) cal_X6_append (im_X6_append) (se_X6_append) k_188 (tag_lt t0 (by decide)) (by rw [lay, t0]; rfl) rfl rfl ⟨rfl, rfl⟩ ⟨Nat.le_of_ble_eq_true rfl, Nat.le_of_ble_eq_true rfl⟩ hP hS hl.1 rfl (Nat.le_of_ble_eq_true rfl) dL_load_153 ⟨Nat.zero_le _, Nat.zero_le _⟩ (fun H locs hP hS => ?_)
            show W p l e rmL_load s m args below meth c H locs 0 0 _ (F0 m 156 ls [.int q_88, .int q_84, .int v3])
            refine lv_iadd hx hb dL_load_156 ?_
            refine lv_aload_n hx hb dL_load_157 rfl (lv_at hl 1 rfl) ?_
            refine lv_iload hx hb dL_load_158 (lv_at hl 5 rfl) ?_
            refine lv_bipush (v := (8 : Int32)) hx hb dL_load_160 (by decide +kernel) ?_
            refine lv_idiv hx hb dL_load_162 (by decide) ?_
            refine lv_iload hx hb dL_load_163 (lv_at hl 0 rfl) ?_
            refine lv_irem hx hb dL_load_165 (by decide) ?_
            refine lv_iconst (v := (3 : Int32)) hx hb dL_load_166 (by decide +kernel) ?_
            obtain ⟨q_91, I_92, hc_93, h⟩ := clP_e h
            refine r_callS (As := [.ref (ga g k0), .int ((v4 / (8 : Int32)) - (v4 / (8 : Int32)) / (1000 : Int32) * (1000 : Int32)), .int (3 : Int32)]) [.int (q_84 + q_88), .int v3] X (ccL_digits l g hG N _ _ _ _ t0 _ _ hc_93) cal_L_digits (sc_L_digits) k_503 rfl ⟨rfl, rfl⟩ ⟨Nat.le_of_ble_eq_true rfl, Nat.le_of_ble_eq_true rfl⟩ hP hS hl.1 rfl (Nat.le_of_ble_eq_true rfl) dL_load_167 ⟨Nat.zero_le _, Nat.zero_le _⟩ (fun H locs hP hS => ?_)
            show W p l e rmL_load s m args below meth c H locs 0 0 _ (F0 m 170 ls [.int q_91, .int (q_84 + q_88), .int v3])
            refine lv_iadd hx hb dL_load_170 ?_
            refine lv_aload_n hx hb dL_load_171 rfl (lv_at hl 1 rfl) ?_
            refine lv_iload hx hb dL_load_172 (lv_at hl 5 rfl) ?_
            refine lv_iconst (v := (5 : Int32)) hx hb dL_load_174 (by decide +kernel) ?_
            refine lv_idiv hx hb dL_load_175 (by decide) ?_
            refine lv_iconst (v := (2 : Int32)) hx hb dL_load_176 (by decide +kernel) ?_
            refine lv_irem hx hb dL_load_177 (by decide) ?_
            refine lv_if_ne (tgt := 186) hx hb dL_load_178 (by decide) (fun c_94 => ?_) (fun c_94 => ?_)
            · replace h := ifn c_94 h
              refine lv_bipush (v := (45 : Int32)) hx hb dL_load_186 (by decide +kernel) ?_
              obtain ⟨q_95, I_96, hc_97, h⟩ := clP_e h
              refine r_callV (As := [.int (45 : Int32)]) [.int ((q_84 + q_88) + q_91), .int v3] X (c6_append l g hG N _ _ _ t0 _ _ hc_97) cal_X6_append (im_X6_append) (se_X6_append) k_188 (tag_lt t0 (by decide)) (by rw [lay, t0]; rfl) rfl rfl ⟨rfl, rfl⟩ ⟨Nat.le_of_ble_eq_true rfl, Nat.le_of_ble_eq_true rfl⟩ hP hS hl.1 rfl (Nat.le_of_ble_eq_true rfl) dL_load_188 ⟨Nat.zero_le _, Nat.zero_le _⟩ (fun H locs hP hS => ?_)
              show W p l e rmL_load s m args below meth c H locs 0 0 _ (F0 m 191 ls [.int q_95, .int ((q_84 + q_88) + q_91), .int v3])
              refine lv_iadd hx hb dL_load_191 ?_
              refine lv_aload_n hx hb dL_load_192 rfl (lv_at hl 1 rfl) ?_
              refine lv_iload hx hb dL_load_193 (lv_at hl 5 rfl) ?_
              refine lv_bipush (v := (11 : Int32)) hx hb dL_load_195 (by decide +kernel) ?_
              refine lv_idiv hx hb dL_load_197 (by decide) ?_
              refine lv_iload hx hb dL_load_198 (lv_at hl 0 rfl) ?_
              refine lv_irem hx hb dL_load_200 (by decide) ?_
              refine lv_iconst (v := (3 : Int32)) hx hb dL_load_201 (by decide +kernel) ?_
              obtain ⟨q_98, I_99, hc_100, h⟩ := clP_e h
              refine r_callS (As := [.ref (ga g k0), .int ((v4 / (11 : Int32)) - (v4 / (11 : Int32)) / (1000 : Int32) * (1000 : Int32)), .int (3 : Int32)]) [.int (((q_84 + q_88) + q_91) + q_95), .int v3] X (ccL_digits l g hG N _ _ _ _ t0 _ _ hc_100) cal_L_digits (sc_L_digits) k_503 rfl ⟨rfl, rfl⟩ ⟨Nat.le_of_ble_eq_true rfl, Nat.le_of_ble_eq_true rfl⟩ hP hS hl.1 rfl (Nat.le_of_ble_eq_true rfl) dL_load_202 ⟨Nat.zero_le _, Nat.zero_le _⟩ (fun H locs hP hS => ?_)
              show W p l e rmL_load s m args below meth c H locs 0 0 _ (F0 m 205 ls [.int q_98, .int (((q_84 + q_88) + q_91) + q_95), .int v3])
              refine lv_iadd hx hb dL_load_205 ?_
              refine lv_iadd hx hb dL_load_206 ?_
              obtain ⟨x_101, ex_101, h⟩ := letM_e h
              refine r_nmi ex_101 ?_
              refine lv_istore_n (lv' := [(3, .int x_101), (6, .int (1000 : Int32)), (0, .ref (ga g k0)), (1, .int a1), (2, .int a2), (4, .int v4), (5, .int v5)]) hx hb dL_load_207 rfl hl (by decide) rfl (fun ls hl => ?_)
              refine lv_iload hx hb dL_load_208 (lv_at hl 5 rfl) ?_
              refine lv_bipush (v := (7 : Int32)) hx hb dL_load_210 (by decide +kernel) ?_
              refine lv_idiv hx hb dL_load_212 (by decide) ?_
              refine lv_ldc (v := (104729 : Int32)) hx hb X.ow (X.hts _ k_506) dL_load_213 ?_
              refine lv_iload hx hb dL_load_215 (lv_at hl 6 rfl) ?_
              refine lv_iconst (v := (1 : Int32)) hx hb dL_load_217 (by decide +kernel) ?_
              refine lv_iadd hx hb dL_load_218 ?_
              refine lv_imul hx hb dL_load_219 ?_
              refine lv_iadd hx hb dL_load_220 ?_
              obtain ⟨x_102, ex_102, h⟩ := letM_e h
              refine r_nmi ex_102 ?_
              refine lv_istore (lv' := [(4, .int x_102), (3, .int x_101), (6, .int (1000 : Int32)), (0, .ref (ga g k0)), (1, .int a1), (2, .int a2), (5, .int v5)]) hx hb dL_load_221 hl (by decide) rfl (fun ls hl => ?_)
              obtain ⟨x_103, ex_103, h⟩ := letM_e h
              refine lv_iinc (v := x_103) (lv' := [(5, .int x_103), (4, .int x_102), (3, .int x_101), (6, .int (1000 : Int32)), (0, .ref (ga g k0)), (1, .int a1), (2, .int a2)]) hx hb dL_load_223 hl (k := 6) rfl (by rw [ex_103]; rfl) (by decide) rfl (fun ls hl => ?_)
              refine lv_goto (tgt := 66) hx hb dL_load_226 (by decide) ?_
              exact ih I_99 x_101 x_102 x_103 h _ _ _ hP hS (lv_sub hl [4, 5, 6, 2, 1, 0] rfl)
            · replace h := ifp c_94 h
              refine lv_bipush (v := (43 : Int32)) hx hb dL_load_181 (by decide +kernel) ?_
              refine lv_goto (tgt := 188) hx hb dL_load_183 (by decide) ?_
              obtain ⟨q_104, I_105, hc_106, h⟩ := clP_e h
              refine r_callV (As := [.int (43 : Int32)]) [.int ((q_84 + q_88) + q_91), .int v3] X (c6_append l g hG N _ _ _ t0 _ _ hc_106) cal_X6_append (im_X6_append) (se_X6_append) k_188 (tag_lt t0 (by decide)) (by rw [lay, t0]; rfl) rfl rfl ⟨rfl, rfl⟩ ⟨Nat.le_of_ble_eq_true rfl, Nat.le_of_ble_eq_true rfl⟩ hP hS hl.1 rfl (Nat.le_of_ble_eq_true rfl) dL_load_188 ⟨Nat.zero_le _, Nat.zero_le _⟩ (fun H locs hP hS => ?_)
              show W p l e rmL_load s m args below meth c H locs 0 0 _ (F0 m 191 ls [.int q_104, .int ((q_84 + q_88) + q_91), .int v3])
              refine lv_iadd hx hb dL_load_191 ?_
              refine lv_aload_n hx hb dL_load_192 rfl (lv_at hl 1 rfl) ?_
              refine lv_iload hx hb dL_load_193 (lv_at hl 5 rfl) ?_
              refine lv_bipush (v := (11 : Int32)) hx hb dL_load_195 (by decide +kernel) ?_
              refine lv_idiv hx hb dL_load_197 (by decide) ?_
              refine lv_iload hx hb dL_load_198 (lv_at hl 0 rfl) ?_
              refine lv_irem hx hb dL_load_200 (by decide) ?_
              refine lv_iconst (v := (3 : Int32)) hx hb dL_load_201 (by decide +kernel) ?_
              obtain ⟨q_107, I_108, hc_109, h⟩ := clP_e h
              refine r_callS (As := [.ref (ga g k0), .int ((v4 / (11 : Int32)) - (v4 / (11 : Int32)) / (1000 : Int32) * (1000 : Int32)), .int (3 : Int32)]) [.int (((q_84 + q_88) + q_91) + q_104), .int v3] X (ccL_digits l g hG N _ _ _ _ t0 _ _ hc_109) cal_L_digits (sc_L_digits) k_503 rfl ⟨rfl, rfl⟩ ⟨Nat.le_of_ble_eq_true rfl, Nat.le_of_ble_eq_true rfl⟩ hP hS hl.1 rfl (Nat.le_of_ble_eq_true rfl) dL_load_202 ⟨Nat.zero_le _, Nat.zero_le _⟩ (fun H locs hP hS => ?_)
              show W p l e rmL_load s m args below meth c H locs 0 0 _ (F0 m 205 ls [.int q_107, .int (((q_84 + q_88) + q_91) + q_104), .int v3])
              refine lv_iadd hx hb dL_load_205 ?_
              refine lv_iadd hx hb dL_load_206 ?_
              obtain ⟨x_110, ex_110, h⟩ := letM_e h
              refine r_nmi ex_110 ?_
              refine lv_istore_n (lv' := [(3, .int x_110), (6, .int (1000 : Int32)), (0, .ref (ga g k0)), (1, .int a1), (2, .int a2), (4, .int v4), (5, .int v5)]) hx hb dL_load_207 rfl hl (by decide) rfl (fun ls hl => ?_)
              refine lv_iload hx hb dL_load_208 (lv_at hl 5 rfl) ?_
              refine lv_bipush (v := (7 : Int32)) hx hb dL_load_210 (by decide +kernel) ?_
              refine lv_idiv hx hb dL_load_212 (by decide) ?_
              refine lv_ldc (v := (104729 : Int32)) hx hb X.ow (X.hts _ k_506) dL_load_213 ?_
              refine lv_iload hx hb dL_load_215 (lv_at hl 6 rfl) ?_
              refine lv_iconst (v := (1 : Int32)) hx hb dL_load_217 (by decide +kernel) ?_
              refine lv_iadd hx hb dL_load_218 ?_
              refine lv_imul hx hb dL_load_219 ?_
              refine lv_iadd hx hb dL_load_220 ?_
              obtain ⟨x_111, ex_111, h⟩ := letM_e h
              refine r_nmi ex_111 ?_
              refine lv_istore (lv' := [(4, .int x_111), (3, .int x_110), (6, .int (1000 : Int32)), (0, .ref (ga g k0)), (1, .int a1), (2, .int a2), (5, .int v5)]) hx hb dL_load_221 hl (by decide) rfl (fun ls hl => ?_)
              obtain ⟨x_112, ex_112, h⟩ := letM_e h
              refine lv_iinc (v := x_112) (lv' := [(5, .int x_112), (4, .int x_111), (3, .int x_110), (6, .int (1000 : Int32)), (0, .ref (ga g k0)), (1, .int a1), (2, .int a2)]) hx hb dL_load_223 hl (k := 6) rfl (by rw [ex_112]; rfl) (by decide) rfl (fun ls hl => ?_)
              refine lv_goto (tgt := 66) hx hb dL_load_226 (by decide) ?_
              exact ih I_108 x_110 x_111 x_112 h _ _ _ hP hS (lv_sub hl [4, 5, 6, 2, 1, 0] rfl)
          · replace h := ifp c_87 h
            refine lv_bipush (v := (43 : Int32)) hx hb dL_load_146 (by decide +kernel) ?_
            refine lv_goto (tgt := 153) hx hb dL_load_148 (by decide) ?_
            obtain ⟨q_113, I_114, hc_115, h⟩ := clP_e h
            refine r_callV (As := [.int (43 : Int32)]) [.int q_84, .int v3] X (c6_append l g hG N _ _ _ t0 _ _ hc_115) cal_X6_append (im_X6_append) (se_X6_append) k_188 (tag_lt t0 (by decide)) (by rw [lay, t0]; rfl) rfl rfl ⟨rfl, rfl⟩ ⟨Nat.le_of_ble_eq_true rfl, Nat.le_of_ble_eq_true rfl⟩ hP hS hl.1 rfl (Nat.le_of_ble_eq_true rfl) dL_load_153 ⟨Nat.zero_le _, Nat.zero_le _⟩ (fun H locs hP hS => ?_)
            show W p l e rmL_load s m args below meth c H locs 0 0 _ (F0 m 156 ls [.int q_113, .int q_84, .int v3])
            refine lv_iadd hx hb dL_load_156 ?_
            refine lv_aload_n hx hb dL_load_157 rfl (lv_at hl 1 rfl) ?_
            refine lv_iload hx hb dL_load_158 (lv_at hl 5 rfl) ?_
            refine lv_bipush (v := (8 : Int32)) hx hb dL_load_160 (by decide +kernel) ?_
            refine lv_idiv hx hb dL_load_162 (by decide) ?_
            refine lv_iload hx hb dL_load_163 (lv_at hl 0 rfl) ?_
            refine lv_irem hx hb dL_load_165 (by decide) ?_
            refine lv_iconst (v := (3 : Int32)) hx hb dL_load_166 (by decide +kernel) ?_
            obtain ⟨q_116, I_117, hc_118, h⟩ := clP_e h
            refine r_callS (As := [.ref (ga g k0), .int ((v4 / (8 : Int32)) - (v4 / (8 : Int32)) / (1000 : Int32) * (1000 : Int32)), .int (3 : Int32)]) [.int (q_84 + q_113), .int v3] X (ccL_digits l g hG N _ _ _ _ t0 _ _ hc_118) cal_L_digits (sc_L_digits) k_503 rfl ⟨rfl, rfl⟩ ⟨Nat.le_of_ble_eq_true rfl, Nat.le_of_ble_eq_true rfl⟩ hP hS hl.1 rfl (Nat.le_of_ble_eq_true rfl) dL_load_167 ⟨Nat.zero_le _, Nat.zero_le _⟩ (fun H locs hP hS => ?_)
            show W p l e rmL_load s m args below meth c H locs 0 0 _ (F0 m 170 ls [.int q_116, .int (q_84 + q_113), .int v3])
            refine lv_iadd hx hb dL_load_170 ?_
            refine lv_aload_n hx hb dL_load_171 rfl (lv_at hl 1 rfl) ?_
            refine lv_iload hx hb dL_load_172 (lv_at hl 5 rfl) ?_
            refine lv_iconst (v := (5 : Int32)) hx hb dL_load_174 (by decide +kernel) ?_
            refine lv_idiv hx hb dL_load_175 (by decide) ?_
            refine lv_iconst (v := (2 : Int32)) hx hb dL_load_176 (by decide +kernel) ?_
            refine lv_irem hx hb dL_load_177 (by decide) ?_
            refine lv_if_ne (tgt := 186) hx hb dL_load_178 (by decide) (fun c_119 => ?_) (fun c_119 => ?_)
            · replace h := ifn c_119 h
              refine lv_bipush (v := (45 : Int32)) hx hb dL_load_186 (by decide +kernel) ?_
              obtain ⟨q_120, I_121, hc_122, h⟩ := clP_e h
              refine r_callV (As := [.int (45 : Int32)]) [.int ((q_84 + q_113) + q_116), .int v3] X (c6_append l g hG N _ _ _ t0 _ _ hc_122) cal_X6_append (im_X6_append) (se_X6_append) k_188 (tag_lt t0 (by decide)) (by rw [lay, t0]; rfl) rfl rfl ⟨rfl, rfl⟩ ⟨Nat.le_of_ble_eq_true rfl, Nat.le_of_ble_eq_true rfl⟩ hP hS hl.1 rfl (Nat.le_of_ble_eq_true rfl) dL_load_188 ⟨Nat.zero_le _, Nat.zero_le _⟩ (fun H locs hP hS => ?_)
              show W p l e rmL_load s m args below meth c H locs 0 0 _ (F0 m 191 ls [.int q_120, .int ((q_84 + q_113) + q_116), .int v3])
              refine lv_iadd hx hb dL_load_191 ?_
              refine lv_aload_n hx hb dL_load_192 rfl (lv_at hl 1 rfl) ?_
              refine lv_iload hx hb dL_load_193 (lv_at hl 5 rfl) ?_
              refine lv_bipush (v := (11 : Int32)) hx hb dL_load_195 (by decide +kernel) ?_
              refine lv_idiv hx hb dL_load_197 (by decide) ?_
              refine lv_iload hx hb dL_load_198 (lv_at hl 0 rfl) ?_
              refine lv_irem hx hb dL_load_200 (by decide) ?_
              refine lv_iconst (v := (3 : Int32)) hx hb dL_load_201 (by decide +kernel) ?_
              obtain ⟨q_123, I_124, hc_125, h⟩ := clP_e h
              refine r_callS (As := [.ref (ga g k0), .int ((v4 / (11 : Int32)) - (v4 / (11 : Int32)) / (1000 : Int32) * (1000 : Int32)), .int (3 : Int32)]) [.int (((q_84 + q_113) + q_116) + q_120), .int v3] X (ccL_digits l g hG N _ _ _ _ t0 _ _ hc_125) cal_L_digits (sc_L_digits) k_503 rfl ⟨rfl, rfl⟩ ⟨Nat.le_of_ble_eq_true rfl, Nat.le_of_ble_eq_true rfl⟩ hP hS hl.1 rfl (Nat.le_of_ble_eq_true rfl) dL_load_202 ⟨Nat.zero_le _, Nat.zero_le _⟩ (fun H locs hP hS => ?_)
              show W p l e rmL_load s m args below meth c H locs 0 0 _ (F0 m 205 ls [.int q_123, .int (((q_84 + q_113) + q_116) + q_120), .int v3])
              refine lv_iadd hx hb dL_load_205 ?_
              refine lv_iadd hx hb dL_load_206 ?_
              obtain ⟨x_126, ex_126, h⟩ := letM_e h
              refine r_nmi ex_126 ?_
              refine lv_istore_n (lv' := [(3, .int x_126), (6, .int (1000 : Int32)), (0, .ref (ga g k0)), (1, .int a1), (2, .int a2), (4, .int v4), (5, .int v5)]) hx hb dL_load_207 rfl hl (by decide) rfl (fun ls hl => ?_)
              refine lv_iload hx hb dL_load_208 (lv_at hl 5 rfl) ?_
              refine lv_bipush (v := (7 : Int32)) hx hb dL_load_210 (by decide +kernel) ?_
              refine lv_idiv hx hb dL_load_212 (by decide) ?_
              refine lv_ldc (v := (104729 : Int32)) hx hb X.ow (X.hts _ k_506) dL_load_213 ?_
              refine lv_iload hx hb dL_load_215 (lv_at hl 6 rfl) ?_
              refine lv_iconst (v := (1 : Int32)) hx hb dL_load_217 (by decide +kernel) ?_
              refine lv_iadd hx hb dL_load_218 ?_
              refine lv_imul hx hb dL_load_219 ?_
              refine lv_iadd hx hb dL_load_220 ?_
              obtain ⟨x_127, ex_127, h⟩ := letM_e h
              refine r_nmi ex_127 ?_
              refine lv_istore (lv' := [(4, .int x_127), (3, .int x_126), (6, .int (1000 : Int32)), (0, .ref (ga g k0)), (1, .int a1), (2, .int a2), (5, .int v5)]) hx hb dL_load_221 hl (by decide) rfl (fun ls hl => ?_)
              obtain ⟨x_128, ex_128, h⟩ := letM_e h
              refine lv_iinc (v := x_128) (lv' := [(5, .int x_128), (4, .int x_127), (3, .int x_126), (6, .int (1000 : Int32)), (0, .ref (ga g k0)), (1, .int a1), (2, .int a2)]) hx hb dL_load_223 hl (k := 6) rfl (by rw [ex_128]; rfl) (by decide) rfl (fun ls hl => ?_)
              refine lv_goto (tgt := 66) hx hb dL_load_226 (by decide) ?_
              exact ih I_124 x_126 x_127 x_128 h _ _ _ hP hS (lv_sub hl [4, 5, 6, 2, 1, 0] rfl)
            · replace h := ifp c_119 h
              refine lv_bipush (v := (43 : Int32)) hx hb dL_load_181 (by decide +kernel) ?_
              refine lv_goto (tgt := 188) hx hb dL_load_183 (by decide) ?_
              obtain ⟨q_129, I_130, hc_131, h⟩ := clP_e h
              refine r_callV (As := [.int (43 : Int32)]) [.int ((q_84 + q_113) + q_116), .int v3] X (c6_append l g hG N _ _ _ t0 _ _ hc_131) cal_X6_append (im_X6_append) (se_X6_append) k_188 (tag_lt t0 (by decide)) (by rw [lay, t0]; rfl) rfl rfl ⟨rfl, rfl⟩ ⟨Nat.le_of_ble_eq_true rfl, Nat.le_of_ble_eq_true rfl⟩ hP hS hl.1 rfl (Nat.le_of_ble_eq_true rfl) dL_load_188 ⟨Nat.zero_le _, Nat.zero_le _⟩ (fun H locs hP hS => ?_)
              show W p l e rmL_load s m args below meth c H locs 0 0 _ (F0 m 191 ls [.int q_129, .int ((q_84 + q_113) + q_116), .int v3])
              refine lv_iadd hx hb dL_load_191 ?_
              refine lv_aload_n hx hb dL_load_192 rfl (lv_at hl 1 rfl) ?_
              refine lv_iload hx hb dL_load_193 (lv_at hl 5 rfl) ?_
              refine lv_bipush (v := (11 : Int32)) hx hb dL_load_195 (by decide +kernel) ?_
              refine lv_idiv hx hb dL_load_197 (by decide) ?_
              refine lv_iload hx hb dL_load_198 (lv_at hl 0 rfl) ?_
              refine lv_irem hx hb dL_load_200 (by decide) ?_
              refine lv_iconst (v := (3 : Int32)) hx hb dL_load_201 (by decide +kernel) ?_
              obtain ⟨q_132, I_133, hc_134, h⟩ := clP_e h
              refine r_callS (As := [.ref (ga g k0), .int ((v4 / (11 : Int32)) - (v4 / (11 : Int32)) / (1000 : Int32) * (1000 : Int32)), .int (3 : Int32)]) [.int (((q_84 + q_113) + q_116) + q_129), .int v3] X (ccL_digits l g hG N _ _ _ _ t0 _ _ hc_134) cal_L_digits (sc_L_digits) k_503 rfl ⟨rfl, rfl⟩ ⟨Nat.le_of_ble_eq_true rfl, Nat.le_of_ble_eq_true rfl⟩ hP hS hl.1 rfl (Nat.le_of_ble_eq_true rfl) dL_load_202 ⟨Nat.zero_le _, Nat.zero_le _⟩ (fun H locs hP hS => ?_)
              show W p l e rmL_load s m args below meth c H locs 0 0 _ (F0 m 205 ls [.int q_132, .int (((q_84 + q_113) + q_116) + q_129), .int v3])
              refine lv_iadd hx hb dL_load_205 ?_
              refine lv_iadd hx hb dL_load_206 ?_
              obtain ⟨x_135, ex_135, h⟩ := letM_e h
              refine r_nmi ex_135 ?_
              refine lv_istore_n (lv' := [(3, .int x_135), (6, .int (1000 : Int32)), (0, .ref (ga g k0)), (1, .int a1), (2, .int a2), (4, .int v4), (5, .int v5)]) hx hb dL_load_207 rfl hl (by decide) rfl (fun ls hl => ?_)
              refine lv_iload hx hb dL_load_208 (lv_at hl 5 rfl) ?_
              refine lv_bipush (v := (7 : Int32)) hx hb dL_load_210 (by decide +kernel) ?_
              refine lv_idiv hx hb dL_load_212 (by decide) ?_
              refine lv_ldc (v := (104729 : Int32)) hx hb X.ow (X.hts _ k_506) dL_load_213 ?_
              refine lv_iload hx hb dL_load_215 (lv_at hl 6 rfl) ?_
              refine lv_iconst (v := (1 : Int32)) hx hb dL_load_217 (by decide +kernel) ?_
              refine lv_iadd hx hb dL_load_218 ?_
              refine lv_imul hx hb dL_load_219 ?_
              refine lv_iadd hx hb dL_load_220 ?_
              obtain ⟨x_136, ex_136, h⟩ := letM_e h
              refine r_nmi ex_136 ?_
              refine lv_istore (lv' := [(4, .int x_136), (3, .int x_135), (6, .int (1000 : Int32)), (0, .ref (ga g k0)), (1, .int a1), (2, .int a2), (5, .int v5)]) hx hb dL_load_221 hl (by decide) rfl (fun ls hl => ?_)
              obtain ⟨x_137, ex_137, h⟩ := letM_e h
              refine lv_iinc (v := x_137) (lv' := [(5, .int x_137), (4, .int x_136), (3, .int x_135), (6, .int (1000 : Int32)), (0, .ref (ga g k0)), (1, .int a1), (2, .int a2)]) hx hb dL_load_223 hl (k := 6) rfl (by rw [ex_137]; rfl) (by decide) rfl (fun ls hl => ?_)
              refine lv_goto (tgt := 66) hx hb dL_load_226 (by decide) ?_
              exact ih I_133 x_135 x_136 x_137 h _ _ _ hP hS (lv_sub hl [4, 5, 6, 2, 1, 0] rfl)
      · replace h := ifp c_28 h
        refine lv_iload_n hx hb dL_load_82 rfl (lv_at hl 3 rfl) ?_
        refine lv_aload_n hx hb dL_load_83 rfl (lv_at hl 0 rfl) ?_
        refine lv_bipush (v := (119 : Int32)) hx hb dL_load_84 (by decide +kernel) ?_
        obtain ⟨q_138, I_139, hc_140, h⟩ := clP_e h
        refine r_callV (As := [.int (119 : Int32)]) [.int v3] X (c6_append l g hG N _ _ _ t0 _ _ hc_140) cal_X6_append (im_X6_append) (se_X6_append) k_188 (tag_lt t0 (by decide)) (by rw [lay, t0]; rfl) rfl rfl ⟨rfl, rfl⟩ ⟨Nat.le_of_ble_eq_true rfl, Nat.le_of_ble_eq_true rfl⟩ hP hS hl.1 rfl (Nat.le_of_ble_eq_true rfl) dL_load_86 ⟨Nat.zero_le _, Nat.zero_le _⟩ (fun H locs hP hS => ?_)
        show W p l e rmL_load s m args below meth c H locs 0 0 _ (F0 m 89 ls [.int q_138, .int v3])
        refine lv_aload_n hx hb dL_load_89 rfl (lv_at hl 0 rfl) ?_
        refine lv_iconst (v := (1 : Int32)) hx hb dL_load_90 (by decide +kernel) ?_
        refine lv_iload hx hb dL_load_91 (lv_at hl 4 rfl) ?_
        refine lv_iconst (v := (4 : Int32)) hx hb dL_load_93 (by decide +kernel) ?_
        refine lv_idiv hx hb dL_load_94 (by decide) ?_
        refine lv_sipush (v := (900 : Int32)) hx hb dL_load_95 (by decide +kernel) ?_
        refine lv_irem hx hb dL_load_98 (by decide) ?_
        refine lv_iadd hx hb dL_load_99 ?_
        refine lv_iconst (v := (4 : Int32)) hx hb dL_load_100 (by decide +kernel) ?_
        obtain ⟨q_141, I_142, hc_143, h⟩ := clP_e h
        refine r_callS (As := [.ref (ga g k0), .int ((1 : Int32) + ((v4 / (4 : Int32)) - (v4 / (4 : Int32)) / (900 : Int32) * (900 : Int32))), .int (4 : Int32)]) [.int q_138, .int v3] X (ccL_digits l g hG N _ _ _ _ t0 _ _ hc_143) cal_L_digits (sc_L_digits) k_503 rfl ⟨rfl, rfl⟩ ⟨Nat.le_of_ble_eq_true rfl, Nat.le_of_ble_eq_true rfl⟩ hP hS hl.1 rfl (Nat.le_of_ble_eq_true rfl) dL_load_101 ⟨Nat.zero_le _, Nat.zero_le _⟩ (fun H locs hP hS => ?_)
        show W p l e rmL_load s m args below meth c H locs 0 0 _ (F0 m 104 ls [.int q_141, .int q_138, .int v3])
        refine lv_iadd hx hb dL_load_104 ?_
        refine lv_iadd hx hb dL_load_105 ?_
        obtain ⟨x_144, ex_144, h⟩ := letM_e h
        refine r_nmi ex_144 ?_
        refine lv_istore_n (lv' := [(3, .int x_144), (0, .ref (ga g k0)), (1, .int a1), (2, .int a2), (4, .int v4), (5, .int v5)]) hx hb dL_load_106 rfl hl (by decide) rfl (fun ls hl => ?_)
        refine lv_goto (tgt := 208) hx hb dL_load_107 (by decide) ?_
        refine lv_iload hx hb dL_load_208 (lv_at hl 4 rfl) ?_
        refine lv_bipush (v := (7 : Int32)) hx hb dL_load_210 (by decide +kernel) ?_
        refine lv_idiv hx hb dL_load_212 (by decide) ?_
        refine lv_ldc (v := (104729 : Int32)) hx hb X.ow (X.hts _ k_506) dL_load_213 ?_
        refine lv_iload hx hb dL_load_215 (lv_at hl 5 rfl) ?_
        refine lv_iconst (v := (1 : Int32)) hx hb dL_load_217 (by decide +kernel) ?_
        refine lv_iadd hx hb dL_load_218 ?_
        refine lv_imul hx hb dL_load_219 ?_
        refine lv_iadd hx hb dL_load_220 ?_
        obtain ⟨x_145, ex_145, h⟩ := letM_e h
        refine r_nmi ex_145 ?_
        refine lv_istore (lv' := [(4, .int x_145), (3, .int x_144), (0, .ref (ga g k0)), (1, .int a1), (2, .int a2), (5, .int v5)]) hx hb dL_load_221 hl (by decide) rfl (fun ls hl => ?_)
        obtain ⟨x_146, ex_146, h⟩ := letM_e h
        refine lv_iinc (v := x_146) (lv' := [(5, .int x_146), (4, .int x_145), (3, .int x_144), (0, .ref (ga g k0)), (1, .int a1), (2, .int a2)]) hx hb dL_load_223 hl (k := 5) rfl (by rw [ex_146]; rfl) (by decide) rfl (fun ls hl => ?_)
        refine lv_goto (tgt := 66) hx hb dL_load_226 (by decide) ?_
        exact ih I_142 x_144 x_145 x_146 h _ _ _ hP hS (lv_sub hl [3, 4, 5, 2, 1, 0] rfl)
set_option maxHeartbeats 4000000 in
set_option maxRecDepth 100000 in
theorem LL_load_29 (hG : Apart g NT) (N : Nat) (k0 : Nat) (a1 : Int32) (a2 : Int32) (t0 : tag k0 = 5) (X : Cx g p s m args c cL_load RL 7) (hr : meth.sig.returnType = (some .int)) (hlk : meth.locks = false) (r0 : Int32) (I0 : Mem) : ∀ (I : Mem) (s0 : Int32) (s1 : Int32) (s3 : Int32), fL_load_29 N k0 a1 a2 I s0 s1 s3 = some (r0, I0) → ∀ (H : Heap) (locs : List Loc) (ls : Array Slot), Wp g I H → va_S (gA g) s.heap H locs → lv_has ls 7 [(0, .ref (ga g k0)), (1, .int a1), (2, .int a2)] → W p l e rmL_load s m args below meth c H locs 0 0 (MQ below (Qg g (some (.int r0)) I0) args s 0 0 (gA g)) (F0 m 29 ls [.int s0, .int s1, .ref (ga g k0), .int s3]) := by
  have hx := X.hx
  have hb := X.hb
  intro I s0 s1 s3 h H locs ls hP hS hl
  unfold fL_load_29 at h
  refine lv_iadd hx hb dL_load_29 ?_
  refine lv_iconst (v := (3 : Int32)) hx hb dL_load_30 (by decide +kernel) ?_
  obtain ⟨q_8, I_9, hc_10, h⟩ := clP_e h
  refine r_callS (As := [.ref (ga g k0), .int (s1 + s0), .int (3 : Int32)]) [.int s3] X (ccL_digits l g hG N _ _ _ _ t0 _ _ hc_10) cal_L_digits (sc_L_digits) k_503 rfl ⟨rfl, rfl⟩ ⟨Nat.le_of_ble_eq_true rfl, Nat.le_of_ble_eq_true rfl⟩ hP hS hl.1 rfl (Nat.le_of_ble_eq_true rfl) dL_load_31 ⟨Nat.zero_le _, Nat.zero_le _⟩ (fun H locs hP hS => ?_)
  show W p l e rmL_load s m args below meth c H locs 0 0 _ (F0 m 34 ls [.int q_8, .int s3])
  refine lv_iadd hx hb dL_load_34 ?_
  refine lv_aload_n hx hb dL_load_35 rfl (lv_at hl 0 rfl) ?_
  refine lv_bipush (v := (118 : Int32)) hx hb dL_load_36 (by decide +kernel) ?_
  obtain ⟨q_11, I_12, hc_13, h⟩ := clP_e h
  refine r_callV (As := [.int (118 : Int32)]) [.int (s3 + q_8)] X (c6_append l g hG N _ _ _ t0 _ _ hc_13) cal_X6_append (im_X6_append) (se_X6_append) k_188 (tag_lt t0 (by decide)) (by rw [lay, t0]; rfl) rfl rfl ⟨rfl, rfl⟩ ⟨Nat.le_of_ble_eq_true rfl, Nat.le_of_ble_eq_true rfl⟩ hP hS hl.1 rfl (Nat.le_of_ble_eq_true rfl) dL_load_38 ⟨Nat.zero_le _, Nat.zero_le _⟩ (fun H locs hP hS => ?_)
  show W p l e rmL_load s m args below meth c H locs 0 0 _ (F0 m 41 ls [.int q_11, .int (s3 + q_8)])
  refine lv_iadd hx hb dL_load_41 ?_
  refine lv_aload_n hx hb dL_load_42 rfl (lv_at hl 0 rfl) ?_
  refine lv_iconst (v := (1 : Int32)) hx hb dL_load_43 (by decide +kernel) ?_
  refine lv_iload_n hx hb dL_load_44 rfl (lv_at hl 1 rfl) ?_
  refine lv_sipush (v := (999 : Int32)) hx hb dL_load_45 (by decide +kernel) ?_
  refine lv_idiv hx hb dL_load_48 (by decide) ?_
  refine lv_sipush (v := (999 : Int32)) hx hb dL_load_49 (by decide +kernel) ?_
  refine lv_irem hx hb dL_load_52 (by decide) ?_
  refine lv_iadd hx hb dL_load_53 ?_
  refine lv_iconst (v := (3 : Int32)) hx hb dL_load_54 (by decide +kernel) ?_
  obtain ⟨q_14, I_15, hc_16, h⟩ := clP_e h
  refine r_callS (As := [.ref (ga g k0), .int ((1 : Int32) + ((a1 / (999 : Int32)) - (a1 / (999 : Int32)) / (999 : Int32) * (999 : Int32))), .int (3 : Int32)]) [.int ((s3 + q_8) + q_11)] X (ccL_digits l g hG N _ _ _ _ t0 _ _ hc_16) cal_L_digits (sc_L_digits) k_503 rfl ⟨rfl, rfl⟩ ⟨Nat.le_of_ble_eq_true rfl, Nat.le_of_ble_eq_true rfl⟩ hP hS hl.1 rfl (Nat.le_of_ble_eq_true rfl) dL_load_55 ⟨Nat.zero_le _, Nat.zero_le _⟩ (fun H locs hP hS => ?_)
  show W p l e rmL_load s m args below meth c H locs 0 0 _ (F0 m 58 ls [.int q_14, .int ((s3 + q_8) + q_11)])
  refine lv_iadd hx hb dL_load_58 ?_
  obtain ⟨x_17, ex_17, h⟩ := letM_e h
  refine r_nmi ex_17 ?_
  refine lv_istore_n (lv' := [(3, .int x_17), (0, .ref (ga g k0)), (1, .int a1), (2, .int a2)]) hx hb dL_load_59 rfl hl (by decide) rfl (fun ls hl => ?_)
  refine lv_iload_n hx hb dL_load_60 rfl (lv_at hl 3 rfl) ?_
  refine lv_istore (lv' := [(4, .int a2), (3, .int x_17), (0, .ref (ga g k0)), (1, .int a1), (2, .int a2)]) hx hb dL_load_61 hl (by decide) rfl (fun ls hl => ?_)
  refine lv_iconst (v := (0 : Int32)) hx hb dL_load_63 (by decide +kernel) ?_
  refine lv_istore (lv' := [(5, .int (0 : Int32)), (4, .int a2), (3, .int x_17), (0, .ref (ga g k0)), (1, .int a1), (2, .int a2)]) hx hb dL_load_64 hl (by decide) rfl (fun ls hl => ?_)
  exact LL_load_66 hG N k0 a1 a2 t0 X hr hlk r0 I0 N I_15 x_17 a2 (0 : Int32) h _ _ _ hP hS (lv_sub hl [3, 4, 5, 2, 1, 0] rfl)
set_option maxHeartbeats 4000000 in
set_option maxRecDepth 100000 in
theorem ccL_load (l : Launch) (g : GG) (hG : Apart g NT) (N : Nat) (I : Mem) (k0 : Nat) (a1 : Int32) (a2 : Int32) (t0 : tag k0 = 5) (r0 : Int32) (I0 : Mem) (h : fL_load N I k0 a1 a2 = some (r0, I0)) : Mc l g yL_load cL_load 7 (some .int) rmL_load I [.ref (ga g k0), .int a1, .int a2] (some (.int r0)) I0 := by
  refine Mc.of hG (by decide +kernel) (Nat.le_of_ble_eq_true rfl) ?_
  intro p e s m args below meth c ls X hr hlk hP hS hl
  have X : Cx g p s m args c cL_load RL 7 := X
  have hx := X.hx
  have hb := X.hb
  have hl : lv_has ls 7 [(0, .ref (ga g k0)), (1, .int a1), (2, .int a2)] := hl
  have locs : List Loc := []
  unfold fL_load at h
  refine lv_aload_n hx hb dL_load_0 rfl (lv_at hl 0 rfl) ?_
  obtain ⟨q_1, I_2, hc_3, h⟩ := clP_e h
  refine r_callV (As := []) [] X (c6_clearText l g hG N _ _ t0 _ _ hc_3) cal_X6_clearText (im_X6_clearText) (se_X6_clearText) k_499 (tag_lt t0 (by decide)) (by rw [lay, t0]; rfl) rfl rfl ⟨rfl, rfl⟩ ⟨Nat.le_of_ble_eq_true rfl, Nat.le_of_ble_eq_true rfl⟩ hP hS hl.1 rfl (Nat.le_of_ble_eq_true rfl) dL_load_1 ⟨Nat.zero_le _, Nat.zero_le _⟩ (fun H locs hP hS => ?_)
  show W p l e rmL_load s m args below meth c H locs 0 0 _ (F0 m 4 ls [.int q_1])
  refine lv_aload_n hx hb dL_load_4 rfl (lv_at hl 0 rfl) ?_
  refine lv_bipush (v := (97 : Int32)) hx hb dL_load_5 (by decide +kernel) ?_
  obtain ⟨q_4, I_5, hc_6, h⟩ := clP_e h
  refine r_callV (As := [.int (97 : Int32)]) [.int q_1] X (c6_append l g hG N _ _ _ t0 _ _ hc_6) cal_X6_append (im_X6_append) (se_X6_append) k_188 (tag_lt t0 (by decide)) (by rw [lay, t0]; rfl) rfl rfl ⟨rfl, rfl⟩ ⟨Nat.le_of_ble_eq_true rfl, Nat.le_of_ble_eq_true rfl⟩ hP hS hl.1 rfl (Nat.le_of_ble_eq_true rfl) dL_load_7 ⟨Nat.zero_le _, Nat.zero_le _⟩ (fun H locs hP hS => ?_)
  show W p l e rmL_load s m args below meth c H locs 0 0 _ (F0 m 10 ls [.int q_4, .int q_1])
  refine lv_iadd hx hb dL_load_10 ?_
  refine lv_aload_n hx hb dL_load_11 rfl (lv_at hl 0 rfl) ?_
  refine lv_iload_n hx hb dL_load_12 rfl (lv_at hl 1 rfl) ?_
  refine lv_sipush (v := (999 : Int32)) hx hb dL_load_13 (by decide +kernel) ?_
  refine lv_irem hx hb dL_load_16 (by decide) ?_
  refine lv_iload_n hx hb dL_load_17 rfl (lv_at hl 1 rfl) ?_
  refine lv_bipush (v := (43 : Int32)) hx hb dL_load_18 (by decide +kernel) ?_
  refine lv_irem hx hb dL_load_20 (by decide) ?_
  refine lv_if_ne (tgt := 28) hx hb dL_load_21 (by decide) (fun c_7 => ?_) (fun c_7 => ?_)
  · replace h := ifn c_7 h
    refine lv_iconst (v := (1 : Int32)) hx hb dL_load_28 (by decide +kernel) ?_
    exact LL_load_29 hG N k0 a1 a2 t0 X hr hlk r0 I0 I_5 (1 : Int32) (a1 - a1 / (999 : Int32) * (999 : Int32)) (q_1 + q_4) h _ _ _ hP hS (lv_sub hl [0, 1, 2] rfl)
  · replace h := ifp c_7 h
    refine lv_iconst (v := (0 : Int32)) hx hb dL_load_24 (by decide +kernel) ?_
    refine lv_goto (tgt := 29) hx hb dL_load_25 (by decide) ?_
    exact LL_load_29 hG N k0 a1 a2 t0 X hr hlk r0 I0 I_5 (0 : Int32) (a1 - a1 / (999 : Int32) * (999 : Int32)) (q_1 + q_4) h _ _ _ hP hS (lv_sub hl [0, 1, 2] rfl)
abbrev rmL_act : Room := { frames := 7, cells := 0, slots := 0, locals := 159 }
def fL_act (N : Nat) (I : Mem) (k0 : Nat) (a1 : Int32) (a2 : Int32) : Option (Int32 × Mem) :=
    letM (a1 &&& (15 : Int32)) (fun x_1 : Int32 =>
    if x_1 = nI 0 then
    clP (fL_load N I k0 (a1 >>> ((4 : Int32) &&& (31 : Int32))) a2) (fun (q_3 : Int32) (I_4 : Mem) =>
    some (q_3, I_4))
    else
    if x_1 = nI 1 then
    clP (fL_load N I k0 (a1 >>> ((4 : Int32) &&& (31 : Int32))) a2) (fun (q_7 : Int32) (I_8 : Mem) =>
    some (q_7, I_8))
    else
    if x_1 = nI 2 then
    clP (f6_setAcceleration N I k0 ((1 : Int32) + (a2 - a2 / (999 : Int32) * (999 : Int32)))) (fun (q_11 : Int32) (I_12 : Mem) =>
    some (q_11, I_12))
    else
    if x_1 = nI 3 then
    clP (f6_setSpeedLimit N I k0 ((1 : Int32) + (a2 - a2 / (999 : Int32) * (999 : Int32)))) (fun (q_15 : Int32) (I_16 : Mem) =>
    some (q_15, I_16))
    else
    if x_1 = nI 4 then
    clP (f6_addMove N I k0 ((a2 - a2 / (81 : Int32) * (81 : Int32)) - (40 : Int32)) (((a2 / (81 : Int32)) - (a2 / (81 : Int32)) / (81 : Int32) * (81 : Int32)) - (40 : Int32))) (fun (q_19 : Int32) (I_20 : Mem) =>
    some (q_19, I_20))
    else
    if x_1 = nI 5 then
    clP (f6_addMove N I k0 ((a2 - a2 / (81 : Int32) * (81 : Int32)) - (40 : Int32)) (((a2 / (81 : Int32)) - (a2 / (81 : Int32)) / (81 : Int32) * (81 : Int32)) - (40 : Int32))) (fun (q_23 : Int32) (I_24 : Mem) =>
    some (q_23, I_24))
    else
    if x_1 = nI 6 then
    clP (f6_addWait N I k0 ((1 : Int32) + (a2 - a2 / (500 : Int32) * (500 : Int32)))) (fun (q_27 : Int32) (I_28 : Mem) =>
    some (q_27, I_28))
    else
    if x_1 = nI 7 then
    clP (f6_step N I k0) (fun (q_31 : Int32) (I_32 : Mem) =>
    some (q_31, I_32))
    else
    if x_1 = nI 8 then
    clP (f6_step N I k0) (fun (q_35 : Int32) (I_36 : Mem) =>
    some (q_35, I_36))
    else
    if x_1 = nI 9 then
    clP (f6_run N I k0 ((1 : Int32) + (a2 - a2 / (20000 : Int32) * (20000 : Int32)))) (fun (q_39 : Int32) (I_40 : Mem) =>
    some (q_39, I_40))
    else
    if x_1 = nI 10 then
    clP (f6_run N I k0 ((1 : Int32) + (a2 - a2 / (20000 : Int32) * (20000 : Int32)))) (fun (q_43 : Int32) (I_44 : Mem) =>
    some (q_43, I_44))
    else
    if x_1 = nI 11 then
    clP (f6_stop N I k0) (fun (q_47 : Int32) (I_48 : Mem) =>
    some (q_47, I_48))
    else
    if x_1 = nI 12 then
    clP (f6_removeItem N I k0 (a2 - a2 / (4 : Int32) * (4 : Int32))) (fun (q_51 : Int32) (I_52 : Mem) =>
    some (q_51, I_52))
    else
    if x_1 = nI 13 then
    clP (f6_undo N I k0) (fun (q_55 : Int32) (I_56 : Mem) =>
    some (q_55, I_56))
    else
    if x_1 = nI 14 then
    clP (f6_save N I k0 (a2 &&& (1 : Int32))) (fun (q_59 : Int32) (I_60 : Mem) =>
    some (q_59, I_60))
    else
    clP (f6_restore N I k0 (a2 &&& (1 : Int32))) (fun (q_62 : Int32) (I_63 : Mem) =>
    some (q_62, I_63)))
set_option maxHeartbeats 4000000 in
set_option maxRecDepth 100000 in
theorem ccL_act (l : Launch) (g : GG) (hG : Apart g NT) (N : Nat) (I : Mem) (k0 : Nat) (a1 : Int32) (a2 : Int32) (t0 : tag k0 = 5) (r0 : Int32) (I0 : Mem) (h : fL_act N I k0 a1 a2 = some (r0, I0)) : Mc l g yL_act cL_act 3 (some .int) rmL_act I [.ref (ga g k0), .int a1, .int a2] (some (.int r0)) I0 := by
  refine Mc.of hG (by decide +kernel) (Nat.le_of_ble_eq_true rfl) ?_
  intro p e s m args below meth c ls X hr hlk hP hS hl
  have X : Cx g p s m args c cL_act RL 3 := X
  have hx := X.hx
  have hb := X.hb
  have hl : lv_has ls 3 [(0, .ref (ga g k0)), (1, .int a1), (2, .int a2)] := hl
  have locs : List Loc := []
  unfold fL_act at h
  refine lv_iload_n hx hb dL_act_0 rfl (lv_at hl 1 rfl) ?_
  refine lv_bipush (v := (15 : Int32)) hx hb dL_act_1 (by decide +kernel) ?_
  refine lv_iand hx hb dL_act_3 ?_
  obtain ⟨x_1, ex_1, h⟩ := letM_e h
  refine r_nmi ex_1 ?_
  by_cases c_2 : x_1 = nI 0
  · replace h := ifp c_2 h
    refine lv_tableIn (off := 76) (tgt := 80) hx hb dL_act_4 (by rw [c_2]; decide +kernel) (by rw [c_2]; decide +kernel) (by rw [c_2]; decide +kernel) (by decide) ?_
    refine lv_aload_n hx hb dL_act_80 rfl (lv_at hl 0 rfl) ?_
    refine lv_iload_n hx hb dL_act_81 rfl (lv_at hl 1 rfl) ?_
    refine lv_iconst (v := (4 : Int32)) hx hb dL_act_82 (by decide +kernel) ?_
    refine lv_ishr hx hb dL_act_83 ?_
    refine lv_iload_n hx hb dL_act_84 rfl (lv_at hl 2 rfl) ?_
    obtain ⟨q_3, I_4, hc_5, h⟩ := clP_e h
    refine r_callS (As := [.ref (ga g k0), .int (a1 >>> ((4 : Int32) &&& (31 : Int32))), .int a2]) [] X (ccL_load l g hG N _ _ _ _ t0 _ _ hc_5) cal_L_load (sc_L_load) k_496 rfl ⟨rfl, rfl⟩ ⟨Nat.le_of_ble_eq_true rfl, Nat.le_of_ble_eq_true rfl⟩ hP hS hl.1 rfl (Nat.le_of_ble_eq_true rfl) dL_act_85 ⟨Nat.zero_le _, Nat.zero_le _⟩ (fun H locs hP hS => ?_)
    show W p l e rmL_act s m args below meth c H locs 0 0 _ (F0 m 88 ls [.int q_3])
    exact r_iret X hr hlk hP hS dL_act_88 h
  · replace h := ifn c_2 h
    by_cases c_6 : x_1 = nI 1
    · replace h := ifp c_6 h
      refine lv_tableIn (off := 76) (tgt := 80) hx hb dL_act_4 (by rw [c_6]; decide +kernel) (by rw [c_6]; decide +kernel) (by rw [c_6]; decide +kernel) (by decide) ?_
      refine lv_aload_n hx hb dL_act_80 rfl (lv_at hl 0 rfl) ?_
      refine lv_iload_n hx hb dL_act_81 rfl (lv_at hl 1 rfl) ?_
      refine lv_iconst (v := (4 : Int32)) hx hb dL_act_82 (by decide +kernel) ?_
      refine lv_ishr hx hb dL_act_83 ?_
      refine lv_iload_n hx hb dL_act_84 rfl (lv_at hl 2 rfl) ?_
      obtain ⟨q_7, I_8, hc_9, h⟩ := clP_e h
      refine r_callS (As := [.ref (ga g k0), .int (a1 >>> ((4 : Int32) &&& (31 : Int32))), .int a2]) [] X (ccL_load l g hG N _ _ _ _ t0 _ _ hc_9) cal_L_load (sc_L_load) k_496 rfl ⟨rfl, rfl⟩ ⟨Nat.le_of_ble_eq_true rfl, Nat.le_of_ble_eq_true rfl⟩ hP hS hl.1 rfl (Nat.le_of_ble_eq_true rfl) dL_act_85 ⟨Nat.zero_le _, Nat.zero_le _⟩ (fun H locs hP hS => ?_)
      show W p l e rmL_act s m args below meth c H locs 0 0 _ (F0 m 88 ls [.int q_7])
      exact r_iret X hr hlk hP hS dL_act_88 h
    · replace h := ifn c_6 h
      by_cases c_10 : x_1 = nI 2
      · replace h := ifp c_10 h
        refine lv_tableIn (off := 85) (tgt := 89) hx hb dL_act_4 (by rw [c_10]; decide +kernel) (by rw [c_10]; decide +kernel) (by rw [c_10]; decide +kernel) (by decide) ?_
        refine lv_aload_n hx hb dL_act_89 rfl (lv_at hl 0 rfl) ?_
        refine lv_iconst (v := (1 : Int32)) hx hb dL_act_90 (by decide +kernel) ?_
        refine lv_iload_n hx hb dL_act_91 rfl (lv_at hl 2 rfl) ?_
        refine lv_sipush (v := (999 : Int32)) hx hb dL_act_92 (by decide +kernel) ?_
        refine lv_irem hx hb dL_act_95 (by decide) ?_
        refine lv_iadd hx hb dL_act_96 ?_
        obtain ⟨q_11, I_12, hc_13, h⟩ := clP_e h
        refine r_callV (As := [.int ((1 : Int32) + (a2 - a2 / (999 : Int32) * (999 : Int32)))]) [] X (c6_setAcceleration l g hG N _ _ _ t0 _ _ hc_13) cal_X6_setAcceleration (im_X6_setAcceleration) (se_X6_setAcceleration) k_298 (tag_lt t0 (by decide)) (by rw [lay, t0]; rfl) rfl rfl ⟨rfl, rfl⟩ ⟨Nat.le_of_ble_eq_true rfl, Nat.le_of_ble_eq_true rfl⟩ hP hS hl.1 rfl (Nat.le_of_ble_eq_true rfl) dL_act_97 ⟨Nat.zero_le _, Nat.zero_le _⟩ (fun H locs hP hS => ?_)
        show W p l e rmL_act s m args below meth c H locs 0 0 _ (F0 m 100 ls [.int q_11])
        exact r_iret X hr hlk hP hS dL_act_100 h
      · replace h := ifn c_10 h
        by_cases c_14 : x_1 = nI 3
        · replace h := ifp c_14 h
          refine lv_tableIn (off := 97) (tgt := 101) hx hb dL_act_4 (by rw [c_14]; decide +kernel) (by rw [c_14]; decide +kernel) (by rw [c_14]; decide +kernel) (by decide) ?_
          refine lv_aload_n hx hb dL_act_101 rfl (lv_at hl 0 rfl) ?_
          refine lv_iconst (v := (1 : Int32)) hx hb dL_act_102 (by decide +kernel) ?_
          refine lv_iload_n hx hb dL_act_103 rfl (lv_at hl 2 rfl) ?_
          refine lv_sipush (v := (999 : Int32)) hx hb dL_act_104 (by decide +kernel) ?_
          refine lv_irem hx hb dL_act_107 (by decide) ?_
          refine lv_iadd hx hb dL_act_108 ?_
          obtain ⟨q_15, I_16, hc_17, h⟩ := clP_e h
          refine r_callV (As := [.int ((1 : Int32) + (a2 - a2 / (999 : Int32) * (999 : Int32)))]) [] X (c6_setSpeedLimit l g hG N _ _ _ t0 _ _ hc_17) cal_X6_setSpeedLimit (im_X6_setSpeedLimit) (se_X6_setSpeedLimit) k_324 (tag_lt t0 (by decide)) (by rw [lay, t0]; rfl) rfl rfl ⟨rfl, rfl⟩ ⟨Nat.le_of_ble_eq_true rfl, Nat.le_of_ble_eq_true rfl⟩ hP hS hl.1 rfl (Nat.le_of_ble_eq_true rfl) dL_act_109 ⟨Nat.zero_le _, Nat.zero_le _⟩ (fun H locs hP hS => ?_)
          show W p l e rmL_act s m args below meth c H locs 0 0 _ (F0 m 112 ls [.int q_15])
          exact r_iret X hr hlk hP hS dL_act_112 h
        · replace h := ifn c_14 h
          by_cases c_18 : x_1 = nI 4
          · replace h := ifp c_18 h
            refine lv_tableIn (off := 109) (tgt := 113) hx hb dL_act_4 (by rw [c_18]; decide +kernel) (by rw [c_18]; decide +kernel) (by rw [c_18]; decide +kernel) (by decide) ?_
            refine lv_aload_n hx hb dL_act_113 rfl (lv_at hl 0 rfl) ?_
            refine lv_iload_n hx hb dL_act_114 rfl (lv_at hl 2 rfl) ?_
            refine lv_bipush (v := (81 : Int32)) hx hb dL_act_115 (by decide +kernel) ?_
            refine lv_irem hx hb dL_act_117 (by decide) ?_
            refine lv_bipush (v := (40 : Int32)) hx hb dL_act_118 (by decide +kernel) ?_
            refine lv_isub hx hb dL_act_120 ?_
            refine lv_iload_n hx hb dL_act_121 rfl (lv_at hl 2 rfl) ?_
            refine lv_bipush (v := (81 : Int32)) hx hb dL_act_122 (by decide +kernel) ?_
            refine lv_idiv hx hb dL_act_124 (by decide) ?_
            refine lv_bipush (v := (81 : Int32)) hx hb dL_act_125 (by decide +kernel) ?_
            refine lv_irem hx hb dL_act_127 (by decide) ?_
            refine lv_bipush (v := (40 : Int32)) hx hb dL_act_128 (by decide +kernel) ?_
            refine lv_isub hx hb dL_act_130 ?_
            obtain ⟨q_19, I_20, hc_21, h⟩ := clP_e h
            refine r_callV (As := [.int ((a2 - a2 / (81 : Int32) * (81 : Int32)) - (40 : Int32)), .int (((a2 / (81 : Int32)) - (a2 / (81 : Int32)) / (81 : Int32) * (81 : Int32)) - (40 : Int32))]) [] X (c6_addMove l g hG N _ _ _ _ t0 _ _ hc_21) cal_X6_addMove (im_X6_addMove) (se_X6_addMove) k_328 (tag_lt t0 (by decide)) (by rw [lay, t0]; rfl) rfl rfl ⟨rfl, rfl⟩ ⟨Nat.le_of_ble_eq_true rfl, Nat.le_of_ble_eq_true rfl⟩ hP hS hl.1 rfl (Nat.le_of_ble_eq_true rfl) dL_act_131 ⟨Nat.zero_le _, Nat.zero_le _⟩ (fun H locs hP hS => ?_)
            show W p l e rmL_act s m args below meth c H locs 0 0 _ (F0 m 134 ls [.int q_19])
            exact r_iret X hr hlk hP hS dL_act_134 h
          · replace h := ifn c_18 h
            by_cases c_22 : x_1 = nI 5
            · replace h := ifp c_22 h
              refine lv_tableIn (off := 109) (tgt := 113) hx hb dL_act_4 (by rw [c_22]; decide +kernel) (by rw [c_22]; decide +kernel) (by rw [c_22]; decide +kernel) (by decide) ?_
              refine lv_aload_n hx hb dL_act_113 rfl (lv_at hl 0 rfl) ?_
              refine lv_iload_n hx hb dL_act_114 rfl (lv_at hl 2 rfl) ?_
              refine lv_bipush (v := (81 : Int32)) hx hb dL_act_115 (by decide +kernel) ?_
              refine lv_irem hx hb dL_act_117 (by decide) ?_
              refine lv_bipush (v := (40 : Int32)) hx hb dL_act_118 (by decide +kernel) ?_
              refine lv_isub hx hb dL_act_120 ?_
              refine lv_iload_n hx hb dL_act_121 rfl (lv_at hl 2 rfl) ?_
              refine lv_bipush (v := (81 : Int32)) hx hb dL_act_122 (by decide +kernel) ?_
              refine lv_idiv hx hb dL_act_124 (by decide) ?_
              refine lv_bipush (v := (81 : Int32)) hx hb dL_act_125 (by decide +kernel) ?_
              refine lv_irem hx hb dL_act_127 (by decide) ?_
              refine lv_bipush (v := (40 : Int32)) hx hb dL_act_128 (by decide +kernel) ?_
              refine lv_isub hx hb dL_act_130 ?_
              obtain ⟨q_23, I_24, hc_25, h⟩ := clP_e h
              refine r_callV (As := [.int ((a2 - a2 / (81 : Int32) * (81 : Int32)) - (40 : Int32)), .int (((a2 / (81 : Int32)) - (a2 / (81 : Int32)) / (81 : Int32) * (81 : Int32)) - (40 : Int32))]) [] X (c6_addMove l g hG N _ _ _ _ t0 _ _ hc_25) cal_X6_addMove (im_X6_addMove) (se_X6_addMove) k_328 (tag_lt t0 (by decide)) (by rw [lay, t0]; rfl) rfl rfl ⟨rfl, rfl⟩ ⟨Nat.le_of_ble_eq_true rfl, Nat.le_of_ble_eq_true rfl⟩ hP hS hl.1 rfl (Nat.le_of_ble_eq_true rfl) dL_act_131 ⟨Nat.zero_le _, Nat.zero_le _⟩ (fun H locs hP hS => ?_)
              show W p l e rmL_act s m args below meth c H locs 0 0 _ (F0 m 134 ls [.int q_23])
              exact r_iret X hr hlk hP hS dL_act_134 h
            · replace h := ifn c_22 h
              by_cases c_26 : x_1 = nI 6
              · replace h := ifp c_26 h
                refine lv_tableIn (off := 131) (tgt := 135) hx hb dL_act_4 (by rw [c_26]; decide +kernel) (by rw [c_26]; decide +kernel) (by rw [c_26]; decide +kernel) (by decide) ?_
                refine lv_aload_n hx hb dL_act_135 rfl (lv_at hl 0 rfl) ?_
                refine lv_iconst (v := (1 : Int32)) hx hb dL_act_136 (by decide +kernel) ?_
                refine lv_iload_n hx hb dL_act_137 rfl (lv_at hl 2 rfl) ?_
                refine lv_sipush (v := (500 : Int32)) hx hb dL_act_138 (by decide +kernel) ?_
                refine lv_irem hx hb dL_act_141 (by decide) ?_
                refine lv_iadd hx hb dL_act_142 ?_
                obtain ⟨q_27, I_28, hc_29, h⟩ := clP_e h
                refine r_callV (As := [.int ((1 : Int32) + (a2 - a2 / (500 : Int32) * (500 : Int32)))]) [] X (c6_addWait l g hG N _ _ _ t0 _ _ hc_29) cal_X6_addWait (im_X6_addWait) (se_X6_addWait) k_344 (tag_lt t0 (by decide)) (by rw [lay, t0]; rfl) rfl rfl ⟨rfl, rfl⟩ ⟨Nat.le_of_ble_eq_true rfl, Nat.le_of_ble_eq_true rfl⟩ hP hS hl.1 rfl (Nat.le_of_ble_eq_true rfl) dL_act_143 ⟨Nat.zero_le _, Nat.zero_le _⟩ (fun H locs hP hS => ?_)
                show W p l e rmL_act s m args below meth c H locs 0 0 _ (F0 m 146 ls [.int q_27])
                exact r_iret X hr hlk hP hS dL_act_146 h
              · replace h := ifn c_26 h
                by_cases c_30 : x_1 = nI 7
                · replace h := ifp c_30 h
                  refine lv_tableIn (off := 143) (tgt := 147) hx hb dL_act_4 (by rw [c_30]; decide +kernel) (by rw [c_30]; decide +kernel) (by rw [c_30]; decide +kernel) (by decide) ?_
                  refine lv_aload_n hx hb dL_act_147 rfl (lv_at hl 0 rfl) ?_
                  obtain ⟨q_31, I_32, hc_33, h⟩ := clP_e h
                  refine r_callV (As := []) [] X (c6_step l g hG N _ _ t0 _ _ hc_33) cal_X6_step (im_X6_step) (se_X6_step) k_485 (tag_lt t0 (by decide)) (by rw [lay, t0]; rfl) rfl rfl ⟨rfl, rfl⟩ ⟨Nat.le_of_ble_eq_true rfl, Nat.le_of_ble_eq_true rfl⟩ hP hS hl.1 rfl (Nat.le_of_ble_eq_true rfl) dL_act_148 ⟨Nat.zero_le _, Nat.zero_le _⟩ (fun H locs hP hS => ?_)
                  show W p l e rmL_act s m args below meth c H locs 0 0 _ (F0 m 151 ls [.int q_31])
                  exact r_iret X hr hlk hP hS dL_act_151 h
                · replace h := ifn c_30 h
                  by_cases c_34 : x_1 = nI 8
                  · replace h := ifp c_34 h
                    refine lv_tableIn (off := 143) (tgt := 147) hx hb dL_act_4 (by rw [c_34]; decide +kernel) (by rw [c_34]; decide +kernel) (by rw [c_34]; decide +kernel) (by decide) ?_
                    refine lv_aload_n hx hb dL_act_147 rfl (lv_at hl 0 rfl) ?_
                    obtain ⟨q_35, I_36, hc_37, h⟩ := clP_e h
                    refine r_callV (As := []) [] X (c6_step l g hG N _ _ t0 _ _ hc_37) cal_X6_step (im_X6_step) (se_X6_step) k_485 (tag_lt t0 (by decide)) (by rw [lay, t0]; rfl) rfl rfl ⟨rfl, rfl⟩ ⟨Nat.le_of_ble_eq_true rfl, Nat.le_of_ble_eq_true rfl⟩ hP hS hl.1 rfl (Nat.le_of_ble_eq_true rfl) dL_act_148 ⟨Nat.zero_le _, Nat.zero_le _⟩ (fun H locs hP hS => ?_)
                    show W p l e rmL_act s m args below meth c H locs 0 0 _ (F0 m 151 ls [.int q_35])
                    exact r_iret X hr hlk hP hS dL_act_151 h
                  · replace h := ifn c_34 h
                    by_cases c_38 : x_1 = nI 9
                    · replace h := ifp c_38 h
                      refine lv_tableIn (off := 148) (tgt := 152) hx hb dL_act_4 (by rw [c_38]; decide +kernel) (by rw [c_38]; decide +kernel) (by rw [c_38]; decide +kernel) (by decide) ?_
                      refine lv_aload_n hx hb dL_act_152 rfl (lv_at hl 0 rfl) ?_
                      refine lv_iconst (v := (1 : Int32)) hx hb dL_act_153 (by decide +kernel) ?_
                      refine lv_iload_n hx hb dL_act_154 rfl (lv_at hl 2 rfl) ?_
                      refine lv_sipush (v := (20000 : Int32)) hx hb dL_act_155 (by decide +kernel) ?_
                      refine lv_irem hx hb dL_act_158 (by decide) ?_
                      refine lv_iadd hx hb dL_act_159 ?_
                      obtain ⟨q_39, I_40, hc_41, h⟩ := clP_e h
                      refine r_callV (As := [.int ((1 : Int32) + (a2 - a2 / (20000 : Int32) * (20000 : Int32)))]) [] X (c6_run l g hG N _ _ _ t0 _ _ hc_41) cal_X6_run (im_X6_run) (se_X6_run) k_348 (tag_lt t0 (by decide)) (by rw [lay, t0]; rfl) rfl rfl ⟨rfl, rfl⟩ ⟨Nat.le_of_ble_eq_true rfl, Nat.le_of_ble_eq_true rfl⟩ hP hS hl.1 rfl (Nat.le_of_ble_eq_true rfl) dL_act_160 ⟨Nat.zero_le _, Nat.zero_le _⟩ (fun H locs hP hS => ?_)
                      show W p l e rmL_act s m args below meth c H locs 0 0 _ (F0 m 163 ls [.int q_39])
                      exact r_iret X hr hlk hP hS dL_act_163 h
                    · replace h := ifn c_38 h
                      by_cases c_42 : x_1 = nI 10
                      · replace h := ifp c_42 h
                        refine lv_tableIn (off := 148) (tgt := 152) hx hb dL_act_4 (by rw [c_42]; decide +kernel) (by rw [c_42]; decide +kernel) (by rw [c_42]; decide +kernel) (by decide) ?_
                        refine lv_aload_n hx hb dL_act_152 rfl (lv_at hl 0 rfl) ?_
                        refine lv_iconst (v := (1 : Int32)) hx hb dL_act_153 (by decide +kernel) ?_
                        refine lv_iload_n hx hb dL_act_154 rfl (lv_at hl 2 rfl) ?_
                        refine lv_sipush (v := (20000 : Int32)) hx hb dL_act_155 (by decide +kernel) ?_
                        refine lv_irem hx hb dL_act_158 (by decide) ?_
                        refine lv_iadd hx hb dL_act_159 ?_
                        obtain ⟨q_43, I_44, hc_45, h⟩ := clP_e h
                        refine r_callV (As := [.int ((1 : Int32) + (a2 - a2 / (20000 : Int32) * (20000 : Int32)))]) [] X (c6_run l g hG N _ _ _ t0 _ _ hc_45) cal_X6_run (im_X6_run) (se_X6_run) k_348 (tag_lt t0 (by decide)) (by rw [lay, t0]; rfl) rfl rfl ⟨rfl, rfl⟩ ⟨Nat.le_of_ble_eq_true rfl, Nat.le_of_ble_eq_true rfl⟩ hP hS hl.1 rfl (Nat.le_of_ble_eq_true rfl) dL_act_160 ⟨Nat.zero_le _, Nat.zero_le _⟩ (fun H locs hP hS => ?_)
                        show W p l e rmL_act s m args below meth c H locs 0 0 _ (F0 m 163 ls [.int q_43])
                        exact r_iret X hr hlk hP hS dL_act_163 h
                      · replace h := ifn c_42 h
                        by_cases c_46 : x_1 = nI 11
                        · replace h := ifp c_46 h
                          refine lv_tableIn (off := 160) (tgt := 164) hx hb dL_act_4 (by rw [c_46]; decide +kernel) (by rw [c_46]; decide +kernel) (by rw [c_46]; decide +kernel) (by decide) ?_
                          refine lv_aload_n hx hb dL_act_164 rfl (lv_at hl 0 rfl) ?_
                          obtain ⟨q_47, I_48, hc_49, h⟩ := clP_e h
                          refine r_callV (As := []) [] X (c6_stop l g hG N _ _ t0 _ _ hc_49) cal_X6_stop (im_X6_stop) (se_X6_stop) k_481 (tag_lt t0 (by decide)) (by rw [lay, t0]; rfl) rfl rfl ⟨rfl, rfl⟩ ⟨Nat.le_of_ble_eq_true rfl, Nat.le_of_ble_eq_true rfl⟩ hP hS hl.1 rfl (Nat.le_of_ble_eq_true rfl) dL_act_165 ⟨Nat.zero_le _, Nat.zero_le _⟩ (fun H locs hP hS => ?_)
                          show W p l e rmL_act s m args below meth c H locs 0 0 _ (F0 m 168 ls [.int q_47])
                          exact r_iret X hr hlk hP hS dL_act_168 h
                        · replace h := ifn c_46 h
                          by_cases c_50 : x_1 = nI 12
                          · replace h := ifp c_50 h
                            refine lv_tableIn (off := 165) (tgt := 169) hx hb dL_act_4 (by rw [c_50]; decide +kernel) (by rw [c_50]; decide +kernel) (by rw [c_50]; decide +kernel) (by decide) ?_
                            refine lv_aload_n hx hb dL_act_169 rfl (lv_at hl 0 rfl) ?_
                            refine lv_iload_n hx hb dL_act_170 rfl (lv_at hl 2 rfl) ?_
                            refine lv_iconst (v := (4 : Int32)) hx hb dL_act_171 (by decide +kernel) ?_
                            refine lv_irem hx hb dL_act_172 (by decide) ?_
                            obtain ⟨q_51, I_52, hc_53, h⟩ := clP_e h
                            refine r_callV (As := [.int (a2 - a2 / (4 : Int32) * (4 : Int32))]) [] X (c6_removeItem l g hG N _ _ _ t0 _ _ hc_53) cal_X6_removeItem (im_X6_removeItem) (se_X6_removeItem) k_400 (tag_lt t0 (by decide)) (by rw [lay, t0]; rfl) rfl rfl ⟨rfl, rfl⟩ ⟨Nat.le_of_ble_eq_true rfl, Nat.le_of_ble_eq_true rfl⟩ hP hS hl.1 rfl (Nat.le_of_ble_eq_true rfl) dL_act_173 ⟨Nat.zero_le _, Nat.zero_le _⟩ (fun H locs hP hS => ?_)
                            show W p l e rmL_act s m args below meth c H locs 0 0 _ (F0 m 176 ls [.int q_51])
                            exact r_iret X hr hlk hP hS dL_act_176 h
                          · replace h := ifn c_50 h
                            by_cases c_54 : x_1 = nI 13
                            · replace h := ifp c_54 h
                              refine lv_tableIn (off := 173) (tgt := 177) hx hb dL_act_4 (by rw [c_54]; decide +kernel) (by rw [c_54]; decide +kernel) (by rw [c_54]; decide +kernel) (by decide) ?_
                              refine lv_aload_n hx hb dL_act_177 rfl (lv_at hl 0 rfl) ?_
                              obtain ⟨q_55, I_56, hc_57, h⟩ := clP_e h
                              refine r_callV (As := []) [] X (c6_undo l g hG N _ _ t0 _ _ hc_57) cal_X6_undo (im_X6_undo) (se_X6_undo) k_590 (tag_lt t0 (by decide)) (by rw [lay, t0]; rfl) rfl rfl ⟨rfl, rfl⟩ ⟨Nat.le_of_ble_eq_true rfl, Nat.le_of_ble_eq_true rfl⟩ hP hS hl.1 rfl (Nat.le_of_ble_eq_true rfl) dL_act_178 ⟨Nat.zero_le _, Nat.zero_le _⟩ (fun H locs hP hS => ?_)
                              show W p l e rmL_act s m args below meth c H locs 0 0 _ (F0 m 181 ls [.int q_55])
                              exact r_iret X hr hlk hP hS dL_act_181 h
                            · replace h := ifn c_54 h
                              by_cases c_58 : x_1 = nI 14
                              · replace h := ifp c_58 h
                                refine lv_tableIn (off := 178) (tgt := 182) hx hb dL_act_4 (by rw [c_58]; decide +kernel) (by rw [c_58]; decide +kernel) (by rw [c_58]; decide +kernel) (by decide) ?_
                                refine lv_aload_n hx hb dL_act_182 rfl (lv_at hl 0 rfl) ?_
                                refine lv_iload_n hx hb dL_act_183 rfl (lv_at hl 2 rfl) ?_
                                refine lv_iconst (v := (1 : Int32)) hx hb dL_act_184 (by decide +kernel) ?_
                                refine lv_iand hx hb dL_act_185 ?_
                                obtain ⟨q_59, I_60, hc_61, h⟩ := clP_e h
                                refine r_callV (As := [.int (a2 &&& (1 : Int32))]) [] X (c6_save l g hG N _ _ _ t0 _ _ hc_61) cal_X6_save (im_X6_save) (se_X6_save) k_458 (tag_lt t0 (by decide)) (by rw [lay, t0]; rfl) rfl rfl ⟨rfl, rfl⟩ ⟨Nat.le_of_ble_eq_true rfl, Nat.le_of_ble_eq_true rfl⟩ hP hS hl.1 rfl (Nat.le_of_ble_eq_true rfl) dL_act_186 ⟨Nat.zero_le _, Nat.zero_le _⟩ (fun H locs hP hS => ?_)
                                show W p l e rmL_act s m args below meth c H locs 0 0 _ (F0 m 189 ls [.int q_59])
                                exact r_iret X hr hlk hP hS dL_act_189 h
                              · replace h := ifn c_58 h
                                have hout := tsw_out (x := x_1) 0 15 (fun j hj => by
                                  rcases (show j = 0 ∨ j = 1 ∨ j = 2 ∨ j = 3 ∨ j = 4 ∨ j = 5 ∨ j = 6 ∨ j = 7 ∨ j = 8 ∨ j = 9 ∨ j = 10 ∨ j = 11 ∨ j = 12 ∨ j = 13 ∨ j = 14 by omega) with rfl | rfl | rfl | rfl | rfl | rfl | rfl | rfl | rfl | rfl | rfl | rfl | rfl | rfl | rfl <;> assumption) (by decide)
                                refine lv_tableOut (tgt := 190) hx hb dL_act_4 (hout.imp id (fun q => q)) (by decide) ?_
                                refine lv_aload_n hx hb dL_act_190 rfl (lv_at hl 0 rfl) ?_
                                refine lv_iload_n hx hb dL_act_191 rfl (lv_at hl 2 rfl) ?_
                                refine lv_iconst (v := (1 : Int32)) hx hb dL_act_192 (by decide +kernel) ?_
                                refine lv_iand hx hb dL_act_193 ?_
                                obtain ⟨q_62, I_63, hc_64, h⟩ := clP_e h
                                refine r_callV (As := [.int (a2 &&& (1 : Int32))]) [] X (c6_restore l g hG N _ _ _ t0 _ _ hc_64) cal_X6_restore (im_X6_restore) (se_X6_restore) k_469 (tag_lt t0 (by decide)) (by rw [lay, t0]; rfl) rfl rfl ⟨rfl, rfl⟩ ⟨Nat.le_of_ble_eq_true rfl, Nat.le_of_ble_eq_true rfl⟩ hP hS hl.1 rfl (Nat.le_of_ble_eq_true rfl) dL_act_194 ⟨Nat.zero_le _, Nat.zero_le _⟩ (fun H locs hP hS => ?_)
                                show W p l e rmL_act s m args below meth c H locs 0 0 _ (F0 m 197 ls [.int q_62])
                                exact r_iret X hr hlk hP hS dL_act_197 h
abbrev rmL_now : Room := { frames := 6, cells := 0, slots := 0, locals := 136 }
def fL_now_57 (N : Nat) (k0 : Nat) : Nat → Mem → Int64 → Int32 → Option (Int64 × Mem)
  | 0, _, _, _ => none
  | cnt+1, I, w1, v3 =>
    clP (f6_queueLength N I k0) (fun (q_20 : Int32) (I_21 : Mem) =>
    if q_20 ≤ v3 then
    some (w1, I_21)
    else
    clP (f6_itemAt N I_21 k0 v3) (fun (q_24 : Int32) (I_25 : Mem) =>
    letM ((((1009 : Int64) * w1) - ((1009 : Int64) * w1) / (1000000007 : Int64) * (1000000007 : Int64)) + q_24.toInt64) (fun x_27 : Int64 =>
    letM (v3 + (1 : Int32)) (fun x_28 : Int32 =>
    fL_now_57 N k0 cnt I_25 x_27 x_28))))
def fL_now (N : Nat) (I : Mem) (k0 : Nat) : Option (Int64 × Mem) :=
    clP (f6_clock N I k0) (fun (q_1 : Int32) (I_2 : Mem) =>
    clP (f6_position N I_2 k0 (0 : Int32)) (fun (q_4 : Int32) (I_5 : Mem) =>
    clP (f6_position N I_5 k0 (1 : Int32)) (fun (q_7 : Int32) (I_8 : Mem) =>
    clP (f6_rampIndex N I_8 k0) (fun (q_10 : Int32) (I_11 : Mem) =>
    clP (f6_topIndex N I_11 k0) (fun (q_13 : Int32) (I_14 : Mem) =>
    clP (f6_approximateInterval N I_14 k0 (3 : Int32)) (fun (q_16 : Int32) (I_17 : Mem) =>
    letM (((((q_1.toInt64 + ((31 : Int64) * q_4.toInt64)) + ((101 : Int64) * q_7.toInt64)) + ((7 : Int64) * q_10.toInt64)) + ((1009 : Int64) * q_13.toInt64)) + q_16.toInt64) (fun x_19 : Int64 =>
    fL_now_57 N k0 N I_17 x_19 (0 : Int32))))))))
set_option maxHeartbeats 4000000 in
set_option maxRecDepth 100000 in
theorem LL_now_57 (hG : Apart g NT) (N : Nat) (k0 : Nat) (t0 : tag k0 = 5) (X : Cx g p s m args c cL_now RL 4) (hr : meth.sig.returnType = (some .long)) (hlk : meth.locks = false) (r0 : Int64) (I0 : Mem) : ∀ (cnt : Nat) (I : Mem) (w1 : Int64) (v3 : Int32), fL_now_57 N k0 cnt I w1 v3 = some (r0, I0) → ∀ (H : Heap) (locs : List Loc) (ls : Array Slot), Wp g I H → va_S (gA g) s.heap H locs → lv_has ls 4 [(0, .ref (ga g k0)), (1, .long w1), (3, .int v3)] → W p l e rmL_now s m args below meth c H locs 0 0 (MQ below (Qg g (some (.long r0)) I0) args s 0 0 (gA g)) (F0 m 57 ls []) := by
  have hx := X.hx
  have hb := X.hb
  intro cnt
  induction cnt with
  | zero =>
    intro I w1 v3 h
    rw [fL_now_57] at h
    cases h
  | succ cnt ih =>
    intro I w1 v3 h H locs ls hP hS hl
    rw [fL_now_57] at h
    refine lv_iload_n hx hb dL_now_57 rfl (lv_at hl 2 rfl) ?_
    refine lv_aload_n hx hb dL_now_58 rfl (lv_at hl 0 rfl) ?_
    obtain ⟨q_20, I_21, hc_22, h⟩ := clP_e h
    refine r_callV (As := []) [.int v3] X (c6_queueLength l g hG N _ _ t0 _ _ hc_22) cal_X6_queueLength (im_X6_queueLength) (se_X6_queueLength) k_184 (tag_lt t0 (by decide)) (by rw [lay, t0]; rfl) rfl rfl ⟨rfl, rfl⟩ ⟨Nat.le_of_ble_eq_true rfl, Nat.le_of_ble_eq_true rfl⟩ hP hS hl.1 rfl (Nat.le_of_ble_eq_true rfl) dL_now_59 ⟨Nat.zero_le _, Nat.zero_le _⟩ (fun H locs hP hS => ?_)
    show W p l e rmL_now s m args below meth c H locs 0 0 _ (F0 m 62 ls [.int q_20, .int v3])
    refine lv_icmp_ge (tgt := 88) hx hb dL_now_62 (by decide) (fun c_23 => ?_) (fun c_23 => ?_)
    · replace h := ifp c_23 h
      refine lv_lload_n hx hb dL_now_88 rfl (lv_at hl 1 rfl) ?_
      exact r_lret X hr hlk hP hS dL_now_89 h
    · replace h := ifn c_23 h
      refine lv_ldc2 (v := (1009 : Int64)) hx hb X.ow (X.hts _ k_612) dL_now_65 ?_
      refine lv_lload_n hx hb dL_now_68 rfl (lv_at hl 1 rfl) ?_
      refine lv_lmul hx hb dL_now_69 ?_
      refine lv_ldc2 (v := (1000000007 : Int64)) hx hb X.ow (X.hts _ k_617) dL_now_70 ?_
      refine lv_lrem hx hb dL_now_73 (by decide) ?_
      refine lv_aload_n hx hb dL_now_74 rfl (lv_at hl 0 rfl) ?_
      refine lv_iload_n hx hb dL_now_75 rfl (lv_at hl 2 rfl) ?_
      obtain ⟨q_24, I_25, hc_26, h⟩ := clP_e h
      refine r_callV (As := [.int v3]) [.long (((1009 : Int64) * w1) - ((1009 : Int64) * w1) / (1000000007 : Int64) * (1000000007 : Int64))] X (c6_itemAt l g hG N _ _ _ t0 _ _ hc_26) cal_X6_itemAt (im_X6_itemAt) (se_X6_itemAt) k_208 (tag_lt t0 (by decide)) (by rw [lay, t0]; rfl) rfl rfl ⟨rfl, rfl⟩ ⟨Nat.le_of_ble_eq_true rfl, Nat.le_of_ble_eq_true rfl⟩ hP hS hl.1 rfl (Nat.le_of_ble_eq_true rfl) dL_now_76 ⟨Nat.zero_le _, Nat.zero_le _⟩ (fun H locs hP hS => ?_)
      show W p l e rmL_now s m args below meth c H locs 0 0 _ (F0 m 79 ls [.int q_24, .long (((1009 : Int64) * w1) - ((1009 : Int64) * w1) / (1000000007 : Int64) * (1000000007 : Int64))])
      refine lv_i2l (v := q_24.toInt64) hx hb dL_now_79 (by rfl) ?_
      refine lv_ladd hx hb dL_now_80 ?_
      obtain ⟨x_27, ex_27, h⟩ := letM_e h
      refine r_nml ex_27 ?_
      refine lv_lstore_n (lv' := [(1, .long x_27), (0, .ref (ga g k0)), (3, .int v3)]) hx hb dL_now_81 rfl hl (by decide) rfl (fun ls hl => ?_)
      obtain ⟨x_28, ex_28, h⟩ := letM_e h
      refine lv_iinc (v := x_28) (lv' := [(3, .int x_28), (1, .long x_27), (0, .ref (ga g k0))]) hx hb dL_now_82 hl (k := 2) rfl (by rw [ex_28]; rfl) (by decide) rfl (fun ls hl => ?_)
      refine lv_goto (tgt := 57) hx hb dL_now_85 (by decide) ?_
      exact ih I_25 x_27 x_28 h _ _ _ hP hS (lv_sub hl [2, 1, 0] rfl)
set_option maxHeartbeats 4000000 in
set_option maxRecDepth 100000 in
theorem ccL_now (l : Launch) (g : GG) (hG : Apart g NT) (N : Nat) (I : Mem) (k0 : Nat) (t0 : tag k0 = 5) (r0 : Int64) (I0 : Mem) (h : fL_now N I k0 = some (r0, I0)) : Mc l g yL_now cL_now 4 (some .long) rmL_now I [.ref (ga g k0)] (some (.long r0)) I0 := by
  refine Mc.of hG (by decide +kernel) (Nat.le_of_ble_eq_true rfl) ?_
  intro p e s m args below meth c ls X hr hlk hP hS hl
  have X : Cx g p s m args c cL_now RL 4 := X
  have hx := X.hx
  have hb := X.hb
  have hl : lv_has ls 4 [(0, .ref (ga g k0))] := hl
  have locs : List Loc := []
  unfold fL_now at h
  refine lv_aload_n hx hb dL_now_0 rfl (lv_at hl 0 rfl) ?_
  obtain ⟨q_1, I_2, hc_3, h⟩ := clP_e h
  refine r_callV (As := []) [] X (c6_clock l g hG N _ _ t0 _ _ hc_3) cal_X6_clock (im_X6_clock) (se_X6_clock) k_605 (tag_lt t0 (by decide)) (by rw [lay, t0]; rfl) rfl rfl ⟨rfl, rfl⟩ ⟨Nat.le_of_ble_eq_true rfl, Nat.le_of_ble_eq_true rfl⟩ hP hS hl.1 rfl (Nat.le_of_ble_eq_true rfl) dL_now_1 ⟨Nat.zero_le _, Nat.zero_le _⟩ (fun H locs hP hS => ?_)
  show W p l e rmL_now s m args below meth c H locs 0 0 _ (F0 m 4 ls [.int q_1])
  refine lv_i2l (v := q_1.toInt64) hx hb dL_now_4 (by rfl) ?_
  refine lv_ldc2 (v := (31 : Int64)) hx hb X.ow (X.hts _ k_609) dL_now_5 ?_
  refine lv_aload_n hx hb dL_now_8 rfl (lv_at hl 0 rfl) ?_
  refine lv_iconst (v := (0 : Int32)) hx hb dL_now_9 (by decide +kernel) ?_
  obtain ⟨q_4, I_5, hc_6, h⟩ := clP_e h
  refine r_callV (As := [.int (0 : Int32)]) [.long (31 : Int64), .long q_1.toInt64] X (c6_position l g hG N _ _ _ t0 _ _ hc_6) cal_X6_position (im_X6_position) (se_X6_position) k_196 (tag_lt t0 (by decide)) (by rw [lay, t0]; rfl) rfl rfl ⟨rfl, rfl⟩ ⟨Nat.le_of_ble_eq_true rfl, Nat.le_of_ble_eq_true rfl⟩ hP hS hl.1 rfl (Nat.le_of_ble_eq_true rfl) dL_now_10 ⟨Nat.zero_le _, Nat.zero_le _⟩ (fun H locs hP hS => ?_)
  show W p l e rmL_now s m args below meth c H locs 0 0 _ (F0 m 13 ls [.int q_4, .long (31 : Int64), .long q_1.toInt64])
  refine lv_i2l (v := q_4.toInt64) hx hb dL_now_13 (by rfl) ?_
  refine lv_lmul hx hb dL_now_14 ?_
  refine lv_ladd hx hb dL_now_15 ?_
  refine lv_ldc2 (v := (101 : Int64)) hx hb X.ow (X.hts _ k_610) dL_now_16 ?_
  refine lv_aload_n hx hb dL_now_19 rfl (lv_at hl 0 rfl) ?_
  refine lv_iconst (v := (1 : Int32)) hx hb dL_now_20 (by decide +kernel) ?_
  obtain ⟨q_7, I_8, hc_9, h⟩ := clP_e h
  refine r_callV (As := [.int (1 : Int32)]) [.long (101 : Int64), .long (q_1.toInt64 + ((31 : Int64) * q_4.toInt64))] X (c6_position l g hG N _ _ _ t0 _ _ hc_9) cal_X6_position (im_X6_position) (se_X6_position) k_196 (tag_lt t0 (by decide)) (by rw [lay, t0]; rfl) rfl rfl ⟨rfl, rfl⟩ ⟨Nat.le_of_ble_eq_true rfl, Nat.le_of_ble_eq_true rfl⟩ hP hS hl.1 rfl (Nat.le_of_ble_eq_true rfl) dL_now_21 ⟨Nat.zero_le _, Nat.zero_le _⟩ (fun H locs hP hS => ?_)
  show W p l e rmL_now s m args below meth c H locs 0 0 _ (F0 m 24 ls [.int q_7, .long (101 : Int64), .long (q_1.toInt64 + ((31 : Int64) * q_4.toInt64))])
  refine lv_i2l (v := q_7.toInt64) hx hb dL_now_24 (by rfl) ?_
  refine lv_lmul hx hb dL_now_25 ?_
  refine lv_ladd hx hb dL_now_26 ?_
  refine lv_ldc2 (v := (7 : Int64)) hx hb X.ow (X.hts _ k_611) dL_now_27 ?_
  refine lv_aload_n hx hb dL_now_30 rfl (lv_at hl 0 rfl) ?_
  obtain ⟨q_10, I_11, hc_12, h⟩ := clP_e h
  refine r_callV (As := []) [.long (7 : Int64), .long ((q_1.toInt64 + ((31 : Int64) * q_4.toInt64)) + ((101 : Int64) * q_7.toInt64))] X (c6_rampIndex l g hG N _ _ t0 _ _ hc_12) cal_X6_rampIndex (im_X6_rampIndex) (se_X6_rampIndex) k_477 (tag_lt t0 (by decide)) (by rw [lay, t0]; rfl) rfl rfl ⟨rfl, rfl⟩ ⟨Nat.le_of_ble_eq_true rfl, Nat.le_of_ble_eq_true rfl⟩ hP hS hl.1 rfl (Nat.le_of_ble_eq_true rfl) dL_now_31 ⟨Nat.zero_le _, Nat.zero_le _⟩ (fun H locs hP hS => ?_)
  show W p l e rmL_now s m args below meth c H locs 0 0 _ (F0 m 34 ls [.int q_10, .long (7 : Int64), .long ((q_1.toInt64 + ((31 : Int64) * q_4.toInt64)) + ((101 : Int64) * q_7.toInt64))])
  refine lv_i2l (v := q_10.toInt64) hx hb dL_now_34 (by rfl) ?_
  refine lv_lmul hx hb dL_now_35 ?_
  refine lv_ladd hx hb dL_now_36 ?_
  refine lv_ldc2 (v := (1009 : Int64)) hx hb X.ow (X.hts _ k_612) dL_now_37 ?_
  refine lv_aload_n hx hb dL_now_40 rfl (lv_at hl 0 rfl) ?_
  obtain ⟨q_13, I_14, hc_15, h⟩ := clP_e h
  refine r_callV (As := []) [.long (1009 : Int64), .long (((q_1.toInt64 + ((31 : Int64) * q_4.toInt64)) + ((101 : Int64) * q_7.toInt64)) + ((7 : Int64) * q_10.toInt64))] X (c6_topIndex l g hG N _ _ t0 _ _ hc_15) cal_X6_topIndex (im_X6_topIndex) (se_X6_topIndex) k_613 (tag_lt t0 (by decide)) (by rw [lay, t0]; rfl) rfl rfl ⟨rfl, rfl⟩ ⟨Nat.le_of_ble_eq_true rfl, Nat.le_of_ble_eq_true rfl⟩ hP hS hl.1 rfl (Nat.le_of_ble_eq_true rfl) dL_now_41 ⟨Nat.zero_le _, Nat.zero_le _⟩ (fun H locs hP hS => ?_)
  show W p l e rmL_now s m args below meth c H locs 0 0 _ (F0 m 44 ls [.int q_13, .long (1009 : Int64), .long (((q_1.toInt64 + ((31 : Int64) * q_4.toInt64)) + ((101 : Int64) * q_7.toInt64)) + ((7 : Int64) * q_10.toInt64))])
  refine lv_i2l (v := q_13.toInt64) hx hb dL_now_44 (by rfl) ?_
  refine lv_lmul hx hb dL_now_45 ?_
  refine lv_ladd hx hb dL_now_46 ?_
  refine lv_aload_n hx hb dL_now_47 rfl (lv_at hl 0 rfl) ?_
  refine lv_iconst (v := (3 : Int32)) hx hb dL_now_48 (by decide +kernel) ?_
  obtain ⟨q_16, I_17, hc_18, h⟩ := clP_e h
  refine r_callV (As := [.int (3 : Int32)]) [.long ((((q_1.toInt64 + ((31 : Int64) * q_4.toInt64)) + ((101 : Int64) * q_7.toInt64)) + ((7 : Int64) * q_10.toInt64)) + ((1009 : Int64) * q_13.toInt64))] X (c6_approximateInterval l g hG N _ _ _ t0 _ _ hc_18) cal_X6_approximateInterval (im_X6_approximateInterval) (se_X6_approximateInterval) k_290 (tag_lt t0 (by decide)) (by rw [lay, t0]; rfl) rfl rfl ⟨rfl, rfl⟩ ⟨Nat.le_of_ble_eq_true rfl, Nat.le_of_ble_eq_true rfl⟩ hP hS hl.1 rfl (Nat.le_of_ble_eq_true rfl) dL_now_49 ⟨Nat.zero_le _, Nat.zero_le _⟩ (fun H locs hP hS => ?_)
  show W p l e rmL_now s m args below meth c H locs 0 0 _ (F0 m 52 ls [.int q_16, .long ((((q_1.toInt64 + ((31 : Int64) * q_4.toInt64)) + ((101 : Int64) * q_7.toInt64)) + ((7 : Int64) * q_10.toInt64)) + ((1009 : Int64) * q_13.toInt64))])
  refine lv_i2l (v := q_16.toInt64) hx hb dL_now_52 (by rfl) ?_
  refine lv_ladd hx hb dL_now_53 ?_
  obtain ⟨x_19, ex_19, h⟩ := letM_e h
  refine r_nml ex_19 ?_
  refine lv_lstore_n (lv' := [(1, .long x_19), (0, .ref (ga g k0))]) hx hb dL_now_54 rfl hl (by decide) rfl (fun ls hl => ?_)
  refine lv_iconst (v := (0 : Int32)) hx hb dL_now_55 (by decide +kernel) ?_
  refine lv_istore_n (lv' := [(3, .int (0 : Int32)), (1, .long x_19), (0, .ref (ga g k0))]) hx hb dL_now_56 rfl hl (by decide) rfl (fun ls hl => ?_)
  exact LL_now_57 hG N k0 t0 X hr hlk r0 I0 N I_17 x_19 (0 : Int32) h _ _ _ hP hS (lv_sub hl [2, 1, 0] rfl)
abbrev rmL_alike : Room := { frames := 7, cells := 0, slots := 0, locals := 159 }
def fL_alike_53 (N : Nat) (k0 : Nat) (k1 : Nat) : Nat → Mem → Int32 → Int32 → Option (Int32 × Mem)
  | 0, _, _, _ => none
  | cnt+1, I, v2, v3 =>
    if (6 : Int32) ≤ v3 then
    if ¬ (v2 = 0 ∨ v2 = 1) then none else
    some (v2, I)
    else
    if v2 = (0 : Int32) then
    letM (v3 + (1 : Int32)) (fun x_11 : Int32 =>
    fL_alike_53 N k0 k1 cnt I (0 : Int32) x_11)
    else
    clP (f6_interval N I k0 ((199 : Int32) * v3)) (fun (q_12 : Int32) (I_13 : Mem) =>
    clP (f6_interval N I_13 k1 ((199 : Int32) * v3)) (fun (q_15 : Int32) (I_16 : Mem) =>
    if q_12 = q_15 then
    clP (f6_approximateInterval N I_16 k0 ((199 : Int32) * v3)) (fun (q_20 : Int32) (I_21 : Mem) =>
    clP (f6_approximateInterval N I_21 k1 ((199 : Int32) * v3)) (fun (q_23 : Int32) (I_24 : Mem) =>
    if q_20 = q_23 then
    clP (f6_moveTicks N I_24 k0 ((1 : Int32) + ((150 : Int32) * v3))) (fun (q_28 : Int32) (I_29 : Mem) =>
    clP (f6_moveTicks N I_29 k1 ((1 : Int32) + ((150 : Int32) * v3))) (fun (q_31 : Int32) (I_32 : Mem) =>
    if q_28 = q_31 then
    clP (f6_positionAfter N I_32 k0 (v3 - v3 / (2 : Int32) * (2 : Int32)) ((3000 : Int32) * v3)) (fun (q_36 : Int32) (I_37 : Mem) =>
    clP (f6_positionAfter N I_37 k1 (v3 - v3 / (2 : Int32) * (2 : Int32)) ((3000 : Int32) * v3)) (fun (q_39 : Int32) (I_40 : Mem) =>
    if q_36 = q_39 then
    clP (f6_randomSpeeds N I_40 k0 v3.toInt64 (20 : Int32)) (fun (q_44 : Int32) (I_45 : Mem) =>
    clP (f6_randomSpeeds N I_45 k1 v3.toInt64 (20 : Int32)) (fun (q_47 : Int32) (I_48 : Mem) =>
    if q_44 = q_47 then
    letM (v3 + (1 : Int32)) (fun x_52 : Int32 =>
    fL_alike_53 N k0 k1 cnt I_48 (1 : Int32) x_52)
    else
    letM (v3 + (1 : Int32)) (fun x_51 : Int32 =>
    fL_alike_53 N k0 k1 cnt I_48 (0 : Int32) x_51)))
    else
    letM (v3 + (1 : Int32)) (fun x_43 : Int32 =>
    fL_alike_53 N k0 k1 cnt I_40 (0 : Int32) x_43)))
    else
    letM (v3 + (1 : Int32)) (fun x_35 : Int32 =>
    fL_alike_53 N k0 k1 cnt I_32 (0 : Int32) x_35)))
    else
    letM (v3 + (1 : Int32)) (fun x_27 : Int32 =>
    fL_alike_53 N k0 k1 cnt I_24 (0 : Int32) x_27)))
    else
    letM (v3 + (1 : Int32)) (fun x_19 : Int32 =>
    fL_alike_53 N k0 k1 cnt I_16 (0 : Int32) x_19)))
def fL_alike_50 (N : Nat) (k0 : Nat) (k1 : Nat) (I : Mem) (s0 : Int32) : Option (Int32 × Mem) :=
    fL_alike_53 N k0 k1 N I s0 (0 : Int32)
def fL_alike_49 (N : Nat) (k0 : Nat) (k1 : Nat) (I : Mem) : Option (Int32 × Mem) :=
    fL_alike_50 N k0 k1 I (0 : Int32)
def fL_alike (N : Nat) (I : Mem) (k0 : Nat) (k1 : Nat) : Option (Int32 × Mem) :=
    clP (f6_queueLength N I k0) (fun (q_1 : Int32) (I_2 : Mem) =>
    clP (f6_queueLength N I_2 k1) (fun (q_4 : Int32) (I_5 : Mem) =>
    if q_1 = q_4 then
    clP (fL_now N I_5 k0) (fun (q_53 : Int64) (I_54 : Mem) =>
    clP (fL_now N I_54 k1) (fun (q_56 : Int64) (I_57 : Mem) =>
    if (lg_cmp q_53 q_56) = (0 : Int32) then
    clP (f6_errorPosition N I_57 k0) (fun (q_60 : Int32) (I_61 : Mem) =>
    clP (f6_errorPosition N I_61 k1) (fun (q_63 : Int32) (I_64 : Mem) =>
    if q_60 = q_63 then
    clP (f6_ticksLeft N I_64 k0) (fun (q_67 : Int32) (I_68 : Mem) =>
    clP (f6_ticksLeft N I_68 k1) (fun (q_70 : Int32) (I_71 : Mem) =>
    if q_67 = q_70 then
    fL_alike_50 N k0 k1 I_71 (1 : Int32)
    else
    fL_alike_49 N k0 k1 I_71))
    else
    fL_alike_49 N k0 k1 I_64))
    else
    fL_alike_49 N k0 k1 I_57))
    else
    fL_alike_49 N k0 k1 I_5))
set_option maxHeartbeats 4000000 in
set_option maxRecDepth 100000 in
theorem LL_alike_53 (hG : Apart g NT) (N : Nat) (k0 : Nat) (k1 : Nat) (t0 : tag k0 = 5) (t1 : tag k1 = 5) (X : Cx g p s m args c cL_alike RL 4) (hr : meth.sig.returnType = (some .boolean)) (hlk : meth.locks = false) (r0 : Int32) (I0 : Mem) : ∀ (cnt : Nat) (I : Mem) (v2 : Int32) (v3 : Int32), fL_alike_53 N k0 k1 cnt I v2 v3 = some (r0, I0) → ∀ (H : Heap) (locs : List Loc) (ls : Array Slot), Wp g I H → va_S (gA g) s.heap H locs → lv_has ls 4 [(0, .ref (ga g k0)), (1, .ref (ga g k1)), (2, .int v2), (3, .int v3)] → W p l e rmL_alike s m args below meth c H locs 0 0 (MQ below (Qg g (some (.int r0)) I0) args s 0 0 (gA g)) (F0 m 53 ls []) := by
  have hx := X.hx
  have hb := X.hb
  intro cnt
  induction cnt with
  | zero =>
    intro I v2 v3 h
    rw [fL_alike_53] at h
    cases h
  | succ cnt ih =>
    intro I v2 v3 h H locs ls hP hS hl
    rw [fL_alike_53] at h
    refine lv_iload_n hx hb dL_alike_53 rfl (lv_at hl 3 rfl) ?_
    refine lv_bipush (v := (6 : Int32)) hx hb dL_alike_54 (by decide +kernel) ?_
    refine lv_icmp_ge (tgt := 188) hx hb dL_alike_56 (by decide) (fun c_8 => ?_) (fun c_8 => ?_)
    · replace h := ifp c_8 h
      refine lv_iload_n hx hb dL_alike_188 rfl (lv_at hl 2 rfl) ?_
      obtain ⟨g_9, h⟩ := gd_e h
      exact r_zret X hr hlk hP hS (bool_nar g_9) dL_alike_189 h
    · replace h := ifn c_8 h
      refine lv_iload_n hx hb dL_alike_59 rfl (lv_at hl 2 rfl) ?_
      refine lv_if_eq (tgt := 180) hx hb dL_alike_60 (by decide) (fun c_10 => ?_) (fun c_10 => ?_)
      · replace h := ifp c_10 h
        refine lv_iconst (v := (0 : Int32)) hx hb dL_alike_180 (by decide +kernel) ?_
        refine lv_istore_n (lv' := [(2, .int (0 : Int32)), (0, .ref (ga g k0)), (1, .ref (ga g k1)), (3, .int v3)]) hx hb dL_alike_181 rfl hl (by decide) rfl (fun ls hl => ?_)
        obtain ⟨x_11, ex_11, h⟩ := letM_e h
        refine lv_iinc (v := x_11) (lv' := [(3, .int x_11), (2, .int (0 : Int32)), (0, .ref (ga g k0)), (1, .ref (ga g k1))]) hx hb dL_alike_182 hl (k := 3) rfl (by rw [ex_11]; rfl) (by decide) rfl (fun ls hl => ?_)
        refine lv_goto (tgt := 53) hx hb dL_alike_185 (by decide) ?_
        exact ih I (0 : Int32) x_11 h _ _ _ hP hS (lv_sub hl [2, 3, 1, 0] rfl)
      · replace h := ifn c_10 h
        refine lv_aload_n hx hb dL_alike_63 rfl (lv_at hl 0 rfl) ?_
        refine lv_sipush (v := (199 : Int32)) hx hb dL_alike_64 (by decide +kernel) ?_
        refine lv_iload_n hx hb dL_alike_67 rfl (lv_at hl 3 rfl) ?_
        refine lv_imul hx hb dL_alike_68 ?_
        obtain ⟨q_12, I_13, hc_14, h⟩ := clP_e h
        refine r_callV (As := [.int ((199 : Int32) * v3)]) [] X (c6_interval l g hG N _ _ _ t0 _ _ hc_14) cal_X6_interval (im_X6_interval) (se_X6_interval) k_239 (tag_lt t0 (by decide)) (by rw [lay, t0]; rfl) rfl rfl ⟨rfl, rfl⟩ ⟨Nat.le_of_ble_eq_true rfl, Nat.le_of_ble_eq_true rfl⟩ hP hS hl.1 rfl (Nat.le_of_ble_eq_true rfl) dL_alike_69 ⟨Nat.zero_le _, Nat.zero_le _⟩ (fun H locs hP hS => ?_)
        show W p l e rmL_alike s m args below meth c H locs 0 0 _ (F0 m 72 ls [.int q_12])
        refine lv_aload_n hx hb dL_alike_72 rfl (lv_at hl 1 rfl) ?_
        refine lv_sipush (v := (199 : Int32)) hx hb dL_alike_73 (by decide +kernel) ?_
        refine lv_iload_n hx hb dL_alike_76 rfl (lv_at hl 3 rfl) ?_
        refine lv_imul hx hb dL_alike_77 ?_
        obtain ⟨q_15, I_16, hc_17, h⟩ := clP_e h
        refine r_callV (As := [.int ((199 : Int32) * v3)]) [.int q_12] X (c6_interval l g hG N _ _ _ t1 _ _ hc_17) cal_X6_interval (im_X6_interval) (se_X6_interval) k_239 (tag_lt t1 (by decide)) (by rw [lay, t1]; rfl) rfl rfl ⟨rfl, rfl⟩ ⟨Nat.le_of_ble_eq_true rfl, Nat.le_of_ble_eq_true rfl⟩ hP hS hl.1 rfl (Nat.le_of_ble_eq_true rfl) dL_alike_78 ⟨Nat.zero_le _, Nat.zero_le _⟩ (fun H locs hP hS => ?_)
        show W p l e rmL_alike s m args below meth c H locs 0 0 _ (F0 m 81 ls [.int q_15, .int q_12])
        refine lv_icmp_ne (tgt := 180) hx hb dL_alike_81 (by decide) (fun c_18 => ?_) (fun c_18 => ?_)
        · replace h := ifn c_18 h
          refine lv_iconst (v := (0 : Int32)) hx hb dL_alike_180 (by decide +kernel) ?_
          refine lv_istore_n (lv' := [(2, .int (0 : Int32)), (0, .ref (ga g k0)), (1, .ref (ga g k1)), (3, .int v3)]) hx hb dL_alike_181 rfl hl (by decide) rfl (fun ls hl => ?_)
          obtain ⟨x_19, ex_19, h⟩ := letM_e h
          refine lv_iinc (v := x_19) (lv' := [(3, .int x_19), (2, .int (0 : Int32)), (0, .ref (ga g k0)), (1, .ref (ga g k1))]) hx hb dL_alike_182 hl (k := 3) rfl (by rw [ex_19]; rfl) (by decide) rfl (fun ls hl => ?_)
          refine lv_goto (tgt := 53) hx hb dL_alike_185 (by decide) ?_
          exact ih I_16 (0 : Int32) x_19 h _ _ _ hP hS (lv_sub hl [2, 3, 1, 0] rfl)
        · replace h := ifp c_18 h
          refine lv_aload_n hx hb dL_alike_84 rfl (lv_at hl 0 rfl) ?_
          refine lv_sipush (v := (199 : Int32)) hx hb dL_alike_85 (by decide +kernel) ?_
          refine lv_iload_n hx hb dL_alike_88 rfl (lv_at hl 3 rfl) ?_
          refine lv_imul hx hb dL_alike_89 ?_
          obtain ⟨q_20, I_21, hc_22, h⟩ := clP_e h
          refine r_callV (As := [.int ((199 : Int32) * v3)]) [] X (c6_approximateInterval l g hG N _ _ _ t0 _ _ hc_22) cal_X6_approximateInterval (im_X6_approximateInterval) (se_X6_approximateInterval) k_290 (tag_lt t0 (by decide)) (by rw [lay, t0]; rfl) rfl rfl ⟨rfl, rfl⟩ ⟨Nat.le_of_ble_eq_true rfl, Nat.le_of_ble_eq_true rfl⟩ hP hS hl.1 rfl (Nat.le_of_ble_eq_true rfl) dL_alike_90 ⟨Nat.zero_le _, Nat.zero_le _⟩ (fun H locs hP hS => ?_)
          show W p l e rmL_alike s m args below meth c H locs 0 0 _ (F0 m 93 ls [.int q_20])
          refine lv_aload_n hx hb dL_alike_93 rfl (lv_at hl 1 rfl) ?_
          refine lv_sipush (v := (199 : Int32)) hx hb dL_alike_94 (by decide +kernel) ?_
          refine lv_iload_n hx hb dL_alike_97 rfl (lv_at hl 3 rfl) ?_
          refine lv_imul hx hb dL_alike_98 ?_
          obtain ⟨q_23, I_24, hc_25, h⟩ := clP_e h
          refine r_callV (As := [.int ((199 : Int32) * v3)]) [.int q_20] X (c6_approximateInterval l g hG N _ _ _ t1 _ _ hc_25) cal_X6_approximateInterval (im_X6_approximateInterval) (se_X6_approximateInterval) k_290 (tag_lt t1 (by decide)) (by rw [lay, t1]; rfl) rfl rfl ⟨rfl, rfl⟩ ⟨Nat.le_of_ble_eq_true rfl, Nat.le_of_ble_eq_true rfl⟩ hP hS hl.1 rfl (Nat.le_of_ble_eq_true rfl) dL_alike_99 ⟨Nat.zero_le _, Nat.zero_le _⟩ (fun H locs hP hS => ?_)
          show W p l e rmL_alike s m args below meth c H locs 0 0 _ (F0 m 102 ls [.int q_23, .int q_20])
          refine lv_icmp_ne (tgt := 180) hx hb dL_alike_102 (by decide) (fun c_26 => ?_) (fun c_26 => ?_)
          · replace h := ifn c_26 h
            refine lv_iconst (v := (0 : Int32)) hx hb dL_alike_180 (by decide +kernel) ?_
            refine lv_istore_n (lv' := [(2, .int (0 : Int32)), (0, .ref (ga g k0)), (1, .ref (ga g k1)), (3, .int v3)]) hx hb dL_alike_181 rfl hl (by decide) rfl (fun ls hl => ?_)
            obtain ⟨x_27, ex_27, h⟩ := letM_e h
            refine lv_iinc (v := x_27) (lv' := [(3, .int x_27), (2, .int (0 : Int32)), (0, .ref (ga g k0)), (1, .ref (ga g k1))]) hx hb dL_alike_182 hl (k := 3) rfl (by rw [ex_27]; rfl) (by decide) rfl (fun ls hl => ?_)
            refine lv_goto (tgt := 53) hx hb dL_alike_185 (by decide) ?_
            exact ih I_24 (0 : Int32) x_27 h _ _ _ hP hS (lv_sub hl [2, 3, 1, 0] rfl)
          · replace h := ifp c_26 h
            refine lv_aload_n hx hb dL_alike_105 rfl (lv_at hl 0 rfl) ?_
            refine lv_iconst (v := (1 : Int32)) hx hb dL_alike_106 (by decide +kernel) ?_
            refine lv_sipush (v := (150 : Int32)) hx hb dL_alike_107 (by decide +kernel) ?_
            refine lv_iload_n hx hb dL_alike_110 rfl (lv_at hl 3 rfl) ?_
            refine lv_imul hx hb dL_alike_111 ?_
            refine lv_iadd hx hb dL_alike_112 ?_
            obtain ⟨q_28, I_29, hc_30, h⟩ := clP_e h
            refine r_callV (As := [.int ((1 : Int32) + ((150 : Int32) * v3))]) [] X (c6_moveTicks l g hG N _ _ _ t0 _ _ hc_30) cal_X6_moveTicks (im_X6_moveTicks) (se_X6_moveTicks) k_405 (tag_lt t0 (by decide)) (by rw [lay, t0]; rfl) rfl rfl ⟨rfl, rfl⟩ ⟨Nat.le_of_ble_eq_true rfl, Nat.le_of_ble_eq_true rfl⟩ hP hS hl.1 rfl (Nat.le_of_ble_eq_true rfl) dL_alike_113 ⟨Nat.zero_le _, Nat.zero_le _⟩ (fun H locs hP hS => ?_)
            show W p l e rmL_alike s m args below meth c H locs 0 0 _ (F0 m 116 ls [.int q_28])
            refine lv_aload_n hx hb dL_alike_116 rfl (lv_at hl 1 rfl) ?_
            refine lv_iconst (v := (1 : Int32)) hx hb dL_alike_117 (by decide +kernel) ?_
            refine lv_sipush (v := (150 : Int32)) hx hb dL_alike_118 (by decide +kernel) ?_
            refine lv_iload_n hx hb dL_alike_121 rfl (lv_at hl 3 rfl) ?_
            refine lv_imul hx hb dL_alike_122 ?_
            refine lv_iadd hx hb dL_alike_123 ?_
            obtain ⟨q_31, I_32, hc_33, h⟩ := clP_e h
            refine r_callV (As := [.int ((1 : Int32) + ((150 : Int32) * v3))]) [.int q_28] X (c6_moveTicks l g hG N _ _ _ t1 _ _ hc_33) cal_X6_moveTicks (im_X6_moveTicks) (se_X6_moveTicks) k_405 (tag_lt t1 (by decide)) (by rw [lay, t1]; rfl) rfl rfl ⟨rfl, rfl⟩ ⟨Nat.le_of_ble_eq_true rfl, Nat.le_of_ble_eq_true rfl⟩ hP hS hl.1 rfl (Nat.le_of_ble_eq_true rfl) dL_alike_124 ⟨Nat.zero_le _, Nat.zero_le _⟩ (fun H locs hP hS => ?_)
            show W p l e rmL_alike s m args below meth c H locs 0 0 _ (F0 m 127 ls [.int q_31, .int q_28])
            refine lv_icmp_ne (tgt := 180) hx hb dL_alike_127 (by decide) (fun c_34 => ?_) (fun c_34 => ?_)
            · replace h := ifn c_34 h
              refine lv_iconst (v := (0 : Int32)) hx hb dL_alike_180 (by decide +kernel) ?_
              refine lv_istore_n (lv' := [(2, .int (0 : Int32)), (0, .ref (ga g k0)), (1, .ref (ga g k1)), (3, .int v3)]) hx hb dL_alike_181 rfl hl (by decide) rfl (fun ls hl => ?_)
              obtain ⟨x_35, ex_35, h⟩ := letM_e h
              refine lv_iinc (v := x_35) (lv' := [(3, .int x_35), (2, .int (0 : Int32)), (0, .ref (ga g k0)), (1, .ref (ga g k1))]) hx hb dL_alike_182 hl (k := 3) rfl (by rw [ex_35]; rfl) (by decide) rfl (fun ls hl => ?_)
              refine lv_goto (tgt := 53) hx hb dL_alike_185 (by decide) ?_
              exact ih I_32 (0 : Int32) x_35 h _ _ _ hP hS (lv_sub hl [2, 3, 1, 0] rfl)
            · replace h := ifp c_34 h
              refine lv_aload_n hx hb dL_alike_130 rfl (lv_at hl 0 rfl) ?_
              refine lv_iload_n hx hb dL_alike_131 rfl (lv_at hl 3 rfl) ?_
              refine lv_iconst (v := (2 : Int32)) hx hb dL_alike_132 (by decide +kernel) ?_
              refine lv_irem hx hb dL_alike_133 (by decide) ?_
              refine lv_sipush (v := (3000 : Int32)) hx hb dL_alike_134 (by decide +kernel) ?_
              refine lv_iload_n hx hb dL_alike_137 rfl (lv_at hl 3 rfl) ?_
              refine lv_imul hx hb dL_alike_138 ?_
              obtain ⟨q_36, I_37, hc_38, h⟩ := clP_e h
              refine r_callV (As := [.int (v3 - v3 / (2 : Int32) * (2 : Int32)), .int ((3000 : Int32) * v3)]) [] X (c6_positionAfter l g hG N _ _ _ _ t0 _ _ hc_38) cal_X6_positionAfter (im_X6_positionAfter) (se_X6_positionAfter) k_410 (tag_lt t0 (by decide)) (by rw [lay, t0]; rfl) rfl rfl ⟨rfl, rfl⟩ ⟨Nat.le_of_ble_eq_true rfl, Nat.le_of_ble_eq_true rfl⟩ hP hS hl.1 rfl (Nat.le_of_ble_eq_true rfl) dL_alike_139 ⟨Nat.zero_le _, Nat.zero_le _⟩ (fun H locs hP hS => ?_)
              show W p l e rmL_alike s m args below meth c H locs 0 0 _ (F0 m 142 ls [.int q_36])
              refine lv_aload_n hx hb dL_alike_142 rfl (lv_at hl 1 rfl) ?_
              refine lv_iload_n hx hb dL_alike_143 rfl (lv_at hl 3 rfl) ?_
              refine lv_iconst (v := (2 : Int32)) hx hb dL_alike_144 (by decide +kernel) ?_
              refine lv_irem hx hb dL_alike_145 (by decide) ?_
              refine lv_sipush (v := (3000 : Int32)) hx hb dL_alike_146 (by decide +kernel) ?_
              refine lv_iload_n hx hb dL_alike_149 rfl (lv_at hl 3 rfl) ?_
              refine lv_imul hx hb dL_alike_150 ?_
              obtain ⟨q_39, I_40, hc_41, h⟩ := clP_e h
              refine r_callV (As := [.int (v3 - v3 / (2 : Int32) * (2 : Int32)), .int ((3000 : Int32) * v3)]) [.int q_36] X (c6_positionAfter l g hG N _ _ _ _ t1 _ _ hc_41) cal_X6_positionAfter (im_X6_positionAfter) (se_X6_positionAfter) k_410 (tag_lt t1 (by decide)) (by rw [lay, t1]; rfl) rfl rfl ⟨rfl, rfl⟩ ⟨Nat.le_of_ble_eq_true rfl, Nat.le_of_ble_eq_true rfl⟩ hP hS hl.1 rfl (Nat.le_of_ble_eq_true rfl) dL_alike_151 ⟨Nat.zero_le _, Nat.zero_le _⟩ (fun H locs hP hS => ?_)
              show W p l e rmL_alike s m args below meth c H locs 0 0 _ (F0 m 154 ls [.int q_39, .int q_36])
              refine lv_icmp_ne (tgt := 180) hx hb dL_alike_154 (by decide) (fun c_42 => ?_) (fun c_42 => ?_)
              · replace h := ifn c_42 h
                refine lv_iconst (v := (0 : Int32)) hx hb dL_alike_180 (by decide +kernel) ?_
                refine lv_istore_n (lv' := [(2, .int (0 : Int32)), (0, .ref (ga g k0)), (1, .ref (ga g k1)), (3, .int v3)]) hx hb dL_alike_181 rfl hl (by decide) rfl (fun ls hl => ?_)
                obtain ⟨x_43, ex_43, h⟩ := letM_e h
                refine lv_iinc (v := x_43) (lv' := [(3, .int x_43), (2, .int (0 : Int32)), (0, .ref (ga g k0)), (1, .ref (ga g k1))]) hx hb dL_alike_182 hl (k := 3) rfl (by rw [ex_43]; rfl) (by decide) rfl (fun ls hl => ?_)
                refine lv_goto (tgt := 53) hx hb dL_alike_185 (by decide) ?_
                exact ih I_40 (0 : Int32) x_43 h _ _ _ hP hS (lv_sub hl [2, 3, 1, 0] rfl)
              · replace h := ifp c_42 h
                refine lv_aload_n hx hb dL_alike_157 rfl (lv_at hl 0 rfl) ?_
                refine lv_iload_n hx hb dL_alike_158 rfl (lv_at hl 3 rfl) ?_
                refine lv_i2l (v := v3.toInt64) hx hb dL_alike_159 (by rfl) ?_
                refine lv_bipush (v := (20 : Int32)) hx hb dL_alike_160 (by decide +kernel) ?_
                obtain ⟨q_44, I_45, hc_46, h⟩ := clP_e h
                refine r_callV (As := [.long v3.toInt64, .int (20 : Int32)]) [] X (c6_randomSpeeds l g hG N _ _ _ _ t0 _ _ hc_46) cal_X6_randomSpeeds (im_X6_randomSpeeds) (se_X6_randomSpeeds) k_452 (tag_lt t0 (by decide)) (by rw [lay, t0]; rfl) rfl rfl ⟨rfl, rfl⟩ ⟨Nat.le_of_ble_eq_true rfl, Nat.le_of_ble_eq_true rfl⟩ hP hS hl.1 rfl (Nat.le_of_ble_eq_true rfl) dL_alike_162 ⟨Nat.zero_le _, Nat.zero_le _⟩ (fun H locs hP hS => ?_)
                show W p l e rmL_alike s m args below meth c H locs 0 0 _ (F0 m 165 ls [.int q_44])
                refine lv_aload_n hx hb dL_alike_165 rfl (lv_at hl 1 rfl) ?_
                refine lv_iload_n hx hb dL_alike_166 rfl (lv_at hl 3 rfl) ?_
                refine lv_i2l (v := v3.toInt64) hx hb dL_alike_167 (by rfl) ?_
                refine lv_bipush (v := (20 : Int32)) hx hb dL_alike_168 (by decide +kernel) ?_
                obtain ⟨q_47, I_48, hc_49, h⟩ := clP_e h
                refine r_callV (As := [.long v3.toInt64, .int (20 : Int32)]) [.int q_44] X (c6_randomSpeeds l g hG N _ _ _ _ t1 _ _ hc_49) cal_X6_randomSpeeds (im_X6_randomSpeeds) (se_X6_randomSpeeds) k_452 (tag_lt t1 (by decide)) (by rw [lay, t1]; rfl) rfl rfl ⟨rfl, rfl⟩ ⟨Nat.le_of_ble_eq_true rfl, Nat.le_of_ble_eq_true rfl⟩ hP hS hl.1 rfl (Nat.le_of_ble_eq_true rfl) dL_alike_170 ⟨Nat.zero_le _, Nat.zero_le _⟩ (fun H locs hP hS => ?_)
                show W p l e rmL_alike s m args below meth c H locs 0 0 _ (F0 m 173 ls [.int q_47, .int q_44])
                refine lv_icmp_ne (tgt := 180) hx hb dL_alike_173 (by decide) (fun c_50 => ?_) (fun c_50 => ?_)
                · replace h := ifn c_50 h
                  refine lv_iconst (v := (0 : Int32)) hx hb dL_alike_180 (by decide +kernel) ?_
                  refine lv_istore_n (lv' := [(2, .int (0 : Int32)), (0, .ref (ga g k0)), (1, .ref (ga g k1)), (3, .int v3)]) hx hb dL_alike_181 rfl hl (by decide) rfl (fun ls hl => ?_)
                  obtain ⟨x_51, ex_51, h⟩ := letM_e h
                  refine lv_iinc (v := x_51) (lv' := [(3, .int x_51), (2, .int (0 : Int32)), (0, .ref (ga g k0)), (1, .ref (ga g k1))]) hx hb dL_alike_182 hl (k := 3) rfl (by rw [ex_51]; rfl) (by decide) rfl (fun ls hl => ?_)
                  refine lv_goto (tgt := 53) hx hb dL_alike_185 (by decide) ?_
                  exact ih I_48 (0 : Int32) x_51 h _ _ _ hP hS (lv_sub hl [2, 3, 1, 0] rfl)
                · replace h := ifp c_50 h
                  refine lv_iconst (v := (1 : Int32)) hx hb dL_alike_176 (by decide +kernel) ?_
                  refine lv_goto (tgt := 181) hx hb dL_alike_177 (by decide) ?_
                  refine lv_istore_n (lv' := [(2, .int (1 : Int32)), (0, .ref (ga g k0)), (1, .ref (ga g k1)), (3, .int v3)]) hx hb dL_alike_181 rfl hl (by decide) rfl (fun ls hl => ?_)
                  obtain ⟨x_52, ex_52, h⟩ := letM_e h
                  refine lv_iinc (v := x_52) (lv' := [(3, .int x_52), (2, .int (1 : Int32)), (0, .ref (ga g k0)), (1, .ref (ga g k1))]) hx hb dL_alike_182 hl (k := 3) rfl (by rw [ex_52]; rfl) (by decide) rfl (fun ls hl => ?_)
                  refine lv_goto (tgt := 53) hx hb dL_alike_185 (by decide) ?_
                  exact ih I_48 (1 : Int32) x_52 h _ _ _ hP hS (lv_sub hl [2, 3, 1, 0] rfl)
set_option maxHeartbeats 4000000 in
set_option maxRecDepth 100000 in
theorem LL_alike_50 (hG : Apart g NT) (N : Nat) (k0 : Nat) (k1 : Nat) (t0 : tag k0 = 5) (t1 : tag k1 = 5) (X : Cx g p s m args c cL_alike RL 4) (hr : meth.sig.returnType = (some .boolean)) (hlk : meth.locks = false) (r0 : Int32) (I0 : Mem) : ∀ (I : Mem) (s0 : Int32), fL_alike_50 N k0 k1 I s0 = some (r0, I0) → ∀ (H : Heap) (locs : List Loc) (ls : Array Slot), Wp g I H → va_S (gA g) s.heap H locs → lv_has ls 4 [(0, .ref (ga g k0)), (1, .ref (ga g k1))] → W p l e rmL_alike s m args below meth c H locs 0 0 (MQ below (Qg g (some (.int r0)) I0) args s 0 0 (gA g)) (F0 m 50 ls [.int s0]) := by
  have hx := X.hx
  have hb := X.hb
  intro I s0 h H locs ls hP hS hl
  unfold fL_alike_50 at h
  refine lv_istore_n (lv' := [(2, .int s0), (0, .ref (ga g k0)), (1, .ref (ga g k1))]) hx hb dL_alike_50 rfl hl (by decide) rfl (fun ls hl => ?_)
  refine lv_iconst (v := (0 : Int32)) hx hb dL_alike_51 (by decide +kernel) ?_
  refine lv_istore_n (lv' := [(3, .int (0 : Int32)), (2, .int s0), (0, .ref (ga g k0)), (1, .ref (ga g k1))]) hx hb dL_alike_52 rfl hl (by decide) rfl (fun ls hl => ?_)
  exact LL_alike_53 hG N k0 k1 t0 t1 X hr hlk r0 I0 N I s0 (0 : Int32) h _ _ _ hP hS (lv_sub hl [2, 3, 1, 0] rfl)
set_option maxHeartbeats 4000000 in
set_option maxRecDepth 100000 in
theorem LL_alike_49 (hG : Apart g NT) (N : Nat) (k0 : Nat) (k1 : Nat) (t0 : tag k0 = 5) (t1 : tag k1 = 5) (X : Cx g p s m args c cL_alike RL 4) (hr : meth.sig.returnType = (some .boolean)) (hlk : meth.locks = false) (r0 : Int32) (I0 : Mem) : ∀ (I : Mem), fL_alike_49 N k0 k1 I = some (r0, I0) → ∀ (H : Heap) (locs : List Loc) (ls : Array Slot), Wp g I H → va_S (gA g) s.heap H locs → lv_has ls 4 [(0, .ref (ga g k0)), (1, .ref (ga g k1))] → W p l e rmL_alike s m args below meth c H locs 0 0 (MQ below (Qg g (some (.int r0)) I0) args s 0 0 (gA g)) (F0 m 49 ls []) := by
  have hx := X.hx
  have hb := X.hb
  intro I h H locs ls hP hS hl
  unfold fL_alike_49 at h
  refine lv_iconst (v := (0 : Int32)) hx hb dL_alike_49 (by decide +kernel) ?_
  exact LL_alike_50 hG N k0 k1 t0 t1 X hr hlk r0 I0 I (0 : Int32) h _ _ _ hP hS (lv_sub hl [0, 1] rfl)
set_option maxHeartbeats 4000000 in
set_option maxRecDepth 100000 in
theorem ccL_alike (l : Launch) (g : GG) (hG : Apart g NT) (N : Nat) (I : Mem) (k0 : Nat) (k1 : Nat) (t0 : tag k0 = 5) (t1 : tag k1 = 5) (r0 : Int32) (I0 : Mem) (h : fL_alike N I k0 k1 = some (r0, I0)) : Mc l g yL_alike cL_alike 4 (some .boolean) rmL_alike I [.ref (ga g k0), .ref (ga g k1)] (some (.int r0)) I0 := by
  refine Mc.of hG (by decide +kernel) (Nat.le_of_ble_eq_true rfl) ?_
  intro p e s m args below meth c ls X hr hlk hP hS hl
  have X : Cx g p s m args c cL_alike RL 4 := X
  have hx := X.hx
  have hb := X.hb
  have hl : lv_has ls 4 [(0, .ref (ga g k0)), (1, .ref (ga g k1))] := hl
  have locs : List Loc := []
  unfold fL_alike at h
  refine lv_aload_n hx hb dL_alike_0 rfl (lv_at hl 0 rfl) ?_
  obtain ⟨q_1, I_2, hc_3, h⟩ := clP_e h
  refine r_callV (As := []) [] X (c6_queueLength l g hG N _ _ t0 _ _ hc_3) cal_X6_queueLength (im_X6_queueLength) (se_X6_queueLength) k_184 (tag_lt t0 (by decide)) (by rw [lay, t0]; rfl) rfl rfl ⟨rfl, rfl⟩ ⟨Nat.le_of_ble_eq_true rfl, Nat.le_of_ble_eq_true rfl⟩ hP hS hl.1 rfl (Nat.le_of_ble_eq_true rfl) dL_alike_1 ⟨Nat.zero_le _, Nat.zero_le _⟩ (fun H locs hP hS => ?_)
  show W p l e rmL_alike s m args below meth c H locs 0 0 _ (F0 m 4 ls [.int q_1])
  refine lv_aload_n hx hb dL_alike_4 rfl (lv_at hl 1 rfl) ?_
  obtain ⟨q_4, I_5, hc_6, h⟩ := clP_e h
  refine r_callV (As := []) [.int q_1] X (c6_queueLength l g hG N _ _ t1 _ _ hc_6) cal_X6_queueLength (im_X6_queueLength) (se_X6_queueLength) k_184 (tag_lt t1 (by decide)) (by rw [lay, t1]; rfl) rfl rfl ⟨rfl, rfl⟩ ⟨Nat.le_of_ble_eq_true rfl, Nat.le_of_ble_eq_true rfl⟩ hP hS hl.1 rfl (Nat.le_of_ble_eq_true rfl) dL_alike_5 ⟨Nat.zero_le _, Nat.zero_le _⟩ (fun H locs hP hS => ?_)
  show W p l e rmL_alike s m args below meth c H locs 0 0 _ (F0 m 8 ls [.int q_4, .int q_1])
  refine lv_icmp_ne (tgt := 49) hx hb dL_alike_8 (by decide) (fun c_7 => ?_) (fun c_7 => ?_)
  · replace h := ifn c_7 h
    exact LL_alike_49 hG N k0 k1 t0 t1 X hr hlk r0 I0 I_5 h _ _ _ hP hS (lv_sub hl [0, 1] rfl)
  · replace h := ifp c_7 h
    refine lv_aload_n hx hb dL_alike_11 rfl (lv_at hl 0 rfl) ?_
    obtain ⟨q_53, I_54, hc_55, h⟩ := clP_e h
    refine r_callS (As := [.ref (ga g k0)]) [] X (ccL_now l g hG N _ _ t0 _ _ hc_55) cal_L_now (sc_L_now) k_602 rfl ⟨rfl, rfl⟩ ⟨Nat.le_of_ble_eq_true rfl, Nat.le_of_ble_eq_true rfl⟩ hP hS hl.1 rfl (Nat.le_of_ble_eq_true rfl) dL_alike_12 ⟨Nat.zero_le _, Nat.zero_le _⟩ (fun H locs hP hS => ?_)
    show W p l e rmL_alike s m args below meth c H locs 0 0 _ (F0 m 15 ls [.long q_53])
    refine lv_aload_n hx hb dL_alike_15 rfl (lv_at hl 1 rfl) ?_
    obtain ⟨q_56, I_57, hc_58, h⟩ := clP_e h
    refine r_callS (As := [.ref (ga g k1)]) [.long q_53] X (ccL_now l g hG N _ _ t1 _ _ hc_58) cal_L_now (sc_L_now) k_602 rfl ⟨rfl, rfl⟩ ⟨Nat.le_of_ble_eq_true rfl, Nat.le_of_ble_eq_true rfl⟩ hP hS hl.1 rfl (Nat.le_of_ble_eq_true rfl) dL_alike_16 ⟨Nat.zero_le _, Nat.zero_le _⟩ (fun H locs hP hS => ?_)
    show W p l e rmL_alike s m args below meth c H locs 0 0 _ (F0 m 19 ls [.long q_56, .long q_53])
    refine W.lcmp hx hb dL_alike_19 ?_
    refine lv_if_ne (tgt := 49) hx hb dL_alike_20 (by decide) (fun c_59 => ?_) (fun c_59 => ?_)
    · replace h := ifn c_59 h
      exact LL_alike_49 hG N k0 k1 t0 t1 X hr hlk r0 I0 I_57 h _ _ _ hP hS (lv_sub hl [0, 1] rfl)
    · replace h := ifp c_59 h
      refine lv_aload_n hx hb dL_alike_23 rfl (lv_at hl 0 rfl) ?_
      obtain ⟨q_60, I_61, hc_62, h⟩ := clP_e h
      refine r_callV (As := []) [] X (c6_errorPosition l g hG N _ _ t0 _ _ hc_62) cal_X6_errorPosition (im_X6_errorPosition) (se_X6_errorPosition) k_618 (tag_lt t0 (by decide)) (by rw [lay, t0]; rfl) rfl rfl ⟨rfl, rfl⟩ ⟨Nat.le_of_ble_eq_true rfl, Nat.le_of_ble_eq_true rfl⟩ hP hS hl.1 rfl (Nat.le_of_ble_eq_true rfl) dL_alike_24 ⟨Nat.zero_le _, Nat.zero_le _⟩ (fun H locs hP hS => ?_)
      show W p l e rmL_alike s m args below meth c H locs 0 0 _ (F0 m 27 ls [.int q_60])
      refine lv_aload_n hx hb dL_alike_27 rfl (lv_at hl 1 rfl) ?_
      obtain ⟨q_63, I_64, hc_65, h⟩ := clP_e h
      refine r_callV (As := []) [.int q_60] X (c6_errorPosition l g hG N _ _ t1 _ _ hc_65) cal_X6_errorPosition (im_X6_errorPosition) (se_X6_errorPosition) k_618 (tag_lt t1 (by decide)) (by rw [lay, t1]; rfl) rfl rfl ⟨rfl, rfl⟩ ⟨Nat.le_of_ble_eq_true rfl, Nat.le_of_ble_eq_true rfl⟩ hP hS hl.1 rfl (Nat.le_of_ble_eq_true rfl) dL_alike_28 ⟨Nat.zero_le _, Nat.zero_le _⟩ (fun H locs hP hS => ?_)
      show W p l e rmL_alike s m args below meth c H locs 0 0 _ (F0 m 31 ls [.int q_63, .int q_60])
      refine lv_icmp_ne (tgt := 49) hx hb dL_alike_31 (by decide) (fun c_66 => ?_) (fun c_66 => ?_)
      · replace h := ifn c_66 h
        exact LL_alike_49 hG N k0 k1 t0 t1 X hr hlk r0 I0 I_64 h _ _ _ hP hS (lv_sub hl [0, 1] rfl)
      · replace h := ifp c_66 h
        refine lv_aload_n hx hb dL_alike_34 rfl (lv_at hl 0 rfl) ?_
        obtain ⟨q_67, I_68, hc_69, h⟩ := clP_e h
        refine r_callV (As := []) [] X (c6_ticksLeft l g hG N _ _ t0 _ _ hc_69) cal_X6_ticksLeft (im_X6_ticksLeft) (se_X6_ticksLeft) k_489 (tag_lt t0 (by decide)) (by rw [lay, t0]; rfl) rfl rfl ⟨rfl, rfl⟩ ⟨Nat.le_of_ble_eq_true rfl, Nat.le_of_ble_eq_true rfl⟩ hP hS hl.1 rfl (Nat.le_of_ble_eq_true rfl) dL_alike_35 ⟨Nat.zero_le _, Nat.zero_le _⟩ (fun H locs hP hS => ?_)
        show W p l e rmL_alike s m args below meth c H locs 0 0 _ (F0 m 38 ls [.int q_67])
        refine lv_aload_n hx hb dL_alike_38 rfl (lv_at hl 1 rfl) ?_
        obtain ⟨q_70, I_71, hc_72, h⟩ := clP_e h
        refine r_callV (As := []) [.int q_67] X (c6_ticksLeft l g hG N _ _ t1 _ _ hc_72) cal_X6_ticksLeft (im_X6_ticksLeft) (se_X6_ticksLeft) k_489 (tag_lt t1 (by decide)) (by rw [lay, t1]; rfl) rfl rfl ⟨rfl, rfl⟩ ⟨Nat.le_of_ble_eq_true rfl, Nat.le_of_ble_eq_true rfl⟩ hP hS hl.1 rfl (Nat.le_of_ble_eq_true rfl) dL_alike_39 ⟨Nat.zero_le _, Nat.zero_le _⟩ (fun H locs hP hS => ?_)
        show W p l e rmL_alike s m args below meth c H locs 0 0 _ (F0 m 42 ls [.int q_70, .int q_67])
        refine lv_icmp_ne (tgt := 49) hx hb dL_alike_42 (by decide) (fun c_73 => ?_) (fun c_73 => ?_)
        · replace h := ifn c_73 h
          exact LL_alike_49 hG N k0 k1 t0 t1 X hr hlk r0 I0 I_71 h _ _ _ hP hS (lv_sub hl [0, 1] rfl)
        · replace h := ifp c_73 h
          refine lv_iconst (v := (1 : Int32)) hx hb dL_alike_45 (by decide +kernel) ?_
          refine lv_goto (tgt := 50) hx hb dL_alike_46 (by decide) ?_
          exact LL_alike_50 hG N k0 k1 t0 t1 X hr hlk r0 I0 I_71 (1 : Int32) h _ _ _ hP hS (lv_sub hl [0, 1] rfl)
abbrev rmL_ramped : Room := { frames := 6, cells := 0, slots := 0, locals := 141 }
def fL_ramped_214 (N : Nat) (k0 : Nat) (a1 : Int32) (I : Mem) (v5 : Int32) (v6 : Int32) (s0 : Int32) : Option (Int32 × Mem) :=
    if (100000 : Int32) ≤ v6 then
    if ¬ (s0 = 0 ∨ s0 = 1) then none else
    some (s0, I)
    else
    if s0 = (0 : Int32) then
    if ¬ (s0 = 0 ∨ s0 = 1) then none else
    some (s0, I)
    else
    clP (f6_greatestLength N I k0 v6) (fun (q_16 : Int32) (I_17 : Mem) =>
    if q_16 < v5 then
    some ((0 : Int32), I_17)
    else
    clP (f6_moveTicks N I_17 k0 q_16) (fun (q_20 : Int32) (I_21 : Mem) =>
    if v6 < q_20 then
    some ((0 : Int32), I_21)
    else
    if q_16 = (999 : Int32) then
    some ((1 : Int32), I_21)
    else
    clP (f6_moveTicks N I_21 k0 (q_16 + (1 : Int32))) (fun (q_25 : Int32) (I_26 : Mem) =>
    if q_25 ≤ v6 then
    some ((0 : Int32), I_26)
    else
    some ((1 : Int32), I_26))))
def fL_ramped_213 (N : Nat) (k0 : Nat) (a1 : Int32) (I : Mem) (v5 : Int32) (v6 : Int32) : Option (Int32 × Mem) :=
    fL_ramped_214 N k0 a1 I v5 v6 (0 : Int32)
def fL_ramped_188 (N : Nat) (k0 : Nat) (a1 : Int32) (I : Mem) (v4 : Int32) (v5 : Int32) (v6 : Int32) (v7 : Int32) : Option (Int32 × Mem) :=
    if v4 = (0 : Int32) then
    fL_ramped_213 N k0 a1 I v5 v6
    else
    clP (f6_moveTicks N I k0 v5) (fun (q_29 : Int32) (I_30 : Mem) =>
    if q_29 = v6 then
    if v7 = (0 : Int32) then
    fL_ramped_214 N k0 a1 I_30 v5 v6 (1 : Int32)
    else
    fL_ramped_213 N k0 a1 I_30 v5 v6
    else
    fL_ramped_213 N k0 a1 I_30 v5 v6)
def fL_ramped_98 (N : Nat) (k0 : Nat) (a1 : Int32) : Nat → Mem → Int32 → Int32 → Int32 → Int32 → Int32 → Int32 → Option (Int32 × Mem)
  | 0, _, _, _, _, _, _, _ => none
  | cnt+1, I, v2, v4, v5, v6, v7, v8 =>
    if v8 ≤ (0 : Int32) then
    fL_ramped_188 N k0 a1 I v4 v5 v6 v7
    else
    if v4 = (0 : Int32) then
    fL_ramped_188 N k0 a1 I v4 v5 v6 v7
    else
    if v2 ≤ (v8 - (1 : Int32)) then
    if v8 = v5 then
    clP (f6_interval N I k0 (0 : Int32)) (fun (q_56 : Int32) (I_57 : Mem) =>
    letM (v6 + q_56) (fun x_59 : Int32 =>
    letM (v8 + (-1 : Int32)) (fun x_60 : Int32 =>
    fL_ramped_98 N k0 a1 cnt I_57 v2 v4 v5 x_59 (0 : Int32) x_60)))
    else
    if v2 < (v7 + (1 : Int32)) then
    if v2 < v7 then
    letM (v7 - (1 : Int32)) (fun x_39 : Int32 =>
    clP (f6_interval N I k0 x_39) (fun (q_40 : Int32) (I_41 : Mem) =>
    letM (v6 + q_40) (fun x_43 : Int32 =>
    letM (v8 + (-1 : Int32)) (fun x_44 : Int32 =>
    fL_ramped_98 N k0 a1 cnt I_41 v2 v4 v5 x_43 x_39 x_44))))
    else
    clP (f6_interval N I k0 v7) (fun (q_45 : Int32) (I_46 : Mem) =>
    letM (v6 + q_45) (fun x_48 : Int32 =>
    letM (v8 + (-1 : Int32)) (fun x_49 : Int32 =>
    fL_ramped_98 N k0 a1 cnt I_46 v2 v4 v5 x_48 v7 x_49)))
    else
    letM (v7 + (1 : Int32)) (fun x_50 : Int32 =>
    clP (f6_interval N I k0 x_50) (fun (q_51 : Int32) (I_52 : Mem) =>
    letM (v6 + q_51) (fun x_54 : Int32 =>
    letM (v8 + (-1 : Int32)) (fun x_55 : Int32 =>
    fL_ramped_98 N k0 a1 cnt I_52 v2 v4 v5 x_54 x_50 x_55))))
    else
    letM (v8 - (1 : Int32)) (fun x_61 : Int32 =>
    if v8 = v5 then
    clP (f6_interval N I k0 (0 : Int32)) (fun (q_82 : Int32) (I_83 : Mem) =>
    letM (v6 + q_82) (fun x_85 : Int32 =>
    letM (v8 + (-1 : Int32)) (fun x_86 : Int32 =>
    fL_ramped_98 N k0 a1 cnt I_83 v2 v4 v5 x_85 (0 : Int32) x_86)))
    else
    if x_61 < (v7 + (1 : Int32)) then
    if x_61 < v7 then
    letM (v7 - (1 : Int32)) (fun x_65 : Int32 =>
    clP (f6_interval N I k0 x_65) (fun (q_66 : Int32) (I_67 : Mem) =>
    letM (v6 + q_66) (fun x_69 : Int32 =>
    letM (v8 + (-1 : Int32)) (fun x_70 : Int32 =>
    fL_ramped_98 N k0 a1 cnt I_67 v2 v4 v5 x_69 x_65 x_70))))
    else
    clP (f6_interval N I k0 v7) (fun (q_71 : Int32) (I_72 : Mem) =>
    letM (v6 + q_71) (fun x_74 : Int32 =>
    letM (v8 + (-1 : Int32)) (fun x_75 : Int32 =>
    fL_ramped_98 N k0 a1 cnt I_72 v2 v4 v5 x_74 v7 x_75)))
    else
    letM (v7 + (1 : Int32)) (fun x_76 : Int32 =>
    clP (f6_interval N I k0 x_76) (fun (q_77 : Int32) (I_78 : Mem) =>
    letM (v6 + q_77) (fun x_80 : Int32 =>
    letM (v8 + (-1 : Int32)) (fun x_81 : Int32 =>
    fL_ramped_98 N k0 a1 cnt I_78 v2 v4 v5 x_80 x_76 x_81)))))
def fL_ramped_80 (N : Nat) (k0 : Nat) (a1 : Int32) (I : Mem) (v2 : Int32) (v4 : Int32) : Option (Int32 × Mem) :=
    letM ((1 : Int32) + (a1 - a1 / (60 : Int32) * (60 : Int32))) (fun x_9 : Int32 =>
    fL_ramped_98 N k0 a1 N I v2 v4 x_9 (0 : Int32) (0 : Int32) x_9)
def fL_ramped_32 (N : Nat) (k0 : Nat) (a1 : Int32) : Nat → Mem → Int32 → Int32 → Int32 → Int32 → Option (Int32 × Mem)
  | 0, _, _, _, _, _ => none
  | cnt+1, I, v2, v3, v4, v5 =>
    if v2 ≤ v5 then
    fL_ramped_80 N k0 a1 I v2 v4
    else
    if (40 : Int32) ≤ v5 then
    fL_ramped_80 N k0 a1 I v2 v4
    else
    if v4 = (0 : Int32) then
    fL_ramped_80 N k0 a1 I v2 v4
    else
    clP (f6_interval N I k0 v5) (fun (q_89 : Int32) (I_90 : Mem) =>
    if v3 < q_89 then
    letM (v5 + (1 : Int32)) (fun x_93 : Int32 =>
    fL_ramped_32 N k0 a1 cnt I_90 v2 v3 (1 : Int32) x_93)
    else
    if v2 = (999 : Int32) then
    letM (v5 + (1 : Int32)) (fun x_96 : Int32 =>
    fL_ramped_32 N k0 a1 cnt I_90 v2 v3 (1 : Int32) x_96)
    else
    letM (v5 + (1 : Int32)) (fun x_95 : Int32 =>
    fL_ramped_32 N k0 a1 cnt I_90 v2 v3 (0 : Int32) x_95))
def fL_ramped_27 (N : Nat) (k0 : Nat) (a1 : Int32) (I : Mem) (v2 : Int32) (v3 : Int32) (s0 : Int32) : Option (Int32 × Mem) :=
    fL_ramped_32 N k0 a1 N I v2 v3 s0 (0 : Int32)
def fL_ramped_26 (N : Nat) (k0 : Nat) (a1 : Int32) (I : Mem) (v2 : Int32) (v3 : Int32) : Option (Int32 × Mem) :=
    fL_ramped_27 N k0 a1 I v2 v3 (0 : Int32)
def fL_ramped (N : Nat) (I : Mem) (k0 : Nat) (a1 : Int32) : Option (Int32 × Mem) :=
    clP (f6_topIndex N I k0) (fun (q_1 : Int32) (I_2 : Mem) =>
    clP (f6_interval N I_2 k0 q_1) (fun (q_4 : Int32) (I_5 : Mem) =>
    if q_1 < (0 : Int32) then
    fL_ramped_26 N k0 a1 I_5 q_1 q_4
    else
    if (999 : Int32) < q_1 then
    fL_ramped_26 N k0 a1 I_5 q_1 q_4
    else
    fL_ramped_27 N k0 a1 I_5 q_1 q_4 (1 : Int32)))
set_option maxHeartbeats 4000000 in
set_option maxRecDepth 100000 in
theorem LL_ramped_214 (hG : Apart g NT) (N : Nat) (k0 : Nat) (a1 : Int32) (t0 : tag k0 = 5) (X : Cx g p s m args c cL_ramped RL 10) (hr : meth.sig.returnType = (some .boolean)) (hlk : meth.locks = false) (r0 : Int32) (I0 : Mem) : ∀ (I : Mem) (v5 : Int32) (v6 : Int32) (s0 : Int32), fL_ramped_214 N k0 a1 I v5 v6 s0 = some (r0, I0) → ∀ (H : Heap) (locs : List Loc) (ls : Array Slot), Wp g I H → va_S (gA g) s.heap H locs → lv_has ls 10 [(0, .ref (ga g k0)), (5, .int v5), (6, .int v6)] → W p l e rmL_ramped s m args below meth c H locs 0 0 (MQ below (Qg g (some (.int r0)) I0) args s 0 0 (gA g)) (F0 m 214 ls [.int s0]) := by
  have hx := X.hx
  have hb := X.hb
  intro I v5 v6 s0 h H locs ls hP hS hl
  unfold fL_ramped_214 at h
  refine lv_istore (lv' := [(4, .int s0), (0, .ref (ga g k0)), (5, .int v5), (6, .int v6)]) hx hb dL_ramped_214 hl (by decide) rfl (fun ls hl => ?_)
  refine lv_iload hx hb dL_ramped_216 (lv_at hl 3 rfl) ?_
  refine lv_ldc (v := (100000 : Int32)) hx hb X.ow (X.hts _ k_399) dL_ramped_218 ?_
  refine lv_icmp_ge (tgt := 282) hx hb dL_ramped_220 (by decide) (fun c_12 => ?_) (fun c_12 => ?_)
  · replace h := ifp c_12 h
    refine lv_iload hx hb dL_ramped_282 (lv_at hl 0 rfl) ?_
    obtain ⟨g_13, h⟩ := gd_e h
    exact r_zret X hr hlk hP hS (bool_nar g_13) dL_ramped_284 h
  · replace h := ifn c_12 h
    refine lv_iload hx hb dL_ramped_223 (lv_at hl 0 rfl) ?_
    refine lv_if_eq (tgt := 282) hx hb dL_ramped_225 (by decide) (fun c_14 => ?_) (fun c_14 => ?_)
    · replace h := ifp c_14 h
      refine lv_iload hx hb dL_ramped_282 (lv_at hl 0 rfl) ?_
      obtain ⟨g_15, h⟩ := gd_e h
      exact r_zret X hr hlk hP hS (bool_nar g_15) dL_ramped_284 h
    · replace h := ifn c_14 h
      refine lv_aload_n hx hb dL_ramped_228 rfl (lv_at hl 1 rfl) ?_
      refine lv_iload hx hb dL_ramped_229 (lv_at hl 3 rfl) ?_
      obtain ⟨q_16, I_17, hc_18, h⟩ := clP_e h
      refine r_callV (As := [.int v6]) [] X (c6_greatestLength l g hG N _ _ _ t0 _ _ hc_18) cal_X6_greatestLength (im_X6_greatestLength) (se_X6_greatestLength) k_430 (tag_lt t0 (by decide)) (by rw [lay, t0]; rfl) rfl rfl ⟨rfl, rfl⟩ ⟨Nat.le_of_ble_eq_true rfl, Nat.le_of_ble_eq_true rfl⟩ hP hS hl.1 rfl (Nat.le_of_ble_eq_true rfl) dL_ramped_231 ⟨Nat.zero_le _, Nat.zero_le _⟩ (fun H locs hP hS => ?_)
      show W p l e rmL_ramped s m args below meth c H locs 0 0 _ (F0 m 234 ls [.int q_16])
      refine lv_istore (lv' := [(8, .int q_16), (4, .int s0), (0, .ref (ga g k0)), (5, .int v5), (6, .int v6)]) hx hb dL_ramped_234 hl (by decide) rfl (fun ls hl => ?_)
      refine lv_iload hx hb dL_ramped_236 (lv_at hl 0 rfl) ?_
      refine lv_iload hx hb dL_ramped_238 (lv_at hl 3 rfl) ?_
      refine lv_icmp_lt (tgt := 279) hx hb dL_ramped_240 (by decide) (fun c_19 => ?_) (fun c_19 => ?_)
      · replace h := ifp c_19 h
        refine lv_iconst (v := (0 : Int32)) hx hb dL_ramped_279 (by decide +kernel) ?_
        refine lv_istore (lv' := [(4, .int (0 : Int32)), (8, .int q_16), (0, .ref (ga g k0)), (5, .int v5), (6, .int v6)]) hx hb dL_ramped_280 hl (by decide) rfl (fun ls hl => ?_)
        refine lv_iload hx hb dL_ramped_282 (lv_at hl 0 rfl) ?_
        exact r_zret X hr hlk hP hS rfl dL_ramped_284 h
      · replace h := ifn c_19 h
        refine lv_aload_n hx hb dL_ramped_243 rfl (lv_at hl 2 rfl) ?_
        refine lv_iload hx hb dL_ramped_244 (lv_at hl 0 rfl) ?_
        obtain ⟨q_20, I_21, hc_22, h⟩ := clP_e h
        refine r_callV (As := [.int q_16]) [] X (c6_moveTicks l g hG N _ _ _ t0 _ _ hc_22) cal_X6_moveTicks (im_X6_moveTicks) (se_X6_moveTicks) k_405 (tag_lt t0 (by decide)) (by rw [lay, t0]; rfl) rfl rfl ⟨rfl, rfl⟩ ⟨Nat.le_of_ble_eq_true rfl, Nat.le_of_ble_eq_true rfl⟩ hP hS hl.1 rfl (Nat.le_of_ble_eq_true rfl) dL_ramped_246 ⟨Nat.zero_le _, Nat.zero_le _⟩ (fun H locs hP hS => ?_)
        show W p l e rmL_ramped s m args below meth c H locs 0 0 _ (F0 m 249 ls [.int q_20])
        refine lv_iload hx hb dL_ramped_249 (lv_at hl 4 rfl) ?_
        refine lv_icmp_gt (tgt := 279) hx hb dL_ramped_251 (by decide) (fun c_23 => ?_) (fun c_23 => ?_)
        · replace h := ifp c_23 h
          refine lv_iconst (v := (0 : Int32)) hx hb dL_ramped_279 (by decide +kernel) ?_
          refine lv_istore (lv' := [(4, .int (0 : Int32)), (8, .int q_16), (0, .ref (ga g k0)), (5, .int v5), (6, .int v6)]) hx hb dL_ramped_280 hl (by decide) rfl (fun ls hl => ?_)
          refine lv_iload hx hb dL_ramped_282 (lv_at hl 0 rfl) ?_
          exact r_zret X hr hlk hP hS rfl dL_ramped_284 h
        · replace h := ifn c_23 h
          refine lv_iload hx hb dL_ramped_254 (lv_at hl 0 rfl) ?_
          refine lv_sipush (v := (999 : Int32)) hx hb dL_ramped_256 (by decide +kernel) ?_
          refine lv_icmp_eq (tgt := 275) hx hb dL_ramped_259 (by decide) (fun c_24 => ?_) (fun c_24 => ?_)
          · replace h := ifp c_24 h
            refine lv_iconst (v := (1 : Int32)) hx hb dL_ramped_275 (by decide +kernel) ?_
            refine lv_goto (tgt := 280) hx hb dL_ramped_276 (by decide) ?_
            refine lv_istore (lv' := [(4, .int (1 : Int32)), (8, .int q_16), (0, .ref (ga g k0)), (5, .int v5), (6, .int v6)]) hx hb dL_ramped_280 hl (by decide) rfl (fun ls hl => ?_)
            refine lv_iload hx hb dL_ramped_282 (lv_at hl 0 rfl) ?_
            exact r_zret X hr hlk hP hS rfl dL_ramped_284 h
          · replace h := ifn c_24 h
            refine lv_aload_n hx hb dL_ramped_262 rfl (lv_at hl 2 rfl) ?_
            refine lv_iload hx hb dL_ramped_263 (lv_at hl 0 rfl) ?_
            refine lv_iconst (v := (1 : Int32)) hx hb dL_ramped_265 (by decide +kernel) ?_
            refine lv_iadd hx hb dL_ramped_266 ?_
            obtain ⟨q_25, I_26, hc_27, h⟩ := clP_e h
            refine r_callV (As := [.int (q_16 + (1 : Int32))]) [] X (c6_moveTicks l g hG N _ _ _ t0 _ _ hc_27) cal_X6_moveTicks (im_X6_moveTicks) (se_X6_moveTicks) k_405 (tag_lt t0 (by decide)) (by rw [lay, t0]; rfl) rfl rfl ⟨rfl, rfl⟩ ⟨Nat.le_of_ble_eq_true rfl, Nat.le_of_ble_eq_true rfl⟩ hP hS hl.1 rfl (Nat.le_of_ble_eq_true rfl) dL_ramped_267 ⟨Nat.zero_le _, Nat.zero_le _⟩ (fun H locs hP hS => ?_)
            show W p l e rmL_ramped s m args below meth c H locs 0 0 _ (F0 m 270 ls [.int q_25])
            refine lv_iload hx hb dL_ramped_270 (lv_at hl 4 rfl) ?_
            refine lv_icmp_le (tgt := 279) hx hb dL_ramped_272 (by decide) (fun c_28 => ?_) (fun c_28 => ?_)
            · replace h := ifp c_28 h
              refine lv_iconst (v := (0 : Int32)) hx hb dL_ramped_279 (by decide +kernel) ?_
              refine lv_istore (lv' := [(4, .int (0 : Int32)), (8, .int q_16), (0, .ref (ga g k0)), (5, .int v5), (6, .int v6)]) hx hb dL_ramped_280 hl (by decide) rfl (fun ls hl => ?_)
              refine lv_iload hx hb dL_ramped_282 (lv_at hl 0 rfl) ?_
              exact r_zret X hr hlk hP hS rfl dL_ramped_284 h
            · replace h := ifn c_28 h
              refine lv_iconst (v := (1 : Int32)) hx hb dL_ramped_275 (by decide +kernel) ?_
              refine lv_goto (tgt := 280) hx hb dL_ramped_276 (by decide) ?_
              refine lv_istore (lv' := [(4, .int (1 : Int32)), (8, .int q_16), (0, .ref (ga g k0)), (5, .int v5), (6, .int v6)]) hx hb dL_ramped_280 hl (by decide) rfl (fun ls hl => ?_)
              refine lv_iload hx hb dL_ramped_282 (lv_at hl 0 rfl) ?_
              exact r_zret X hr hlk hP hS rfl dL_ramped_284 h
set_option maxHeartbeats 4000000 in
set_option maxRecDepth 100000 in
theorem LL_ramped_213 (hG : Apart g NT) (N : Nat) (k0 : Nat) (a1 : Int32) (t0 : tag k0 = 5) (X : Cx g p s m args c cL_ramped RL 10) (hr : meth.sig.returnType = (some .boolean)) (hlk : meth.locks = false) (r0 : Int32) (I0 : Mem) : ∀ (I : Mem) (v5 : Int32) (v6 : Int32), fL_ramped_213 N k0 a1 I v5 v6 = some (r0, I0) → ∀ (H : Heap) (locs : List Loc) (ls : Array Slot), Wp g I H → va_S (gA g) s.heap H locs → lv_has ls 10 [(0, .ref (ga g k0)), (5, .int v5), (6, .int v6)] → W p l e rmL_ramped s m args below meth c H locs 0 0 (MQ below (Qg g (some (.int r0)) I0) args s 0 0 (gA g)) (F0 m 213 ls []) := by
  have hx := X.hx
  have hb := X.hb
  intro I v5 v6 h H locs ls hP hS hl
  unfold fL_ramped_213 at h
  refine lv_iconst (v := (0 : Int32)) hx hb dL_ramped_213 (by decide +kernel) ?_
  exact LL_ramped_214 hG N k0 a1 t0 X hr hlk r0 I0 I v5 v6 (0 : Int32) h _ _ _ hP hS (lv_sub hl [0, 1, 2] rfl)
set_option maxHeartbeats 4000000 in
set_option maxRecDepth 100000 in
theorem LL_ramped_188 (hG : Apart g NT) (N : Nat) (k0 : Nat) (a1 : Int32) (t0 : tag k0 = 5) (X : Cx g p s m args c cL_ramped RL 10) (hr : meth.sig.returnType = (some .boolean)) (hlk : meth.locks = false) (r0 : Int32) (I0 : Mem) : ∀ (I : Mem) (v4 : Int32) (v5 : Int32) (v6 : Int32) (v7 : Int32), fL_ramped_188 N k0 a1 I v4 v5 v6 v7 = some (r0, I0) → ∀ (H : Heap) (locs : List Loc) (ls : Array Slot), Wp g I H → va_S (gA g) s.heap H locs → lv_has ls 10 [(0, .ref (ga g k0)), (4, .int v4), (5, .int v5), (6, .int v6), (7, .int v7)] → W p l e rmL_ramped s m args below meth c H locs 0 0 (MQ below (Qg g (some (.int r0)) I0) args s 0 0 (gA g)) (F0 m 188 ls []) := by
  have hx := X.hx
  have hb := X.hb
  intro I v4 v5 v6 v7 h H locs ls hP hS hl
  unfold fL_ramped_188 at h
  refine lv_iload hx hb dL_ramped_188 (lv_at hl 1 rfl) ?_
  refine lv_if_eq (tgt := 213) hx hb dL_ramped_190 (by decide) (fun c_11 => ?_) (fun c_11 => ?_)
  · replace h := ifp c_11 h
    exact LL_ramped_213 hG N k0 a1 t0 X hr hlk r0 I0 I v5 v6 h _ _ _ hP hS (lv_sub hl [0, 2, 3] rfl)
  · replace h := ifn c_11 h
    refine lv_aload_n hx hb dL_ramped_193 rfl (lv_at hl 0 rfl) ?_
    refine lv_iload hx hb dL_ramped_194 (lv_at hl 2 rfl) ?_
    obtain ⟨q_29, I_30, hc_31, h⟩ := clP_e h
    refine r_callV (As := [.int v5]) [] X (c6_moveTicks l g hG N _ _ _ t0 _ _ hc_31) cal_X6_moveTicks (im_X6_moveTicks) (se_X6_moveTicks) k_405 (tag_lt t0 (by decide)) (by rw [lay, t0]; rfl) rfl rfl ⟨rfl, rfl⟩ ⟨Nat.le_of_ble_eq_true rfl, Nat.le_of_ble_eq_true rfl⟩ hP hS hl.1 rfl (Nat.le_of_ble_eq_true rfl) dL_ramped_196 ⟨Nat.zero_le _, Nat.zero_le _⟩ (fun H locs hP hS => ?_)
    show W p l e rmL_ramped s m args below meth c H locs 0 0 _ (F0 m 199 ls [.int q_29])
    refine lv_iload hx hb dL_ramped_199 (lv_at hl 3 rfl) ?_
    refine lv_icmp_ne (tgt := 213) hx hb dL_ramped_201 (by decide) (fun c_32 => ?_) (fun c_32 => ?_)
    · replace h := ifn c_32 h
      exact LL_ramped_213 hG N k0 a1 t0 X hr hlk r0 I0 I_30 v5 v6 h _ _ _ hP hS (lv_sub hl [0, 2, 3] rfl)
    · replace h := ifp c_32 h
      refine lv_iload hx hb dL_ramped_204 (lv_at hl 4 rfl) ?_
      refine lv_if_ne (tgt := 213) hx hb dL_ramped_206 (by decide) (fun c_33 => ?_) (fun c_33 => ?_)
      · replace h := ifn c_33 h
        exact LL_ramped_213 hG N k0 a1 t0 X hr hlk r0 I0 I_30 v5 v6 h _ _ _ hP hS (lv_sub hl [0, 2, 3] rfl)
      · replace h := ifp c_33 h
        refine lv_iconst (v := (1 : Int32)) hx hb dL_ramped_209 (by decide +kernel) ?_
        refine lv_goto (tgt := 214) hx hb dL_ramped_210 (by decide) ?_
        exact LL_ramped_214 hG N k0 a1 t0 X hr hlk r0 I0 I_30 v5 v6 (1 : Int32) h _ _ _ hP hS (lv_sub hl [0, 2, 3] rfl)
set_option maxHeartbeats 4000000 in
set_option maxRecDepth 100000 in
theorem LL_ramped_98 (hG : Apart g NT) (N : Nat) (k0 : Nat) (a1 : Int32) (t0 : tag k0 = 5) (X : Cx g p s m args c cL_ramped RL 10) (hr : meth.sig.returnType = (some .boolean)) (hlk : meth.locks = false) (r0 : Int32) (I0 : Mem) : ∀ (cnt : Nat) (I : Mem) (v2 : Int32) (v4 : Int32) (v5 : Int32) (v6 : Int32) (v7 : Int32) (v8 : Int32), fL_ramped_98 N k0 a1 cnt I v2 v4 v5 v6 v7 v8 = some (r0, I0) → ∀ (H : Heap) (locs : List Loc) (ls : Array Slot), Wp g I H → va_S (gA g) s.heap H locs → lv_has ls 10 [(0, .ref (ga g k0)), (2, .int v2), (4, .int v4), (5, .int v5), (6, .int v6), (7, .int v7), (8, .int v8)] → W p l e rmL_ramped s m args below meth c H locs 0 0 (MQ below (Qg g (some (.int r0)) I0) args s 0 0 (gA g)) (F0 m 98 ls []) := by
  have hx := X.hx
  have hb := X.hb
  intro cnt
  induction cnt with
  | zero =>
    intro I v2 v4 v5 v6 v7 v8 h
    rw [fL_ramped_98] at h
    cases h
  | succ cnt ih =>
    intro I v2 v4 v5 v6 v7 v8 h H locs ls hP hS hl
    rw [fL_ramped_98] at h
    refine lv_iload hx hb dL_ramped_98 (lv_at hl 6 rfl) ?_
    refine lv_if_le (tgt := 188) hx hb dL_ramped_100 (by decide) (fun c_10 => ?_) (fun c_10 => ?_)
    · replace h := ifp c_10 h
      exact LL_ramped_188 hG N k0 a1 t0 X hr hlk r0 I0 I v4 v5 v6 v7 h _ _ _ hP hS (lv_sub hl [0, 2, 3, 4, 5] rfl)
    · replace h := ifn c_10 h
      refine lv_iload hx hb dL_ramped_103 (lv_at hl 2 rfl) ?_
      refine lv_if_eq (tgt := 188) hx hb dL_ramped_105 (by decide) (fun c_34 => ?_) (fun c_34 => ?_)
      · replace h := ifp c_34 h
        exact LL_ramped_188 hG N k0 a1 t0 X hr hlk r0 I0 I v4 v5 v6 v7 h _ _ _ hP hS (lv_sub hl [0, 2, 3, 4, 5] rfl)
      · replace h := ifn c_34 h
        refine lv_iload hx hb dL_ramped_108 (lv_at hl 6 rfl) ?_
        refine lv_iconst (v := (1 : Int32)) hx hb dL_ramped_110 (by decide +kernel) ?_
        refine lv_isub hx hb dL_ramped_111 ?_
        refine lv_iload_n hx hb dL_ramped_112 rfl (lv_at hl 1 rfl) ?_
        refine lv_icmp_ge (tgt := 123) hx hb dL_ramped_113 (by decide) (fun c_35 => ?_) (fun c_35 => ?_)
        · replace h := ifp c_35 h
          refine lv_iload_n hx hb dL_ramped_123 rfl (lv_at hl 1 rfl) ?_
          refine lv_istore (lv' := [(9, .int v2), (0, .ref (ga g k0)), (2, .int v2), (4, .int v4), (5, .int v5), (6, .int v6), (7, .int v7), (8, .int v8)]) hx hb dL_ramped_124 hl (by decide) rfl (fun ls hl => ?_)
          refine lv_iload hx hb dL_ramped_126 (lv_at hl 7 rfl) ?_
          refine lv_iload hx hb dL_ramped_128 (lv_at hl 4 rfl) ?_
          refine lv_icmp_ne (tgt := 137) hx hb dL_ramped_130 (by decide) (fun c_36 => ?_) (fun c_36 => ?_)
          · replace h := ifn c_36 h
            refine lv_iload hx hb dL_ramped_137 (lv_at hl 6 rfl) ?_
            refine lv_iconst (v := (1 : Int32)) hx hb dL_ramped_139 (by decide +kernel) ?_
            refine lv_iadd hx hb dL_ramped_140 ?_
            refine lv_iload hx hb dL_ramped_141 (lv_at hl 0 rfl) ?_
            refine lv_icmp_gt (tgt := 153) hx hb dL_ramped_143 (by decide) (fun c_37 => ?_) (fun c_37 => ?_)
            · replace h := ifp c_37 h
              refine lv_iload hx hb dL_ramped_153 (lv_at hl 6 rfl) ?_
              refine lv_iload hx hb dL_ramped_155 (lv_at hl 0 rfl) ?_
              refine lv_icmp_gt (tgt := 165) hx hb dL_ramped_157 (by decide) (fun c_38 => ?_) (fun c_38 => ?_)
              · replace h := ifp c_38 h
                refine lv_iload hx hb dL_ramped_165 (lv_at hl 6 rfl) ?_
                refine lv_iconst (v := (1 : Int32)) hx hb dL_ramped_167 (by decide +kernel) ?_
                refine lv_isub hx hb dL_ramped_168 ?_
                obtain ⟨x_39, ex_39, h⟩ := letM_e h
                refine r_nmi ex_39 ?_
                refine lv_istore (lv' := [(7, .int x_39), (9, .int v2), (0, .ref (ga g k0)), (2, .int v2), (4, .int v4), (5, .int v5), (6, .int v6), (8, .int v8)]) hx hb dL_ramped_169 hl (by decide) rfl (fun ls hl => ?_)
                refine lv_iload hx hb dL_ramped_171 (lv_at hl 6 rfl) ?_
                refine lv_aload_n hx hb dL_ramped_173 rfl (lv_at hl 2 rfl) ?_
                refine lv_iload hx hb dL_ramped_174 (lv_at hl 0 rfl) ?_
                obtain ⟨q_40, I_41, hc_42, h⟩ := clP_e h
                refine r_callV (As := [.int x_39]) [.int v6] X (c6_interval l g hG N _ _ _ t0 _ _ hc_42) cal_X6_interval (im_X6_interval) (se_X6_interval) k_239 (tag_lt t0 (by decide)) (by rw [lay, t0]; rfl) rfl rfl ⟨rfl, rfl⟩ ⟨Nat.le_of_ble_eq_true rfl, Nat.le_of_ble_eq_true rfl⟩ hP hS hl.1 rfl (Nat.le_of_ble_eq_true rfl) dL_ramped_176 ⟨Nat.zero_le _, Nat.zero_le _⟩ (fun H locs hP hS => ?_)
                show W p l e rmL_ramped s m args below meth c H locs 0 0 _ (F0 m 179 ls [.int q_40, .int v6])
                refine lv_iadd hx hb dL_ramped_179 ?_
                obtain ⟨x_43, ex_43, h⟩ := letM_e h
                refine r_nmi ex_43 ?_
                refine lv_istore (lv' := [(6, .int x_43), (7, .int x_39), (9, .int v2), (0, .ref (ga g k0)), (2, .int v2), (4, .int v4), (5, .int v5), (8, .int v8)]) hx hb dL_ramped_180 hl (by decide) rfl (fun ls hl => ?_)
                obtain ⟨x_44, ex_44, h⟩ := letM_e h
                refine lv_iinc (v := x_44) (lv' := [(8, .int x_44), (6, .int x_43), (7, .int x_39), (9, .int v2), (0, .ref (ga g k0)), (2, .int v2), (4, .int v4), (5, .int v5)]) hx hb dL_ramped_182 hl (k := 7) rfl (by rw [ex_44]; rfl) (by decide) rfl (fun ls hl => ?_)
                refine lv_goto (tgt := 98) hx hb dL_ramped_185 (by decide) ?_
                exact ih I_41 v2 v4 v5 x_43 x_39 x_44 h _ _ _ hP hS (lv_sub hl [4, 5, 6, 7, 1, 2, 0] rfl)
              · replace h := ifn c_38 h
                refine lv_iload hx hb dL_ramped_160 (lv_at hl 6 rfl) ?_
                refine lv_goto (tgt := 169) hx hb dL_ramped_162 (by decide) ?_
                refine lv_istore (lv' := [(7, .int v7), (9, .int v2), (0, .ref (ga g k0)), (2, .int v2), (4, .int v4), (5, .int v5), (6, .int v6), (8, .int v8)]) hx hb dL_ramped_169 hl (by decide) rfl (fun ls hl => ?_)
                refine lv_iload hx hb dL_ramped_171 (lv_at hl 6 rfl) ?_
                refine lv_aload_n hx hb dL_ramped_173 rfl (lv_at hl 2 rfl) ?_
                refine lv_iload hx hb dL_ramped_174 (lv_at hl 0 rfl) ?_
                obtain ⟨q_45, I_46, hc_47, h⟩ := clP_e h
                refine r_callV (As := [.int v7]) [.int v6] X (c6_interval l g hG N _ _ _ t0 _ _ hc_47) cal_X6_interval (im_X6_interval) (se_X6_interval) k_239 (tag_lt t0 (by decide)) (by rw [lay, t0]; rfl) rfl rfl ⟨rfl, rfl⟩ ⟨Nat.le_of_ble_eq_true rfl, Nat.le_of_ble_eq_true rfl⟩ hP hS hl.1 rfl (Nat.le_of_ble_eq_true rfl) dL_ramped_176 ⟨Nat.zero_le _, Nat.zero_le _⟩ (fun H locs hP hS => ?_)
                show W p l e rmL_ramped s m args below meth c H locs 0 0 _ (F0 m 179 ls [.int q_45, .int v6])
                refine lv_iadd hx hb dL_ramped_179 ?_
                obtain ⟨x_48, ex_48, h⟩ := letM_e h
                refine r_nmi ex_48 ?_
                refine lv_istore (lv' := [(6, .int x_48), (7, .int v7), (9, .int v2), (0, .ref (ga g k0)), (2, .int v2), (4, .int v4), (5, .int v5), (8, .int v8)]) hx hb dL_ramped_180 hl (by decide) rfl (fun ls hl => ?_)
                obtain ⟨x_49, ex_49, h⟩ := letM_e h
                refine lv_iinc (v := x_49) (lv' := [(8, .int x_49), (6, .int x_48), (7, .int v7), (9, .int v2), (0, .ref (ga g k0)), (2, .int v2), (4, .int v4), (5, .int v5)]) hx hb dL_ramped_182 hl (k := 7) rfl (by rw [ex_49]; rfl) (by decide) rfl (fun ls hl => ?_)
                refine lv_goto (tgt := 98) hx hb dL_ramped_185 (by decide) ?_
                exact ih I_46 v2 v4 v5 x_48 v7 x_49 h _ _ _ hP hS (lv_sub hl [4, 5, 6, 7, 1, 2, 0] rfl)
            · replace h := ifn c_37 h
              refine lv_iload hx hb dL_ramped_146 (lv_at hl 6 rfl) ?_
              refine lv_iconst (v := (1 : Int32)) hx hb dL_ramped_148 (by decide +kernel) ?_
              refine lv_iadd hx hb dL_ramped_149 ?_
              refine lv_goto (tgt := 169) hx hb dL_ramped_150 (by decide) ?_
              obtain ⟨x_50, ex_50, h⟩ := letM_e h
              refine r_nmi ex_50 ?_
              refine lv_istore (lv' := [(7, .int x_50), (9, .int v2), (0, .ref (ga g k0)), (2, .int v2), (4, .int v4), (5, .int v5), (6, .int v6), (8, .int v8)]) hx hb dL_ramped_169 hl (by decide) rfl (fun ls hl => ?_)
              refine lv_iload hx hb dL_ramped_171 (lv_at hl 6 rfl) ?_
              refine lv_aload_n hx hb dL_ramped_173 rfl (lv_at hl 2 rfl) ?_
              refine lv_iload hx hb dL_ramped_174 (lv_at hl 0 rfl) ?_
              obtain ⟨q_51, I_52, hc_53, h⟩ := clP_e h
              refine r_callV (As := [.int x_50]) [.int v6] X (c6_interval l g hG N _ _ _ t0 _ _ hc_53) cal_X6_interval (im_X6_interval) (se_X6_interval) k_239 (tag_lt t0 (by decide)) (by rw [lay, t0]; rfl) rfl rfl ⟨rfl, rfl⟩ ⟨Nat.le_of_ble_eq_true rfl, Nat.le_of_ble_eq_true rfl⟩ hP hS hl.1 rfl (Nat.le_of_ble_eq_true rfl) dL_ramped_176 ⟨Nat.zero_le _, Nat.zero_le _⟩ (fun H locs hP hS => ?_)
              show W p l e rmL_ramped s m args below meth c H locs 0 0 _ (F0 m 179 ls [.int q_51, .int v6])
              refine lv_iadd hx hb dL_ramped_179 ?_
              obtain ⟨x_54, ex_54, h⟩ := letM_e h
              refine r_nmi ex_54 ?_
              refine lv_istore (lv' := [(6, .int x_54), (7, .int x_50), (9, .int v2), (0, .ref (ga g k0)), (2, .int v2), (4, .int v4), (5, .int v5), (8, .int v8)]) hx hb dL_ramped_180 hl (by decide) rfl (fun ls hl => ?_)
              obtain ⟨x_55, ex_55, h⟩ := letM_e h
              refine lv_iinc (v := x_55) (lv' := [(8, .int x_55), (6, .int x_54), (7, .int x_50), (9, .int v2), (0, .ref (ga g k0)), (2, .int v2), (4, .int v4), (5, .int v5)]) hx hb dL_ramped_182 hl (k := 7) rfl (by rw [ex_55]; rfl) (by decide) rfl (fun ls hl => ?_)
              refine lv_goto (tgt := 98) hx hb dL_ramped_185 (by decide) ?_
              exact ih I_52 v2 v4 v5 x_54 x_50 x_55 h _ _ _ hP hS (lv_sub hl [4, 5, 6, 7, 1, 2, 0] rfl)
          · replace h := ifp c_36 h
            refine lv_iconst (v := (0 : Int32)) hx hb dL_ramped_133 (by decide +kernel) ?_
            refine lv_goto (tgt := 169) hx hb dL_ramped_134 (by decide) ?_
            refine lv_istore (lv' := [(7, .int (0 : Int32)), (9, .int v2), (0, .ref (ga g k0)), (2, .int v2), (4, .int v4), (5, .int v5), (6, .int v6), (8, .int v8)]) hx hb dL_ramped_169 hl (by decide) rfl (fun ls hl => ?_)
            refine lv_iload hx hb dL_ramped_171 (lv_at hl 6 rfl) ?_
            refine lv_aload_n hx hb dL_ramped_173 rfl (lv_at hl 2 rfl) ?_
            refine lv_iload hx hb dL_ramped_174 (lv_at hl 0 rfl) ?_
            obtain ⟨q_56, I_57, hc_58, h⟩ := clP_e h
            refine r_callV (As := [.int (0 : Int32)]) [.int v6] X (c6_interval l g hG N _ _ _ t0 _ _ hc_58) cal_X6_interval (im_X6_interval) (se_X6_interval) k_239 (tag_lt t0 (by decide)) (by rw [lay, t0]; rfl) rfl rfl ⟨rfl, rfl⟩ ⟨Nat.le_of_ble_eq_true rfl, Nat.le_of_ble_eq_true rfl⟩ hP hS hl.1 rfl (Nat.le_of_ble_eq_true rfl) dL_ramped_176 ⟨Nat.zero_le _, Nat.zero_le _⟩ (fun H locs hP hS => ?_)
            show W p l e rmL_ramped s m args below meth c H locs 0 0 _ (F0 m 179 ls [.int q_56, .int v6])
            refine lv_iadd hx hb dL_ramped_179 ?_
            obtain ⟨x_59, ex_59, h⟩ := letM_e h
            refine r_nmi ex_59 ?_
            refine lv_istore (lv' := [(6, .int x_59), (7, .int (0 : Int32)), (9, .int v2), (0, .ref (ga g k0)), (2, .int v2), (4, .int v4), (5, .int v5), (8, .int v8)]) hx hb dL_ramped_180 hl (by decide) rfl (fun ls hl => ?_)
            obtain ⟨x_60, ex_60, h⟩ := letM_e h
            refine lv_iinc (v := x_60) (lv' := [(8, .int x_60), (6, .int x_59), (7, .int (0 : Int32)), (9, .int v2), (0, .ref (ga g k0)), (2, .int v2), (4, .int v4), (5, .int v5)]) hx hb dL_ramped_182 hl (k := 7) rfl (by rw [ex_60]; rfl) (by decide) rfl (fun ls hl => ?_)
            refine lv_goto (tgt := 98) hx hb dL_ramped_185 (by decide) ?_
            exact ih I_57 v2 v4 v5 x_59 (0 : Int32) x_60 h _ _ _ hP hS (lv_sub hl [4, 5, 6, 7, 1, 2, 0] rfl)
        · replace h := ifn c_35 h
          refine lv_iload hx hb dL_ramped_116 (lv_at hl 6 rfl) ?_
          refine lv_iconst (v := (1 : Int32)) hx hb dL_ramped_118 (by decide +kernel) ?_
          refine lv_isub hx hb dL_ramped_119 ?_
          refine lv_goto (tgt := 124) hx hb dL_ramped_120 (by decide) ?_
          obtain ⟨x_61, ex_61, h⟩ := letM_e h
          refine r_nmi ex_61 ?_
          refine lv_istore (lv' := [(9, .int x_61), (0, .ref (ga g k0)), (2, .int v2), (4, .int v4), (5, .int v5), (6, .int v6), (7, .int v7), (8, .int v8)]) hx hb dL_ramped_124 hl (by decide) rfl (fun ls hl => ?_)
          refine lv_iload hx hb dL_ramped_126 (lv_at hl 7 rfl) ?_
          refine lv_iload hx hb dL_ramped_128 (lv_at hl 4 rfl) ?_
          refine lv_icmp_ne (tgt := 137) hx hb dL_ramped_130 (by decide) (fun c_62 => ?_) (fun c_62 => ?_)
          · replace h := ifn c_62 h
            refine lv_iload hx hb dL_ramped_137 (lv_at hl 6 rfl) ?_
            refine lv_iconst (v := (1 : Int32)) hx hb dL_ramped_139 (by decide +kernel) ?_
            refine lv_iadd hx hb dL_ramped_140 ?_
            refine lv_iload hx hb dL_ramped_141 (lv_at hl 0 rfl) ?_
            refine lv_icmp_gt (tgt := 153) hx hb dL_ramped_143 (by decide) (fun c_63 => ?_) (fun c_63 => ?_)
            · replace h := ifp c_63 h
              refine lv_iload hx hb dL_ramped_153 (lv_at hl 6 rfl) ?_
              refine lv_iload hx hb dL_ramped_155 (lv_at hl 0 rfl) ?_
              refine lv_icmp_gt (tgt := 165) hx hb dL_ramped_157 (by decide) (fun c_64 => ?_) (fun c_64 => ?_)
              · replace h := ifp c_64 h
                refine lv_iload hx hb dL_ramped_165 (lv_at hl 6 rfl) ?_
                refine lv_iconst (v := (1 : Int32)) hx hb dL_ramped_167 (by decide +kernel) ?_
                refine lv_isub hx hb dL_ramped_168 ?_
                obtain ⟨x_65, ex_65, h⟩ := letM_e h
                refine r_nmi ex_65 ?_
                refine lv_istore (lv' := [(7, .int x_65), (9, .int x_61), (0, .ref (ga g k0)), (2, .int v2), (4, .int v4), (5, .int v5), (6, .int v6), (8, .int v8)]) hx hb dL_ramped_169 hl (by decide) rfl (fun ls hl => ?_)
                refine lv_iload hx hb dL_ramped_171 (lv_at hl 6 rfl) ?_
                refine lv_aload_n hx hb dL_ramped_173 rfl (lv_at hl 2 rfl) ?_
                refine lv_iload hx hb dL_ramped_174 (lv_at hl 0 rfl) ?_
                obtain ⟨q_66, I_67, hc_68, h⟩ := clP_e h
                refine r_callV (As := [.int x_65]) [.int v6] X (c6_interval l g hG N _ _ _ t0 _ _ hc_68) cal_X6_interval (im_X6_interval) (se_X6_interval) k_239 (tag_lt t0 (by decide)) (by rw [lay, t0]; rfl) rfl rfl ⟨rfl, rfl⟩ ⟨Nat.le_of_ble_eq_true rfl, Nat.le_of_ble_eq_true rfl⟩ hP hS hl.1 rfl (Nat.le_of_ble_eq_true rfl) dL_ramped_176 ⟨Nat.zero_le _, Nat.zero_le _⟩ (fun H locs hP hS => ?_)
                show W p l e rmL_ramped s m args below meth c H locs 0 0 _ (F0 m 179 ls [.int q_66, .int v6])
                refine lv_iadd hx hb dL_ramped_179 ?_
                obtain ⟨x_69, ex_69, h⟩ := letM_e h
                refine r_nmi ex_69 ?_
                refine lv_istore (lv' := [(6, .int x_69), (7, .int x_65), (9, .int x_61), (0, .ref (ga g k0)), (2, .int v2), (4, .int v4), (5, .int v5), (8, .int v8)]) hx hb dL_ramped_180 hl (by decide) rfl (fun ls hl => ?_)
                obtain ⟨x_70, ex_70, h⟩ := letM_e h
                refine lv_iinc (v := x_70) (lv' := [(8, .int x_70), (6, .int x_69), (7, .int x_65), (9, .int x_61), (0, .ref (ga g k0)), (2, .int v2), (4, .int v4), (5, .int v5)]) hx hb dL_ramped_182 hl (k := 7) rfl (by rw [ex_70]; rfl) (by decide) rfl (fun ls hl => ?_)
                refine lv_goto (tgt := 98) hx hb dL_ramped_185 (by decide) ?_
                exact ih I_67 v2 v4 v5 x_69 x_65 x_70 h _ _ _ hP hS (lv_sub hl [4, 5, 6, 7, 1, 2, 0] rfl)
              · replace h := ifn c_64 h
                refine lv_iload hx hb dL_ramped_160 (lv_at hl 6 rfl) ?_
                refine lv_goto (tgt := 169) hx hb dL_ramped_162 (by decide) ?_
                refine lv_istore (lv' := [(7, .int v7), (9, .int x_61), (0, .ref (ga g k0)), (2, .int v2), (4, .int v4), (5, .int v5), (6, .int v6), (8, .int v8)]) hx hb dL_ramped_169 hl (by decide) rfl (fun ls hl => ?_)
                refine lv_iload hx hb dL_ramped_171 (lv_at hl 6 rfl) ?_
                refine lv_aload_n hx hb dL_ramped_173 rfl (lv_at hl 2 rfl) ?_
                refine lv_iload hx hb dL_ramped_174 (lv_at hl 0 rfl) ?_
                obtain ⟨q_71, I_72, hc_73, h⟩ := clP_e h
                refine r_callV (As := [.int v7]) [.int v6] X (c6_interval l g hG N _ _ _ t0 _ _ hc_73) cal_X6_interval (im_X6_interval) (se_X6_interval) k_239 (tag_lt t0 (by decide)) (by rw [lay, t0]; rfl) rfl rfl ⟨rfl, rfl⟩ ⟨Nat.le_of_ble_eq_true rfl, Nat.le_of_ble_eq_true rfl⟩ hP hS hl.1 rfl (Nat.le_of_ble_eq_true rfl) dL_ramped_176 ⟨Nat.zero_le _, Nat.zero_le _⟩ (fun H locs hP hS => ?_)
                show W p l e rmL_ramped s m args below meth c H locs 0 0 _ (F0 m 179 ls [.int q_71, .int v6])
                refine lv_iadd hx hb dL_ramped_179 ?_
                obtain ⟨x_74, ex_74, h⟩ := letM_e h
                refine r_nmi ex_74 ?_
                refine lv_istore (lv' := [(6, .int x_74), (7, .int v7), (9, .int x_61), (0, .ref (ga g k0)), (2, .int v2), (4, .int v4), (5, .int v5), (8, .int v8)]) hx hb dL_ramped_180 hl (by decide) rfl (fun ls hl => ?_)
                obtain ⟨x_75, ex_75, h⟩ := letM_e h
                refine lv_iinc (v := x_75) (lv' := [(8, .int x_75), (6, .int x_74), (7, .int v7), (9, .int x_61), (0, .ref (ga g k0)), (2, .int v2), (4, .int v4), (5, .int v5)]) hx hb dL_ramped_182 hl (k := 7) rfl (by rw [ex_75]; rfl) (by decide) rfl (fun ls hl => ?_)
                refine lv_goto (tgt := 98) hx hb dL_ramped_185 (by decide) ?_
                exact ih I_72 v2 v4 v5 x_74 v7 x_75 h _ _ _ hP hS (lv_sub hl [4, 5, 6, 7, 1, 2, 0] rfl)
            · replace h := ifn c_63 h
              refine lv_iload hx hb dL_ramped_146 (lv_at hl 6 rfl) ?_
              refine lv_iconst (v := (1 : Int32)) hx hb dL_ramped_148 (by decide +kernel) ?_
              refine lv_iadd hx hb dL_ramped_149 ?_
              refine lv_goto (tgt := 169) hx hb dL_ramped_150 (by decide) ?_
              obtain ⟨x_76, ex_76, h⟩ := letM_e h
              refine r_nmi ex_76 ?_
              refine lv_istore (lv' := [(7, .int x_76), (9, .int x_61), (0, .ref (ga g k0)), (2, .int v2), (4, .int v4), (5, .int v5), (6, .int v6), (8, .int v8)]) hx hb dL_ramped_169 hl (by decide) rfl (fun ls hl => ?_)
              refine lv_iload hx hb dL_ramped_171 (lv_at hl 6 rfl) ?_
              refine lv_aload_n hx hb dL_ramped_173 rfl (lv_at hl 2 rfl) ?_
              refine lv_iload hx hb dL_ramped_174 (lv_at hl 0 rfl) ?_
              obtain ⟨q_77, I_78, hc_79, h⟩ := clP_e h
              refine r_callV (As := [.int x_76]) [.int v6] X (c6_interval l g hG N _ _ _ t0 _ _ hc_79) cal_X6_interval (im_X6_interval) (se_X6_interval) k_239 (tag_lt t0 (by decide)) (by rw [lay, t0]; rfl) rfl rfl ⟨rfl, rfl⟩ ⟨Nat.le_of_ble_eq_true rfl, Nat.le_of_ble_eq_true rfl⟩ hP hS hl.1 rfl (Nat.le_of_ble_eq_true rfl) dL_ramped_176 ⟨Nat.zero_le _, Nat.zero_le _⟩ (fun H locs hP hS => ?_)
              show W p l e rmL_ramped s m args below meth c H locs 0 0 _ (F0 m 179 ls [.int q_77, .int v6])
              refine lv_iadd hx hb dL_ramped_179 ?_
              obtain ⟨x_80, ex_80, h⟩ := letM_e h
              refine r_nmi ex_80 ?_
              refine lv_istore (lv' := [(6, .int x_80), (7, .int x_76), (9, .int x_61), (0, .ref (ga g k0)), (2, .int v2), (4, .int v4), (5, .int v5), (8, .int v8)]) hx hb dL_ramped_180 hl (by decide) rfl (fun ls hl => ?_)
              obtain ⟨x_81, ex_81, h⟩ := letM_e h
              refine lv_iinc (v := x_81) (lv' := [(8, .int x_81), (6, .int x_80), (7, .int x_76), (9, .int x_61), (0, .ref (ga g k0)), (2, .int v2), (4, .int v4), (5, .int v5)]) hx hb dL_ramped_182 hl (k := 7) rfl (by rw [ex_81]; rfl) (by decide) rfl (fun ls hl => ?_)
              refine lv_goto (tgt := 98) hx hb dL_ramped_185 (by decide) ?_
              exact ih I_78 v2 v4 v5 x_80 x_76 x_81 h _ _ _ hP hS (lv_sub hl [4, 5, 6, 7, 1, 2, 0] rfl)
          · replace h := ifp c_62 h
            refine lv_iconst (v := (0 : Int32)) hx hb dL_ramped_133 (by decide +kernel) ?_
            refine lv_goto (tgt := 169) hx hb dL_ramped_134 (by decide) ?_
            refine lv_istore (lv' := [(7, .int (0 : Int32)), (9, .int x_61), (0, .ref (ga g k0)), (2, .int v2), (4, .int v4), (5, .int v5), (6, .int v6), (8, .int v8)]) hx hb dL_ramped_169 hl (by decide) rfl (fun ls hl => ?_)
            refine lv_iload hx hb dL_ramped_171 (lv_at hl 6 rfl) ?_
            refine lv_aload_n hx hb dL_ramped_173 rfl (lv_at hl 2 rfl) ?_
            refine lv_iload hx hb dL_ramped_174 (lv_at hl 0 rfl) ?_
            obtain ⟨q_82, I_83, hc_84, h⟩ := clP_e h
            refine r_callV (As := [.int (0 : Int32)]) [.int v6] X (c6_interval l g hG N _ _ _ t0 _ _ hc_84) cal_X6_interval (im_X6_interval) (se_X6_interval) k_239 (tag_lt t0 (by decide)) (by rw [lay, t0]; rfl) rfl rfl ⟨rfl, rfl⟩ ⟨Nat.le_of_ble_eq_true rfl, Nat.le_of_ble_eq_true rfl⟩ hP hS hl.1 rfl (Nat.le_of_ble_eq_true rfl) dL_ramped_176 ⟨Nat.zero_le _, Nat.zero_le _⟩ (fun H locs hP hS => ?_)
            show W p l e rmL_ramped s m args below meth c H locs 0 0 _ (F0 m 179 ls [.int q_82, .int v6])
            refine lv_iadd hx hb dL_ramped_179 ?_
            obtain ⟨x_85, ex_85, h⟩ := letM_e h
            refine r_nmi ex_85 ?_
            refine lv_istore (lv' := [(6, .int x_85), (7, .int (0 : Int32)), (9, .int x_61), (0, .ref (ga g k0)), (2, .int v2), (4, .int v4), (5, .int v5), (8, .int v8)]) hx hb dL_ramped_180 hl (by decide) rfl (fun ls hl => ?_)
            obtain ⟨x_86, ex_86, h⟩ := letM_e h
            refine lv_iinc (v := x_86) (lv' := [(8, .int x_86), (6, .int x_85), (7, .int (0 : Int32)), (9, .int x_61), (0, .ref (ga g k0)), (2, .int v2), (4, .int v4), (5, .int v5)]) hx hb dL_ramped_182 hl (k := 7) rfl (by rw [ex_86]; rfl) (by decide) rfl (fun ls hl => ?_)
            refine lv_goto (tgt := 98) hx hb dL_ramped_185 (by decide) ?_
            exact ih I_83 v2 v4 v5 x_85 (0 : Int32) x_86 h _ _ _ hP hS (lv_sub hl [4, 5, 6, 7, 1, 2, 0] rfl)
set_option maxHeartbeats 4000000 in
set_option maxRecDepth 100000 in
theorem LL_ramped_80 (hG : Apart g NT) (N : Nat) (k0 : Nat) (a1 : Int32) (t0 : tag k0 = 5) (X : Cx g p s m args c cL_ramped RL 10) (hr : meth.sig.returnType = (some .boolean)) (hlk : meth.locks = false) (r0 : Int32) (I0 : Mem) : ∀ (I : Mem) (v2 : Int32) (v4 : Int32), fL_ramped_80 N k0 a1 I v2 v4 = some (r0, I0) → ∀ (H : Heap) (locs : List Loc) (ls : Array Slot), Wp g I H → va_S (gA g) s.heap H locs → lv_has ls 10 [(0, .ref (ga g k0)), (1, .int a1), (2, .int v2), (4, .int v4)] → W p l e rmL_ramped s m args below meth c H locs 0 0 (MQ below (Qg g (some (.int r0)) I0) args s 0 0 (gA g)) (F0 m 80 ls []) := by
  have hx := X.hx
  have hb := X.hb
  intro I v2 v4 h H locs ls hP hS hl
  unfold fL_ramped_80 at h
  refine lv_iconst (v := (1 : Int32)) hx hb dL_ramped_80 (by decide +kernel) ?_
  refine lv_iload_n hx hb dL_ramped_81 rfl (lv_at hl 1 rfl) ?_
  refine lv_bipush (v := (60 : Int32)) hx hb dL_ramped_82 (by decide +kernel) ?_
  refine lv_irem hx hb dL_ramped_84 (by decide) ?_
  refine lv_iadd hx hb dL_ramped_85 ?_
  obtain ⟨x_9, ex_9, h⟩ := letM_e h
  refine r_nmi ex_9 ?_
  refine lv_istore (lv' := [(5, .int x_9), (0, .ref (ga g k0)), (1, .int a1), (2, .int v2), (4, .int v4)]) hx hb dL_ramped_86 hl (by decide) rfl (fun ls hl => ?_)
  refine lv_iconst (v := (0 : Int32)) hx hb dL_ramped_88 (by decide +kernel) ?_
  refine lv_istore (lv' := [(6, .int (0 : Int32)), (5, .int x_9), (0, .ref (ga g k0)), (1, .int a1), (2, .int v2), (4, .int v4)]) hx hb dL_ramped_89 hl (by decide) rfl (fun ls hl => ?_)
  refine lv_iconst (v := (0 : Int32)) hx hb dL_ramped_91 (by decide +kernel) ?_
  refine lv_istore (lv' := [(7, .int (0 : Int32)), (6, .int (0 : Int32)), (5, .int x_9), (0, .ref (ga g k0)), (1, .int a1), (2, .int v2), (4, .int v4)]) hx hb dL_ramped_92 hl (by decide) rfl (fun ls hl => ?_)
  refine lv_iload hx hb dL_ramped_94 (lv_at hl 2 rfl) ?_
  refine lv_istore (lv' := [(8, .int x_9), (7, .int (0 : Int32)), (6, .int (0 : Int32)), (5, .int x_9), (0, .ref (ga g k0)), (1, .int a1), (2, .int v2), (4, .int v4)]) hx hb dL_ramped_96 hl (by decide) rfl (fun ls hl => ?_)
  exact LL_ramped_98 hG N k0 a1 t0 X hr hlk r0 I0 N I v2 v4 x_9 (0 : Int32) (0 : Int32) x_9 h _ _ _ hP hS (lv_sub hl [4, 6, 7, 3, 2, 1, 0] rfl)
set_option maxHeartbeats 4000000 in
set_option maxRecDepth 100000 in
theorem LL_ramped_32 (hG : Apart g NT) (N : Nat) (k0 : Nat) (a1 : Int32) (t0 : tag k0 = 5) (X : Cx g p s m args c cL_ramped RL 10) (hr : meth.sig.returnType = (some .boolean)) (hlk : meth.locks = false) (r0 : Int32) (I0 : Mem) : ∀ (cnt : Nat) (I : Mem) (v2 : Int32) (v3 : Int32) (v4 : Int32) (v5 : Int32), fL_ramped_32 N k0 a1 cnt I v2 v3 v4 v5 = some (r0, I0) → ∀ (H : Heap) (locs : List Loc) (ls : Array Slot), Wp g I H → va_S (gA g) s.heap H locs → lv_has ls 10 [(0, .ref (ga g k0)), (1, .int a1), (2, .int v2), (3, .int v3), (4, .int v4), (5, .int v5)] → W p l e rmL_ramped s m args below meth c H locs 0 0 (MQ below (Qg g (some (.int r0)) I0) args s 0 0 (gA g)) (F0 m 32 ls []) := by
  have hx := X.hx
  have hb := X.hb
  intro cnt
  induction cnt with
  | zero =>
    intro I v2 v3 v4 v5 h
    rw [fL_ramped_32] at h
    cases h
  | succ cnt ih =>
    intro I v2 v3 v4 v5 h H locs ls hP hS hl
    rw [fL_ramped_32] at h
    refine lv_iload hx hb dL_ramped_32 (lv_at hl 5 rfl) ?_
    refine lv_iload_n hx hb dL_ramped_34 rfl (lv_at hl 2 rfl) ?_
    refine lv_icmp_ge (tgt := 80) hx hb dL_ramped_35 (by decide) (fun c_8 => ?_) (fun c_8 => ?_)
    · replace h := ifp c_8 h
      exact LL_ramped_80 hG N k0 a1 t0 X hr hlk r0 I0 I v2 v4 h _ _ _ hP hS (lv_sub hl [0, 1, 2, 4] rfl)
    · replace h := ifn c_8 h
      refine lv_iload hx hb dL_ramped_38 (lv_at hl 5 rfl) ?_
      refine lv_bipush (v := (40 : Int32)) hx hb dL_ramped_40 (by decide +kernel) ?_
      refine lv_icmp_ge (tgt := 80) hx hb dL_ramped_42 (by decide) (fun c_87 => ?_) (fun c_87 => ?_)
      · replace h := ifp c_87 h
        exact LL_ramped_80 hG N k0 a1 t0 X hr hlk r0 I0 I v2 v4 h _ _ _ hP hS (lv_sub hl [0, 1, 2, 4] rfl)
      · replace h := ifn c_87 h
        refine lv_iload hx hb dL_ramped_45 (lv_at hl 4 rfl) ?_
        refine lv_if_eq (tgt := 80) hx hb dL_ramped_47 (by decide) (fun c_88 => ?_) (fun c_88 => ?_)
        · replace h := ifp c_88 h
          exact LL_ramped_80 hG N k0 a1 t0 X hr hlk r0 I0 I v2 v4 h _ _ _ hP hS (lv_sub hl [0, 1, 2, 4] rfl)
        · replace h := ifn c_88 h
          refine lv_aload_n hx hb dL_ramped_50 rfl (lv_at hl 0 rfl) ?_
          refine lv_iload hx hb dL_ramped_51 (lv_at hl 5 rfl) ?_
          obtain ⟨q_89, I_90, hc_91, h⟩ := clP_e h
          refine r_callV (As := [.int v5]) [] X (c6_interval l g hG N _ _ _ t0 _ _ hc_91) cal_X6_interval (im_X6_interval) (se_X6_interval) k_239 (tag_lt t0 (by decide)) (by rw [lay, t0]; rfl) rfl rfl ⟨rfl, rfl⟩ ⟨Nat.le_of_ble_eq_true rfl, Nat.le_of_ble_eq_true rfl⟩ hP hS hl.1 rfl (Nat.le_of_ble_eq_true rfl) dL_ramped_53 ⟨Nat.zero_le _, Nat.zero_le _⟩ (fun H locs hP hS => ?_)
          show W p l e rmL_ramped s m args below meth c H locs 0 0 _ (F0 m 56 ls [.int q_89])
          refine lv_iload_n hx hb dL_ramped_56 rfl (lv_at hl 3 rfl) ?_
          refine lv_icmp_gt (tgt := 67) hx hb dL_ramped_57 (by decide) (fun c_92 => ?_) (fun c_92 => ?_)
          · replace h := ifp c_92 h
            refine lv_iconst (v := (1 : Int32)) hx hb dL_ramped_67 (by decide +kernel) ?_
            refine lv_goto (tgt := 72) hx hb dL_ramped_68 (by decide) ?_
            refine lv_istore (lv' := [(4, .int (1 : Int32)), (0, .ref (ga g k0)), (1, .int a1), (2, .int v2), (3, .int v3), (5, .int v5)]) hx hb dL_ramped_72 hl (by decide) rfl (fun ls hl => ?_)
            obtain ⟨x_93, ex_93, h⟩ := letM_e h
            refine lv_iinc (v := x_93) (lv' := [(5, .int x_93), (4, .int (1 : Int32)), (0, .ref (ga g k0)), (1, .int a1), (2, .int v2), (3, .int v3)]) hx hb dL_ramped_74 hl (k := 5) rfl (by rw [ex_93]; rfl) (by decide) rfl (fun ls hl => ?_)
            refine lv_goto (tgt := 32) hx hb dL_ramped_77 (by decide) ?_
            exact ih I_90 v2 v3 (1 : Int32) x_93 h _ _ _ hP hS (lv_sub hl [2, 3, 4, 5, 1, 0] rfl)
          · replace h := ifn c_92 h
            refine lv_iload_n hx hb dL_ramped_60 rfl (lv_at hl 2 rfl) ?_
            refine lv_sipush (v := (999 : Int32)) hx hb dL_ramped_61 (by decide +kernel) ?_
            refine lv_icmp_ne (tgt := 71) hx hb dL_ramped_64 (by decide) (fun c_94 => ?_) (fun c_94 => ?_)
            · replace h := ifn c_94 h
              refine lv_iconst (v := (0 : Int32)) hx hb dL_ramped_71 (by decide +kernel) ?_
              refine lv_istore (lv' := [(4, .int (0 : Int32)), (0, .ref (ga g k0)), (1, .int a1), (2, .int v2), (3, .int v3), (5, .int v5)]) hx hb dL_ramped_72 hl (by decide) rfl (fun ls hl => ?_)
              obtain ⟨x_95, ex_95, h⟩ := letM_e h
              refine lv_iinc (v := x_95) (lv' := [(5, .int x_95), (4, .int (0 : Int32)), (0, .ref (ga g k0)), (1, .int a1), (2, .int v2), (3, .int v3)]) hx hb dL_ramped_74 hl (k := 5) rfl (by rw [ex_95]; rfl) (by decide) rfl (fun ls hl => ?_)
              refine lv_goto (tgt := 32) hx hb dL_ramped_77 (by decide) ?_
              exact ih I_90 v2 v3 (0 : Int32) x_95 h _ _ _ hP hS (lv_sub hl [2, 3, 4, 5, 1, 0] rfl)
            · replace h := ifp c_94 h
              refine lv_iconst (v := (1 : Int32)) hx hb dL_ramped_67 (by decide +kernel) ?_
              refine lv_goto (tgt := 72) hx hb dL_ramped_68 (by decide) ?_
              refine lv_istore (lv' := [(4, .int (1 : Int32)), (0, .ref (ga g k0)), (1, .int a1), (2, .int v2), (3, .int v3), (5, .int v5)]) hx hb dL_ramped_72 hl (by decide) rfl (fun ls hl => ?_)
              obtain ⟨x_96, ex_96, h⟩ := letM_e h
              refine lv_iinc (v := x_96) (lv' := [(5, .int x_96), (4, .int (1 : Int32)), (0, .ref (ga g k0)), (1, .int a1), (2, .int v2), (3, .int v3)]) hx hb dL_ramped_74 hl (k := 5) rfl (by rw [ex_96]; rfl) (by decide) rfl (fun ls hl => ?_)
              refine lv_goto (tgt := 32) hx hb dL_ramped_77 (by decide) ?_
              exact ih I_90 v2 v3 (1 : Int32) x_96 h _ _ _ hP hS (lv_sub hl [2, 3, 4, 5, 1, 0] rfl)
set_option maxHeartbeats 4000000 in
set_option maxRecDepth 100000 in
theorem LL_ramped_27 (hG : Apart g NT) (N : Nat) (k0 : Nat) (a1 : Int32) (t0 : tag k0 = 5) (X : Cx g p s m args c cL_ramped RL 10) (hr : meth.sig.returnType = (some .boolean)) (hlk : meth.locks = false) (r0 : Int32) (I0 : Mem) : ∀ (I : Mem) (v2 : Int32) (v3 : Int32) (s0 : Int32), fL_ramped_27 N k0 a1 I v2 v3 s0 = some (r0, I0) → ∀ (H : Heap) (locs : List Loc) (ls : Array Slot), Wp g I H → va_S (gA g) s.heap H locs → lv_has ls 10 [(0, .ref (ga g k0)), (1, .int a1), (2, .int v2), (3, .int v3)] → W p l e rmL_ramped s m args below meth c H locs 0 0 (MQ below (Qg g (some (.int r0)) I0) args s 0 0 (gA g)) (F0 m 27 ls [.int s0]) := by
  have hx := X.hx
  have hb := X.hb
  intro I v2 v3 s0 h H locs ls hP hS hl
  unfold fL_ramped_27 at h
  refine lv_istore (lv' := [(4, .int s0), (0, .ref (ga g k0)), (1, .int a1), (2, .int v2), (3, .int v3)]) hx hb dL_ramped_27 hl (by decide) rfl (fun ls hl => ?_)
  refine lv_iconst (v := (0 : Int32)) hx hb dL_ramped_29 (by decide +kernel) ?_
  refine lv_istore (lv' := [(5, .int (0 : Int32)), (4, .int s0), (0, .ref (ga g k0)), (1, .int a1), (2, .int v2), (3, .int v3)]) hx hb dL_ramped_30 hl (by decide) rfl (fun ls hl => ?_)
  exact LL_ramped_32 hG N k0 a1 t0 X hr hlk r0 I0 N I v2 v3 s0 (0 : Int32) h _ _ _ hP hS (lv_sub hl [2, 3, 4, 5, 1, 0] rfl)
set_option maxHeartbeats 4000000 in
set_option maxRecDepth 100000 in
theorem LL_ramped_26 (hG : Apart g NT) (N : Nat) (k0 : Nat) (a1 : Int32) (t0 : tag k0 = 5) (X : Cx g p s m args c cL_ramped RL 10) (hr : meth.sig.returnType = (some .boolean)) (hlk : meth.locks = false) (r0 : Int32) (I0 : Mem) : ∀ (I : Mem) (v2 : Int32) (v3 : Int32), fL_ramped_26 N k0 a1 I v2 v3 = some (r0, I0) → ∀ (H : Heap) (locs : List Loc) (ls : Array Slot), Wp g I H → va_S (gA g) s.heap H locs → lv_has ls 10 [(0, .ref (ga g k0)), (1, .int a1), (2, .int v2), (3, .int v3)] → W p l e rmL_ramped s m args below meth c H locs 0 0 (MQ below (Qg g (some (.int r0)) I0) args s 0 0 (gA g)) (F0 m 26 ls []) := by
  have hx := X.hx
  have hb := X.hb
  intro I v2 v3 h H locs ls hP hS hl
  unfold fL_ramped_26 at h
  refine lv_iconst (v := (0 : Int32)) hx hb dL_ramped_26 (by decide +kernel) ?_
  exact LL_ramped_27 hG N k0 a1 t0 X hr hlk r0 I0 I v2 v3 (0 : Int32) h _ _ _ hP hS (lv_sub hl [0, 1, 2, 3] rfl)
set_option maxHeartbeats 4000000 in
set_option maxRecDepth 100000 in
theorem ccL_ramped (l : Launch) (g : GG) (hG : Apart g NT) (N : Nat) (I : Mem) (k0 : Nat) (a1 : Int32) (t0 : tag k0 = 5) (r0 : Int32) (I0 : Mem) (h : fL_ramped N I k0 a1 = some (r0, I0)) : Mc l g yL_ramped cL_ramped 10 (some .boolean) rmL_ramped I [.ref (ga g k0), .int a1] (some (.int r0)) I0 := by
  refine Mc.of hG (by decide +kernel) (Nat.le_of_ble_eq_true rfl) ?_
  intro p e s m args below meth c ls X hr hlk hP hS hl
  have X : Cx g p s m args c cL_ramped RL 10 := X
  have hx := X.hx
  have hb := X.hb
  have hl : lv_has ls 10 [(0, .ref (ga g k0)), (1, .int a1)] := hl
  have locs : List Loc := []
  unfold fL_ramped at h
  refine lv_aload_n hx hb dL_ramped_0 rfl (lv_at hl 0 rfl) ?_
  obtain ⟨q_1, I_2, hc_3, h⟩ := clP_e h
  refine r_callV (As := []) [] X (c6_topIndex l g hG N _ _ t0 _ _ hc_3) cal_X6_topIndex (im_X6_topIndex) (se_X6_topIndex) k_613 (tag_lt t0 (by decide)) (by rw [lay, t0]; rfl) rfl rfl ⟨rfl, rfl⟩ ⟨Nat.le_of_ble_eq_true rfl, Nat.le_of_ble_eq_true rfl⟩ hP hS hl.1 rfl (Nat.le_of_ble_eq_true rfl) dL_ramped_1 ⟨Nat.zero_le _, Nat.zero_le _⟩ (fun H locs hP hS => ?_)
  show W p l e rmL_ramped s m args below meth c H locs 0 0 _ (F0 m 4 ls [.int q_1])
  refine lv_istore_n (lv' := [(2, .int q_1), (0, .ref (ga g k0)), (1, .int a1)]) hx hb dL_ramped_4 rfl hl (by decide) rfl (fun ls hl => ?_)
  refine lv_aload_n hx hb dL_ramped_5 rfl (lv_at hl 1 rfl) ?_
  refine lv_iload_n hx hb dL_ramped_6 rfl (lv_at hl 0 rfl) ?_
  obtain ⟨q_4, I_5, hc_6, h⟩ := clP_e h
  refine r_callV (As := [.int q_1]) [] X (c6_interval l g hG N _ _ _ t0 _ _ hc_6) cal_X6_interval (im_X6_interval) (se_X6_interval) k_239 (tag_lt t0 (by decide)) (by rw [lay, t0]; rfl) rfl rfl ⟨rfl, rfl⟩ ⟨Nat.le_of_ble_eq_true rfl, Nat.le_of_ble_eq_true rfl⟩ hP hS hl.1 rfl (Nat.le_of_ble_eq_true rfl) dL_ramped_7 ⟨Nat.zero_le _, Nat.zero_le _⟩ (fun H locs hP hS => ?_)
  show W p l e rmL_ramped s m args below meth c H locs 0 0 _ (F0 m 10 ls [.int q_4])
  refine lv_istore_n (lv' := [(3, .int q_4), (2, .int q_1), (0, .ref (ga g k0)), (1, .int a1)]) hx hb dL_ramped_10 rfl hl (by decide) rfl (fun ls hl => ?_)
  refine lv_iload_n hx hb dL_ramped_11 rfl (lv_at hl 1 rfl) ?_
  refine lv_if_lt (tgt := 26) hx hb dL_ramped_12 (by decide) (fun c_7 => ?_) (fun c_7 => ?_)
  · replace h := ifp c_7 h
    exact LL_ramped_26 hG N k0 a1 t0 X hr hlk r0 I0 I_5 q_1 q_4 h _ _ _ hP hS (lv_sub hl [2, 3, 1, 0] rfl)
  · replace h := ifn c_7 h
    refine lv_iload_n hx hb dL_ramped_15 rfl (lv_at hl 1 rfl) ?_
    refine lv_sipush (v := (999 : Int32)) hx hb dL_ramped_16 (by decide +kernel) ?_
    refine lv_icmp_gt (tgt := 26) hx hb dL_ramped_19 (by decide) (fun c_97 => ?_) (fun c_97 => ?_)
    · replace h := ifp c_97 h
      exact LL_ramped_26 hG N k0 a1 t0 X hr hlk r0 I0 I_5 q_1 q_4 h _ _ _ hP hS (lv_sub hl [2, 3, 1, 0] rfl)
    · replace h := ifn c_97 h
      refine lv_iconst (v := (1 : Int32)) hx hb dL_ramped_22 (by decide +kernel) ?_
      refine lv_goto (tgt := 27) hx hb dL_ramped_23 (by decide) ?_
      exact LL_ramped_27 hG N k0 a1 t0 X hr hlk r0 I0 I_5 q_1 q_4 (1 : Int32) h _ _ _ hP hS (lv_sub hl [2, 3, 1, 0] rfl)
abbrev rmL_over : Room := { frames := 6, cells := 0, slots := 0, locals := 145 }
def fL_over (N : Nat) (I : Mem) (k0 : Nat) (a1 : Int32) : Option (Int32 × Mem) :=
    clP (f6_step N I k0) (fun (q_1 : Int32) (I_2 : Mem) =>
    if q_1 ≤ a1 then
    some ((0 : Int32), I_2)
    else
    clP (f6_undo N I_2 k0) (fun (q_5 : Int32) (I_6 : Mem) =>
    if q_5 < (0 : Int32) then
    some ((0 : Int32), I_6)
    else
    some ((1 : Int32), I_6)))
set_option maxHeartbeats 4000000 in
set_option maxRecDepth 100000 in
theorem ccL_over (l : Launch) (g : GG) (hG : Apart g NT) (N : Nat) (I : Mem) (k0 : Nat) (a1 : Int32) (t0 : tag k0 = 5) (r0 : Int32) (I0 : Mem) (h : fL_over N I k0 a1 = some (r0, I0)) : Mc l g yL_over cL_over 2 (some .boolean) rmL_over I [.ref (ga g k0), .int a1] (some (.int r0)) I0 := by
  refine Mc.of hG (by decide +kernel) (Nat.le_of_ble_eq_true rfl) ?_
  intro p e s m args below meth c ls X hr hlk hP hS hl
  have X : Cx g p s m args c cL_over RL 2 := X
  have hx := X.hx
  have hb := X.hb
  have hl : lv_has ls 2 [(0, .ref (ga g k0)), (1, .int a1)] := hl
  have locs : List Loc := []
  unfold fL_over at h
  refine lv_aload_n hx hb dL_over_0 rfl (lv_at hl 0 rfl) ?_
  obtain ⟨q_1, I_2, hc_3, h⟩ := clP_e h
  refine r_callV (As := []) [] X (c6_step l g hG N _ _ t0 _ _ hc_3) cal_X6_step (im_X6_step) (se_X6_step) k_485 (tag_lt t0 (by decide)) (by rw [lay, t0]; rfl) rfl rfl ⟨rfl, rfl⟩ ⟨Nat.le_of_ble_eq_true rfl, Nat.le_of_ble_eq_true rfl⟩ hP hS hl.1 rfl (Nat.le_of_ble_eq_true rfl) dL_over_1 ⟨Nat.zero_le _, Nat.zero_le _⟩ (fun H locs hP hS => ?_)
  show W p l e rmL_over s m args below meth c H locs 0 0 _ (F0 m 4 ls [.int q_1])
  refine lv_iload_n hx hb dL_over_4 rfl (lv_at hl 1 rfl) ?_
  refine lv_icmp_le (tgt := 19) hx hb dL_over_5 (by decide) (fun c_4 => ?_) (fun c_4 => ?_)
  · replace h := ifp c_4 h
    refine lv_iconst (v := (0 : Int32)) hx hb dL_over_19 (by decide +kernel) ?_
    exact r_zret X hr hlk hP hS rfl dL_over_20 h
  · replace h := ifn c_4 h
    refine lv_aload_n hx hb dL_over_8 rfl (lv_at hl 0 rfl) ?_
    obtain ⟨q_5, I_6, hc_7, h⟩ := clP_e h
    refine r_callV (As := []) [] X (c6_undo l g hG N _ _ t0 _ _ hc_7) cal_X6_undo (im_X6_undo) (se_X6_undo) k_590 (tag_lt t0 (by decide)) (by rw [lay, t0]; rfl) rfl rfl ⟨rfl, rfl⟩ ⟨Nat.le_of_ble_eq_true rfl, Nat.le_of_ble_eq_true rfl⟩ hP hS hl.1 rfl (Nat.le_of_ble_eq_true rfl) dL_over_9 ⟨Nat.zero_le _, Nat.zero_le _⟩ (fun H locs hP hS => ?_)
    show W p l e rmL_over s m args below meth c H locs 0 0 _ (F0 m 12 ls [.int q_5])
    refine lv_if_lt (tgt := 19) hx hb dL_over_12 (by decide) (fun c_8 => ?_) (fun c_8 => ?_)
    · replace h := ifp c_8 h
      refine lv_iconst (v := (0 : Int32)) hx hb dL_over_19 (by decide +kernel) ?_
      exact r_zret X hr hlk hP hS rfl dL_over_20 h
    · replace h := ifn c_8 h
      refine lv_iconst (v := (1 : Int32)) hx hb dL_over_15 (by decide +kernel) ?_
      refine lv_goto (tgt := 20) hx hb dL_over_16 (by decide) ?_
      exact r_zret X hr hlk hP hS rfl dL_over_20 h
abbrev rmL_ahead : Room := { frames := 7, cells := 0, slots := 0, locals := 166 }
def fL_ahead_384 (N : Nat) (k0 : Nat) (a1 : Int32) (I : Mem) (w2 : Int64) (v4 : Int32) (v5 : Int32) : Option (Int32 × Mem) :=
    if v5 = (0 : Int32) then
    some ((0 : Int32), I)
    else
    clP (f6_restore N I k0 (1 : Int32)) (fun (q_20 : Int32) (I_21 : Mem) =>
    if q_20 = v4 then
    clP (fL_now N I_21 k0) (fun (q_24 : Int64) (I_25 : Mem) =>
    if (lg_cmp q_24 w2) = (0 : Int32) then
    clP (f6_undo N I_25 k0) (fun (q_28 : Int32) (I_29 : Mem) =>
    if q_28 = (-3 : Int32) then
    some ((1 : Int32), I_29)
    else
    some ((0 : Int32), I_29))
    else
    some ((0 : Int32), I_25))
    else
    some ((0 : Int32), I_21))
def fL_ahead_326 (N : Nat) (k0 : Nat) (a1 : Int32) : Nat → Mem → Int64 → Int32 → Int32 → Int32 → Option (Int32 × Mem)
  | 0, _, _, _, _, _ => none
  | cnt+1, I, w2, v4, v5, v12 =>
    if v5 = (0 : Int32) then
    fL_ahead_384 N k0 a1 I w2 v4 v5
    else
    clP (f6_queueLength N I k0) (fun (q_55 : Int32) (I_56 : Mem) =>
    if q_55 ≤ (0 : Int32) then
    fL_ahead_384 N k0 a1 I_56 w2 v4 v5
    else
    letM (v12 + (-1 : Int32)) (fun x_59 : Int32 =>
    clP (f6_step N I_56 k0) (fun (q_60 : Int32) (I_61 : Mem) =>
    if q_60 ≤ (0 : Int32) then
    fL_ahead_326 N k0 a1 cnt I_61 w2 v4 (0 : Int32) x_59
    else
    if x_59 = (0 : Int32) then
    clP (f6_rampIndex N I_61 k0) (fun (q_69 : Int32) (I_70 : Mem) =>
    if q_69 = (-9 : Int32) then
    fL_ahead_326 N k0 a1 cnt I_70 w2 v4 (1 : Int32) x_59
    else
    fL_ahead_326 N k0 a1 cnt I_70 w2 v4 (0 : Int32) x_59)
    else
    clP (f6_rampIndex N I_61 k0) (fun (q_65 : Int32) (I_66 : Mem) =>
    if q_65 = x_59 then
    fL_ahead_326 N k0 a1 cnt I_66 w2 v4 (1 : Int32) x_59
    else
    fL_ahead_326 N k0 a1 cnt I_66 w2 v4 (0 : Int32) x_59))))
def fL_ahead_324 (N : Nat) (k0 : Nat) (a1 : Int32) (I : Mem) (w2 : Int64) (v4 : Int32) (v12 : Int32) (s0 : Int32) : Option (Int32 × Mem) :=
    fL_ahead_326 N k0 a1 N I w2 v4 s0 v12
def fL_ahead_323 (N : Nat) (k0 : Nat) (a1 : Int32) (I : Mem) (w2 : Int64) (v4 : Int32) (v12 : Int32) : Option (Int32 × Mem) :=
    fL_ahead_324 N k0 a1 I w2 v4 v12 (0 : Int32)
def fL_ahead_319 (N : Nat) (k0 : Nat) (a1 : Int32) (I : Mem) (w2 : Int64) (v4 : Int32) (v12 : Int32) : Option (Int32 × Mem) :=
    fL_ahead_324 N k0 a1 I w2 v4 v12 (1 : Int32)
def fL_ahead_248 (N : Nat) (k0 : Nat) (a1 : Int32) (I : Mem) (w2 : Int64) (v4 : Int32) (v5 : Int32) : Option (Int32 × Mem) :=
    if v5 = (0 : Int32) then
    fL_ahead_384 N k0 a1 I w2 v4 v5
    else
    clP (f6_rampIndex N I k0) (fun (q_43 : Int32) (I_44 : Mem) =>
    if q_43 = (-9 : Int32) then
    fL_ahead_384 N k0 a1 I_44 w2 v4 v5
    else
    clP (f6_rampIndex N I_44 k0) (fun (q_47 : Int32) (I_48 : Mem) =>
    clP (f6_stop N I_48 k0) (fun (q_50 : Int32) (I_51 : Mem) =>
    if q_50 = q_47 then
    if q_47 = (0 : Int32) then
    clP (f6_rampIndex N I_51 k0) (fun (q_82 : Int32) (I_83 : Mem) =>
    if q_82 = (-9 : Int32) then
    clP (f6_queueLength N I_83 k0) (fun (q_86 : Int32) (I_87 : Mem) =>
    if q_86 = (0 : Int32) then
    fL_ahead_319 N k0 a1 I_87 w2 v4 q_47
    else
    fL_ahead_323 N k0 a1 I_87 w2 v4 q_47)
    else
    fL_ahead_323 N k0 a1 I_83 w2 v4 q_47)
    else
    clP (f6_itemAt N I_51 k0 (0 : Int32)) (fun (q_74 : Int32) (I_75 : Mem) =>
    if q_74 = q_47 then
    clP (f6_queueLength N I_75 k0) (fun (q_78 : Int32) (I_79 : Mem) =>
    if q_78 = (1 : Int32) then
    fL_ahead_319 N k0 a1 I_79 w2 v4 q_47
    else
    fL_ahead_323 N k0 a1 I_79 w2 v4 q_47)
    else
    fL_ahead_323 N k0 a1 I_75 w2 v4 q_47)
    else
    fL_ahead_323 N k0 a1 I_51 w2 v4 q_47)))
def fL_ahead_169 (N : Nat) (k0 : Nat) (a1 : Int32) : Nat → Mem → Int64 → Int32 → Int32 → Int32 → Option (Int32 × Mem)
  | 0, _, _, _, _, _ => none
  | cnt+1, I, w2, v4, v5, v11 =>
    if v5 = (0 : Int32) then
    fL_ahead_248 N k0 a1 I w2 v4 v5
    else
    if (9 : Int32) ≤ v11 then
    fL_ahead_248 N k0 a1 I w2 v4 v5
    else
    clP (f6_queueLength N I k0) (fun (q_91 : Int32) (I_92 : Mem) =>
    if q_91 ≤ (0 : Int32) then
    fL_ahead_248 N k0 a1 I_92 w2 v4 v5
    else
    clP (f6_clock N I_92 k0) (fun (q_95 : Int32) (I_96 : Mem) =>
    clP (f6_ticksLeft N I_96 k0) (fun (q_98 : Int32) (I_99 : Mem) =>
    clP (f6_step N I_99 k0) (fun (q_101 : Int32) (I_102 : Mem) =>
    if q_101 ≤ (0 : Int32) then
    letM (v11 + (1 : Int32)) (fun x_105 : Int32 =>
    fL_ahead_169 N k0 a1 cnt I_102 w2 v4 (0 : Int32) x_105)
    else
    clP (f6_clock N I_102 k0) (fun (q_106 : Int32) (I_107 : Mem) =>
    if q_106 = (q_95 + q_101) then
    clP (f6_ticksLeft N I_107 k0) (fun (q_111 : Int32) (I_112 : Mem) =>
    if q_111 = (q_98 - q_101) then
    letM (v11 + (1 : Int32)) (fun x_116 : Int32 =>
    fL_ahead_169 N k0 a1 cnt I_112 w2 v4 (1 : Int32) x_116)
    else
    letM (v11 + (1 : Int32)) (fun x_115 : Int32 =>
    fL_ahead_169 N k0 a1 cnt I_112 w2 v4 (0 : Int32) x_115))
    else
    letM (v11 + (1 : Int32)) (fun x_110 : Int32 =>
    fL_ahead_169 N k0 a1 cnt I_107 w2 v4 (0 : Int32) x_110))))))
def fL_ahead_164 (N : Nat) (k0 : Nat) (a1 : Int32) (I : Mem) (w2 : Int64) (v4 : Int32) (s0 : Int32) : Option (Int32 × Mem) :=
    fL_ahead_169 N k0 a1 N I w2 v4 s0 (0 : Int32)
def fL_ahead_163 (N : Nat) (k0 : Nat) (a1 : Int32) (I : Mem) (w2 : Int64) (v4 : Int32) : Option (Int32 × Mem) :=
    fL_ahead_164 N k0 a1 I w2 v4 (0 : Int32)
def fL_ahead_143 (N : Nat) (k0 : Nat) (a1 : Int32) (I : Mem) (w2 : Int64) (v4 : Int32) : Option (Int32 × Mem) :=
    clP (f6_undo N I k0) (fun (q_133 : Int32) (I_134 : Mem) =>
    if q_133 < (0 : Int32) then
    fL_ahead_163 N k0 a1 I_134 w2 v4
    else
    clP (fL_now N I_134 k0) (fun (q_137 : Int64) (I_138 : Mem) =>
    if (lg_cmp q_137 w2) = (0 : Int32) then
    fL_ahead_164 N k0 a1 I_138 w2 v4 (1 : Int32)
    else
    fL_ahead_163 N k0 a1 I_138 w2 v4))
def fL_ahead_26 (N : Nat) (k0 : Nat) (a1 : Int32) (I : Mem) (w2 : Int64) (v4 : Int32) (s0 : Int32) : Option (Int32 × Mem) :=
    letM (a1 - a1 / (4000 : Int32) * (4000 : Int32)) (fun x_11 : Int32 =>
    clP (f6_positionAfter N I k0 (0 : Int32) x_11) (fun (q_12 : Int32) (I_13 : Mem) =>
    clP (f6_positionAfter N I_13 k0 (1 : Int32) x_11) (fun (q_15 : Int32) (I_16 : Mem) =>
    if v4 ≤ (0 : Int32) then
    fL_ahead_384 N k0 a1 I_16 w2 v4 s0
    else
    if x_11 ≤ (0 : Int32) then
    fL_ahead_384 N k0 a1 I_16 w2 v4 s0
    else
    if s0 = (0 : Int32) then
    fL_ahead_384 N k0 a1 I_16 w2 v4 s0
    else
    clP (f6_clock N I_16 k0) (fun (q_34 : Int32) (I_35 : Mem) =>
    clP (f6_run N I_35 k0 x_11) (fun (q_37 : Int32) (I_38 : Mem) =>
    if q_37 < (0 : Int32) then
    fL_ahead_163 N k0 a1 I_38 w2 v4
    else
    clP (f6_position N I_38 k0 (0 : Int32)) (fun (q_117 : Int32) (I_118 : Mem) =>
    if q_117 = q_12 then
    clP (f6_position N I_118 k0 (1 : Int32)) (fun (q_121 : Int32) (I_122 : Mem) =>
    if q_121 = q_15 then
    clP (f6_clock N I_122 k0) (fun (q_125 : Int32) (I_126 : Mem) =>
    if x_11 < (q_125 - q_34) then
    fL_ahead_163 N k0 a1 I_126 w2 v4
    else
    clP (f6_queueLength N I_126 k0) (fun (q_129 : Int32) (I_130 : Mem) =>
    if q_129 = (0 : Int32) then
    fL_ahead_143 N k0 a1 I_130 w2 v4
    else
    clP (f6_clock N I_130 k0) (fun (q_141 : Int32) (I_142 : Mem) =>
    clP (fL_over N I_142 k0 (x_11 - (q_141 - q_34))) (fun (q_144 : Int32) (I_145 : Mem) =>
    if q_144 = (0 : Int32) then
    fL_ahead_163 N k0 a1 I_145 w2 v4
    else
    fL_ahead_143 N k0 a1 I_145 w2 v4))))
    else
    fL_ahead_163 N k0 a1 I_122 w2 v4)
    else
    fL_ahead_163 N k0 a1 I_118 w2 v4))))))
def fL_ahead (N : Nat) (I : Mem) (k0 : Nat) (a1 : Int32) : Option (Int32 × Mem) :=
    clP (fL_now N I k0) (fun (q_1 : Int64) (I_2 : Mem) =>
    clP (f6_queueLength N I_2 k0) (fun (q_4 : Int32) (I_5 : Mem) =>
    clP (f6_save N I_5 k0 (1 : Int32)) (fun (q_7 : Int32) (I_8 : Mem) =>
    if q_7 = q_4 then
    fL_ahead_26 N k0 a1 I_8 q_1 q_4 (1 : Int32)
    else
    fL_ahead_26 N k0 a1 I_8 q_1 q_4 (0 : Int32))))
set_option maxHeartbeats 4000000 in
set_option maxRecDepth 100000 in
theorem LL_ahead_384 (hG : Apart g NT) (N : Nat) (k0 : Nat) (a1 : Int32) (t0 : tag k0 = 5) (X : Cx g p s m args c cL_ahead RL 15) (hr : meth.sig.returnType = (some .boolean)) (hlk : meth.locks = false) (r0 : Int32) (I0 : Mem) : ∀ (I : Mem) (w2 : Int64) (v4 : Int32) (v5 : Int32), fL_ahead_384 N k0 a1 I w2 v4 v5 = some (r0, I0) → ∀ (H : Heap) (locs : List Loc) (ls : Array Slot), Wp g I H → va_S (gA g) s.heap H locs → lv_has ls 15 [(0, .ref (ga g k0)), (2, .long w2), (4, .int v4), (5, .int v5)] → W p l e rmL_ahead s m args below meth c H locs 0 0 (MQ below (Qg g (some (.int r0)) I0) args s 0 0 (gA g)) (F0 m 384 ls []) := by
  have hx := X.hx
  have hb := X.hb
  intro I w2 v4 v5 h H locs ls hP hS hl
  unfold fL_ahead_384 at h
  refine lv_iload hx hb dL_ahead_384 (lv_at hl 3 rfl) ?_
  refine lv_if_eq (tgt := 421) hx hb dL_ahead_386 (by decide) (fun c_19 => ?_) (fun c_19 => ?_)
  · replace h := ifp c_19 h
    refine lv_iconst (v := (0 : Int32)) hx hb dL_ahead_421 (by decide +kernel) ?_
    exact r_zret X hr hlk hP hS rfl dL_ahead_422 h
  · replace h := ifn c_19 h
    refine lv_aload_n hx hb dL_ahead_389 rfl (lv_at hl 0 rfl) ?_
    refine lv_iconst (v := (1 : Int32)) hx hb dL_ahead_390 (by decide +kernel) ?_
    obtain ⟨q_20, I_21, hc_22, h⟩ := clP_e h
    refine r_callV (As := [.int (1 : Int32)]) [] X (c6_restore l g hG N _ _ _ t0 _ _ hc_22) cal_X6_restore (im_X6_restore) (se_X6_restore) k_469 (tag_lt t0 (by decide)) (by rw [lay, t0]; rfl) rfl rfl ⟨rfl, rfl⟩ ⟨Nat.le_of_ble_eq_true rfl, Nat.le_of_ble_eq_true rfl⟩ hP hS hl.1 rfl (Nat.le_of_ble_eq_true rfl) dL_ahead_391 ⟨Nat.zero_le _, Nat.zero_le _⟩ (fun H locs hP hS => ?_)
    show W p l e rmL_ahead s m args below meth c H locs 0 0 _ (F0 m 394 ls [.int q_20])
    refine lv_iload hx hb dL_ahead_394 (lv_at hl 2 rfl) ?_
    refine lv_icmp_ne (tgt := 421) hx hb dL_ahead_396 (by decide) (fun c_23 => ?_) (fun c_23 => ?_)
    · replace h := ifn c_23 h
      refine lv_iconst (v := (0 : Int32)) hx hb dL_ahead_421 (by decide +kernel) ?_
      exact r_zret X hr hlk hP hS rfl dL_ahead_422 h
    · replace h := ifp c_23 h
      refine lv_aload_n hx hb dL_ahead_399 rfl (lv_at hl 0 rfl) ?_
      obtain ⟨q_24, I_25, hc_26, h⟩ := clP_e h
      refine r_callS (As := [.ref (ga g k0)]) [] X (ccL_now l g hG N _ _ t0 _ _ hc_26) cal_L_now (sc_L_now) k_602 rfl ⟨rfl, rfl⟩ ⟨Nat.le_of_ble_eq_true rfl, Nat.le_of_ble_eq_true rfl⟩ hP hS hl.1 rfl (Nat.le_of_ble_eq_true rfl) dL_ahead_400 ⟨Nat.zero_le _, Nat.zero_le _⟩ (fun H locs hP hS => ?_)
      show W p l e rmL_ahead s m args below meth c H locs 0 0 _ (F0 m 403 ls [.long q_24])
      refine lv_lload_n hx hb dL_ahead_403 rfl (lv_at hl 1 rfl) ?_
      refine W.lcmp hx hb dL_ahead_404 ?_
      refine lv_if_ne (tgt := 421) hx hb dL_ahead_405 (by decide) (fun c_27 => ?_) (fun c_27 => ?_)
      · replace h := ifn c_27 h
        refine lv_iconst (v := (0 : Int32)) hx hb dL_ahead_421 (by decide +kernel) ?_
        exact r_zret X hr hlk hP hS rfl dL_ahead_422 h
      · replace h := ifp c_27 h
        refine lv_aload_n hx hb dL_ahead_408 rfl (lv_at hl 0 rfl) ?_
        obtain ⟨q_28, I_29, hc_30, h⟩ := clP_e h
        refine r_callV (As := []) [] X (c6_undo l g hG N _ _ t0 _ _ hc_30) cal_X6_undo (im_X6_undo) (se_X6_undo) k_590 (tag_lt t0 (by decide)) (by rw [lay, t0]; rfl) rfl rfl ⟨rfl, rfl⟩ ⟨Nat.le_of_ble_eq_true rfl, Nat.le_of_ble_eq_true rfl⟩ hP hS hl.1 rfl (Nat.le_of_ble_eq_true rfl) dL_ahead_409 ⟨Nat.zero_le _, Nat.zero_le _⟩ (fun H locs hP hS => ?_)
        show W p l e rmL_ahead s m args below meth c H locs 0 0 _ (F0 m 412 ls [.int q_28])
        refine lv_bipush (v := (-3 : Int32)) hx hb dL_ahead_412 (by decide +kernel) ?_
        refine lv_icmp_ne (tgt := 421) hx hb dL_ahead_414 (by decide) (fun c_31 => ?_) (fun c_31 => ?_)
        · replace h := ifn c_31 h
          refine lv_iconst (v := (0 : Int32)) hx hb dL_ahead_421 (by decide +kernel) ?_
          exact r_zret X hr hlk hP hS rfl dL_ahead_422 h
        · replace h := ifp c_31 h
          refine lv_iconst (v := (1 : Int32)) hx hb dL_ahead_417 (by decide +kernel) ?_
          refine lv_goto (tgt := 422) hx hb dL_ahead_418 (by decide) ?_
          exact r_zret X hr hlk hP hS rfl dL_ahead_422 h
set_option maxHeartbeats 4000000 in
set_option maxRecDepth 100000 in
theorem LL_ahead_326 (hG : Apart g NT) (N : Nat) (k0 : Nat) (a1 : Int32) (t0 : tag k0 = 5) (X : Cx g p s m args c cL_ahead RL 15) (hr : meth.sig.returnType = (some .boolean)) (hlk : meth.locks = false) (r0 : Int32) (I0 : Mem) : ∀ (cnt : Nat) (I : Mem) (w2 : Int64) (v4 : Int32) (v5 : Int32) (v12 : Int32), fL_ahead_326 N k0 a1 cnt I w2 v4 v5 v12 = some (r0, I0) → ∀ (H : Heap) (locs : List Loc) (ls : Array Slot), Wp g I H → va_S (gA g) s.heap H locs → lv_has ls 15 [(0, .ref (ga g k0)), (2, .long w2), (4, .int v4), (5, .int v5), (12, .int v12)] → W p l e rmL_ahead s m args below meth c H locs 0 0 (MQ below (Qg g (some (.int r0)) I0) args s 0 0 (gA g)) (F0 m 326 ls []) := by
  have hx := X.hx
  have hb := X.hb
  intro cnt
  induction cnt with
  | zero =>
    intro I w2 v4 v5 v12 h
    rw [fL_ahead_326] at h
    cases h
  | succ cnt ih =>
    intro I w2 v4 v5 v12 h H locs ls hP hS hl
    rw [fL_ahead_326] at h
    refine lv_iload hx hb dL_ahead_326 (lv_at hl 3 rfl) ?_
    refine lv_if_eq (tgt := 384) hx hb dL_ahead_328 (by decide) (fun c_54 => ?_) (fun c_54 => ?_)
    · replace h := ifp c_54 h
      exact LL_ahead_384 hG N k0 a1 t0 X hr hlk r0 I0 I w2 v4 v5 h _ _ _ hP hS (lv_sub hl [0, 1, 2, 3] rfl)
    · replace h := ifn c_54 h
      refine lv_aload_n hx hb dL_ahead_331 rfl (lv_at hl 0 rfl) ?_
      obtain ⟨q_55, I_56, hc_57, h⟩ := clP_e h
      refine r_callV (As := []) [] X (c6_queueLength l g hG N _ _ t0 _ _ hc_57) cal_X6_queueLength (im_X6_queueLength) (se_X6_queueLength) k_184 (tag_lt t0 (by decide)) (by rw [lay, t0]; rfl) rfl rfl ⟨rfl, rfl⟩ ⟨Nat.le_of_ble_eq_true rfl, Nat.le_of_ble_eq_true rfl⟩ hP hS hl.1 rfl (Nat.le_of_ble_eq_true rfl) dL_ahead_332 ⟨Nat.zero_le _, Nat.zero_le _⟩ (fun H locs hP hS => ?_)
      show W p l e rmL_ahead s m args below meth c H locs 0 0 _ (F0 m 335 ls [.int q_55])
      refine lv_if_le (tgt := 384) hx hb dL_ahead_335 (by decide) (fun c_58 => ?_) (fun c_58 => ?_)
      · replace h := ifp c_58 h
        exact LL_ahead_384 hG N k0 a1 t0 X hr hlk r0 I0 I_56 w2 v4 v5 h _ _ _ hP hS (lv_sub hl [0, 1, 2, 3] rfl)
      · replace h := ifn c_58 h
        obtain ⟨x_59, ex_59, h⟩ := letM_e h
        refine lv_iinc (v := x_59) (lv' := [(12, .int x_59), (0, .ref (ga g k0)), (2, .long w2), (4, .int v4), (5, .int v5)]) hx hb dL_ahead_338 hl (k := 4) rfl (by rw [ex_59]; rfl) (by decide) rfl (fun ls hl => ?_)
        refine lv_aload_n hx hb dL_ahead_341 rfl (lv_at hl 1 rfl) ?_
        obtain ⟨q_60, I_61, hc_62, h⟩ := clP_e h
        refine r_callV (As := []) [] X (c6_step l g hG N _ _ t0 _ _ hc_62) cal_X6_step (im_X6_step) (se_X6_step) k_485 (tag_lt t0 (by decide)) (by rw [lay, t0]; rfl) rfl rfl ⟨rfl, rfl⟩ ⟨Nat.le_of_ble_eq_true rfl, Nat.le_of_ble_eq_true rfl⟩ hP hS hl.1 rfl (Nat.le_of_ble_eq_true rfl) dL_ahead_342 ⟨Nat.zero_le _, Nat.zero_le _⟩ (fun H locs hP hS => ?_)
        show W p l e rmL_ahead s m args below meth c H locs 0 0 _ (F0 m 345 ls [.int q_60])
        refine lv_if_le (tgt := 378) hx hb dL_ahead_345 (by decide) (fun c_63 => ?_) (fun c_63 => ?_)
        · replace h := ifp c_63 h
          refine lv_iconst (v := (0 : Int32)) hx hb dL_ahead_378 (by decide +kernel) ?_
          refine lv_istore (lv' := [(5, .int (0 : Int32)), (12, .int x_59), (0, .ref (ga g k0)), (2, .long w2), (4, .int v4)]) hx hb dL_ahead_379 hl (by decide) rfl (fun ls hl => ?_)
          refine lv_goto (tgt := 326) hx hb dL_ahead_381 (by decide) ?_
          exact ih I_61 w2 v4 (0 : Int32) x_59 h _ _ _ hP hS (lv_sub hl [2, 3, 4, 0, 1] rfl)
        · replace h := ifn c_63 h
          refine lv_iload hx hb dL_ahead_348 (lv_at hl 0 rfl) ?_
          refine lv_if_ne (tgt := 365) hx hb dL_ahead_350 (by decide) (fun c_64 => ?_) (fun c_64 => ?_)
          · replace h := ifn c_64 h
            refine lv_aload_n hx hb dL_ahead_365 rfl (lv_at hl 1 rfl) ?_
            obtain ⟨q_65, I_66, hc_67, h⟩ := clP_e h
            refine r_callV (As := []) [] X (c6_rampIndex l g hG N _ _ t0 _ _ hc_67) cal_X6_rampIndex (im_X6_rampIndex) (se_X6_rampIndex) k_477 (tag_lt t0 (by decide)) (by rw [lay, t0]; rfl) rfl rfl ⟨rfl, rfl⟩ ⟨Nat.le_of_ble_eq_true rfl, Nat.le_of_ble_eq_true rfl⟩ hP hS hl.1 rfl (Nat.le_of_ble_eq_true rfl) dL_ahead_366 ⟨Nat.zero_le _, Nat.zero_le _⟩ (fun H locs hP hS => ?_)
            show W p l e rmL_ahead s m args below meth c H locs 0 0 _ (F0 m 369 ls [.int q_65])
            refine lv_iload hx hb dL_ahead_369 (lv_at hl 0 rfl) ?_
            refine lv_icmp_ne (tgt := 378) hx hb dL_ahead_371 (by decide) (fun c_68 => ?_) (fun c_68 => ?_)
            · replace h := ifn c_68 h
              refine lv_iconst (v := (0 : Int32)) hx hb dL_ahead_378 (by decide +kernel) ?_
              refine lv_istore (lv' := [(5, .int (0 : Int32)), (12, .int x_59), (0, .ref (ga g k0)), (2, .long w2), (4, .int v4)]) hx hb dL_ahead_379 hl (by decide) rfl (fun ls hl => ?_)
              refine lv_goto (tgt := 326) hx hb dL_ahead_381 (by decide) ?_
              exact ih I_66 w2 v4 (0 : Int32) x_59 h _ _ _ hP hS (lv_sub hl [2, 3, 4, 0, 1] rfl)
            · replace h := ifp c_68 h
              refine lv_iconst (v := (1 : Int32)) hx hb dL_ahead_374 (by decide +kernel) ?_
              refine lv_goto (tgt := 379) hx hb dL_ahead_375 (by decide) ?_
              refine lv_istore (lv' := [(5, .int (1 : Int32)), (12, .int x_59), (0, .ref (ga g k0)), (2, .long w2), (4, .int v4)]) hx hb dL_ahead_379 hl (by decide) rfl (fun ls hl => ?_)
              refine lv_goto (tgt := 326) hx hb dL_ahead_381 (by decide) ?_
              exact ih I_66 w2 v4 (1 : Int32) x_59 h _ _ _ hP hS (lv_sub hl [2, 3, 4, 0, 1] rfl)
          · replace h := ifp c_64 h
            refine lv_aload_n hx hb dL_ahead_353 rfl (lv_at hl 1 rfl) ?_
            obtain ⟨q_69, I_70, hc_71, h⟩ := clP_e h
            refine r_callV (As := []) [] X (c6_rampIndex l g hG N _ _ t0 _ _ hc_71) cal_X6_rampIndex (im_X6_rampIndex) (se_X6_rampIndex) k_477 (tag_lt t0 (by decide)) (by rw [lay, t0]; rfl) rfl rfl ⟨rfl, rfl⟩ ⟨Nat.le_of_ble_eq_true rfl, Nat.le_of_ble_eq_true rfl⟩ hP hS hl.1 rfl (Nat.le_of_ble_eq_true rfl) dL_ahead_354 ⟨Nat.zero_le _, Nat.zero_le _⟩ (fun H locs hP hS => ?_)
            show W p l e rmL_ahead s m args below meth c H locs 0 0 _ (F0 m 357 ls [.int q_69])
            refine lv_bipush (v := (-9 : Int32)) hx hb dL_ahead_357 (by decide +kernel) ?_
            refine lv_icmp_ne (tgt := 378) hx hb dL_ahead_359 (by decide) (fun c_72 => ?_) (fun c_72 => ?_)
            · replace h := ifn c_72 h
              refine lv_iconst (v := (0 : Int32)) hx hb dL_ahead_378 (by decide +kernel) ?_
              refine lv_istore (lv' := [(5, .int (0 : Int32)), (12, .int x_59), (0, .ref (ga g k0)), (2, .long w2), (4, .int v4)]) hx hb dL_ahead_379 hl (by decide) rfl (fun ls hl => ?_)
              refine lv_goto (tgt := 326) hx hb dL_ahead_381 (by decide) ?_
              exact ih I_70 w2 v4 (0 : Int32) x_59 h _ _ _ hP hS (lv_sub hl [2, 3, 4, 0, 1] rfl)
            · replace h := ifp c_72 h
              refine lv_goto (tgt := 374) hx hb dL_ahead_362 (by decide) ?_
              refine lv_iconst (v := (1 : Int32)) hx hb dL_ahead_374 (by decide +kernel) ?_
              refine lv_goto (tgt := 379) hx hb dL_ahead_375 (by decide) ?_
              refine lv_istore (lv' := [(5, .int (1 : Int32)), (12, .int x_59), (0, .ref (ga g k0)), (2, .long w2), (4, .int v4)]) hx hb dL_ahead_379 hl (by decide) rfl (fun ls hl => ?_)
              refine lv_goto (tgt := 326) hx hb dL_ahead_381 (by decide) ?_
              exact ih I_70 w2 v4 (1 : Int32) x_59 h _ _ _ hP hS (lv_sub hl [2, 3, 4, 0, 1] rfl)
set_option maxHeartbeats 4000000 in
set_option maxRecDepth 100000 in
theorem LL_ahead_324 (hG : Apart g NT) (N : Nat) (k0 : Nat) (a1 : Int32) (t0 : tag k0 = 5) (X : Cx g p s m args c cL_ahead RL 15) (hr : meth.sig.returnType = (some .boolean)) (hlk : meth.locks = false) (r0 : Int32) (I0 : Mem) : ∀ (I : Mem) (w2 : Int64) (v4 : Int32) (v12 : Int32) (s0 : Int32), fL_ahead_324 N k0 a1 I w2 v4 v12 s0 = some (r0, I0) → ∀ (H : Heap) (locs : List Loc) (ls : Array Slot), Wp g I H → va_S (gA g) s.heap H locs → lv_has ls 15 [(0, .ref (ga g k0)), (2, .long w2), (4, .int v4), (12, .int v12)] → W p l e rmL_ahead s m args below meth c H locs 0 0 (MQ below (Qg g (some (.int r0)) I0) args s 0 0 (gA g)) (F0 m 324 ls [.int s0]) := by
  have hx := X.hx
  have hb := X.hb
  intro I w2 v4 v12 s0 h H locs ls hP hS hl
  unfold fL_ahead_324 at h
  refine lv_istore (lv' := [(5, .int s0), (0, .ref (ga g k0)), (2, .long w2), (4, .int v4), (12, .int v12)]) hx hb dL_ahead_324 hl (by decide) rfl (fun ls hl => ?_)
  exact LL_ahead_326 hG N k0 a1 t0 X hr hlk r0 I0 N I w2 v4 s0 v12 h _ _ _ hP hS (lv_sub hl [1, 2, 3, 0, 4] rfl)
set_option maxHeartbeats 4000000 in
set_option maxRecDepth 100000 in
theorem LL_ahead_323 (hG : Apart g NT) (N : Nat) (k0 : Nat) (a1 : Int32) (t0 : tag k0 = 5) (X : Cx g p s m args c cL_ahead RL 15) (hr : meth.sig.returnType = (some .boolean)) (hlk : meth.locks = false) (r0 : Int32) (I0 : Mem) : ∀ (I : Mem) (w2 : Int64) (v4 : Int32) (v12 : Int32), fL_ahead_323 N k0 a1 I w2 v4 v12 = some (r0, I0) → ∀ (H : Heap) (locs : List Loc) (ls : Array Slot), Wp g I H → va_S (gA g) s.heap H locs → lv_has ls 15 [(0, .ref (ga g k0)), (2, .long w2), (4, .int v4), (12, .int v12)] → W p l e rmL_ahead s m args below meth c H locs 0 0 (MQ below (Qg g (some (.int r0)) I0) args s 0 0 (gA g)) (F0 m 323 ls []) := by
  have hx := X.hx
  have hb := X.hb
  intro I w2 v4 v12 h H locs ls hP hS hl
  unfold fL_ahead_323 at h
  refine lv_iconst (v := (0 : Int32)) hx hb dL_ahead_323 (by decide +kernel) ?_
  exact LL_ahead_324 hG N k0 a1 t0 X hr hlk r0 I0 I w2 v4 v12 (0 : Int32) h _ _ _ hP hS (lv_sub hl [0, 1, 2, 3] rfl)
set_option maxHeartbeats 4000000 in
set_option maxRecDepth 100000 in
theorem LL_ahead_319 (hG : Apart g NT) (N : Nat) (k0 : Nat) (a1 : Int32) (t0 : tag k0 = 5) (X : Cx g p s m args c cL_ahead RL 15) (hr : meth.sig.returnType = (some .boolean)) (hlk : meth.locks = false) (r0 : Int32) (I0 : Mem) : ∀ (I : Mem) (w2 : Int64) (v4 : Int32) (v12 : Int32), fL_ahead_319 N k0 a1 I w2 v4 v12 = some (r0, I0) → ∀ (H : Heap) (locs : List Loc) (ls : Array Slot), Wp g I H → va_S (gA g) s.heap H locs → lv_has ls 15 [(0, .ref (ga g k0)), (2, .long w2), (4, .int v4), (12, .int v12)] → W p l e rmL_ahead s m args below meth c H locs 0 0 (MQ below (Qg g (some (.int r0)) I0) args s 0 0 (gA g)) (F0 m 319 ls []) := by
  have hx := X.hx
  have hb := X.hb
  intro I w2 v4 v12 h H locs ls hP hS hl
  unfold fL_ahead_319 at h
  refine lv_iconst (v := (1 : Int32)) hx hb dL_ahead_319 (by decide +kernel) ?_
  refine lv_goto (tgt := 324) hx hb dL_ahead_320 (by decide) ?_
  exact LL_ahead_324 hG N k0 a1 t0 X hr hlk r0 I0 I w2 v4 v12 (1 : Int32) h _ _ _ hP hS (lv_sub hl [0, 1, 2, 3] rfl)
set_option maxHeartbeats 4000000 in
set_option maxRecDepth 100000 in
theorem LL_ahead_248 (hG : Apart g NT) (N : Nat) (k0 : Nat) (a1 : Int32) (t0 : tag k0 = 5) (X : Cx g p s m args c cL_ahead RL 15) (hr : meth.sig.returnType = (some .boolean)) (hlk : meth.locks = false) (r0 : Int32) (I0 : Mem) : ∀ (I : Mem) (w2 : Int64) (v4 : Int32) (v5 : Int32), fL_ahead_248 N k0 a1 I w2 v4 v5 = some (r0, I0) → ∀ (H : Heap) (locs : List Loc) (ls : Array Slot), Wp g I H → va_S (gA g) s.heap H locs → lv_has ls 15 [(0, .ref (ga g k0)), (2, .long w2), (4, .int v4), (5, .int v5)] → W p l e rmL_ahead s m args below meth c H locs 0 0 (MQ below (Qg g (some (.int r0)) I0) args s 0 0 (gA g)) (F0 m 248 ls []) := by
  have hx := X.hx
  have hb := X.hb
  intro I w2 v4 v5 h H locs ls hP hS hl
  unfold fL_ahead_248 at h
  refine lv_iload hx hb dL_ahead_248 (lv_at hl 3 rfl) ?_
  refine lv_if_eq (tgt := 384) hx hb dL_ahead_250 (by decide) (fun c_42 => ?_) (fun c_42 => ?_)
  · replace h := ifp c_42 h
    exact LL_ahead_384 hG N k0 a1 t0 X hr hlk r0 I0 I w2 v4 v5 h _ _ _ hP hS (lv_sub hl [0, 1, 2, 3] rfl)
  · replace h := ifn c_42 h
    refine lv_aload_n hx hb dL_ahead_253 rfl (lv_at hl 0 rfl) ?_
    obtain ⟨q_43, I_44, hc_45, h⟩ := clP_e h
    refine r_callV (As := []) [] X (c6_rampIndex l g hG N _ _ t0 _ _ hc_45) cal_X6_rampIndex (im_X6_rampIndex) (se_X6_rampIndex) k_477 (tag_lt t0 (by decide)) (by rw [lay, t0]; rfl) rfl rfl ⟨rfl, rfl⟩ ⟨Nat.le_of_ble_eq_true rfl, Nat.le_of_ble_eq_true rfl⟩ hP hS hl.1 rfl (Nat.le_of_ble_eq_true rfl) dL_ahead_254 ⟨Nat.zero_le _, Nat.zero_le _⟩ (fun H locs hP hS => ?_)
    show W p l e rmL_ahead s m args below meth c H locs 0 0 _ (F0 m 257 ls [.int q_43])
    refine lv_bipush (v := (-9 : Int32)) hx hb dL_ahead_257 (by decide +kernel) ?_
    refine lv_icmp_eq (tgt := 384) hx hb dL_ahead_259 (by decide) (fun c_46 => ?_) (fun c_46 => ?_)
    · replace h := ifp c_46 h
      exact LL_ahead_384 hG N k0 a1 t0 X hr hlk r0 I0 I_44 w2 v4 v5 h _ _ _ hP hS (lv_sub hl [0, 1, 2, 3] rfl)
    · replace h := ifn c_46 h
      refine lv_aload_n hx hb dL_ahead_262 rfl (lv_at hl 0 rfl) ?_
      obtain ⟨q_47, I_48, hc_49, h⟩ := clP_e h
      refine r_callV (As := []) [] X (c6_rampIndex l g hG N _ _ t0 _ _ hc_49) cal_X6_rampIndex (im_X6_rampIndex) (se_X6_rampIndex) k_477 (tag_lt t0 (by decide)) (by rw [lay, t0]; rfl) rfl rfl ⟨rfl, rfl⟩ ⟨Nat.le_of_ble_eq_true rfl, Nat.le_of_ble_eq_true rfl⟩ hP hS hl.1 rfl (Nat.le_of_ble_eq_true rfl) dL_ahead_263 ⟨Nat.zero_le _, Nat.zero_le _⟩ (fun H locs hP hS => ?_)
      show W p l e rmL_ahead s m args below meth c H locs 0 0 _ (F0 m 266 ls [.int q_47])
      refine lv_istore (lv' := [(12, .int q_47), (0, .ref (ga g k0)), (2, .long w2), (4, .int v4), (5, .int v5)]) hx hb dL_ahead_266 hl (by decide) rfl (fun ls hl => ?_)
      refine lv_aload_n hx hb dL_ahead_268 rfl (lv_at hl 1 rfl) ?_
      obtain ⟨q_50, I_51, hc_52, h⟩ := clP_e h
      refine r_callV (As := []) [] X (c6_stop l g hG N _ _ t0 _ _ hc_52) cal_X6_stop (im_X6_stop) (se_X6_stop) k_481 (tag_lt t0 (by decide)) (by rw [lay, t0]; rfl) rfl rfl ⟨rfl, rfl⟩ ⟨Nat.le_of_ble_eq_true rfl, Nat.le_of_ble_eq_true rfl⟩ hP hS hl.1 rfl (Nat.le_of_ble_eq_true rfl) dL_ahead_269 ⟨Nat.zero_le _, Nat.zero_le _⟩ (fun H locs hP hS => ?_)
      show W p l e rmL_ahead s m args below meth c H locs 0 0 _ (F0 m 272 ls [.int q_50])
      refine lv_iload hx hb dL_ahead_272 (lv_at hl 0 rfl) ?_
      refine lv_icmp_ne (tgt := 323) hx hb dL_ahead_274 (by decide) (fun c_53 => ?_) (fun c_53 => ?_)
      · replace h := ifn c_53 h
        exact LL_ahead_323 hG N k0 a1 t0 X hr hlk r0 I0 I_51 w2 v4 q_47 h _ _ _ hP hS (lv_sub hl [1, 2, 3, 0] rfl)
      · replace h := ifp c_53 h
        refine lv_iload hx hb dL_ahead_277 (lv_at hl 0 rfl) ?_
        refine lv_if_ne (tgt := 301) hx hb dL_ahead_279 (by decide) (fun c_73 => ?_) (fun c_73 => ?_)
        · replace h := ifn c_73 h
          refine lv_aload_n hx hb dL_ahead_301 rfl (lv_at hl 1 rfl) ?_
          refine lv_iconst (v := (0 : Int32)) hx hb dL_ahead_302 (by decide +kernel) ?_
          obtain ⟨q_74, I_75, hc_76, h⟩ := clP_e h
          refine r_callV (As := [.int (0 : Int32)]) [] X (c6_itemAt l g hG N _ _ _ t0 _ _ hc_76) cal_X6_itemAt (im_X6_itemAt) (se_X6_itemAt) k_208 (tag_lt t0 (by decide)) (by rw [lay, t0]; rfl) rfl rfl ⟨rfl, rfl⟩ ⟨Nat.le_of_ble_eq_true rfl, Nat.le_of_ble_eq_true rfl⟩ hP hS hl.1 rfl (Nat.le_of_ble_eq_true rfl) dL_ahead_303 ⟨Nat.zero_le _, Nat.zero_le _⟩ (fun H locs hP hS => ?_)
          show W p l e rmL_ahead s m args below meth c H locs 0 0 _ (F0 m 306 ls [.int q_74])
          refine lv_iload hx hb dL_ahead_306 (lv_at hl 0 rfl) ?_
          refine lv_icmp_ne (tgt := 323) hx hb dL_ahead_308 (by decide) (fun c_77 => ?_) (fun c_77 => ?_)
          · replace h := ifn c_77 h
            exact LL_ahead_323 hG N k0 a1 t0 X hr hlk r0 I0 I_75 w2 v4 q_47 h _ _ _ hP hS (lv_sub hl [1, 2, 3, 0] rfl)
          · replace h := ifp c_77 h
            refine lv_aload_n hx hb dL_ahead_311 rfl (lv_at hl 1 rfl) ?_
            obtain ⟨q_78, I_79, hc_80, h⟩ := clP_e h
            refine r_callV (As := []) [] X (c6_queueLength l g hG N _ _ t0 _ _ hc_80) cal_X6_queueLength (im_X6_queueLength) (se_X6_queueLength) k_184 (tag_lt t0 (by decide)) (by rw [lay, t0]; rfl) rfl rfl ⟨rfl, rfl⟩ ⟨Nat.le_of_ble_eq_true rfl, Nat.le_of_ble_eq_true rfl⟩ hP hS hl.1 rfl (Nat.le_of_ble_eq_true rfl) dL_ahead_312 ⟨Nat.zero_le _, Nat.zero_le _⟩ (fun H locs hP hS => ?_)
            show W p l e rmL_ahead s m args below meth c H locs 0 0 _ (F0 m 315 ls [.int q_78])
            refine lv_iconst (v := (1 : Int32)) hx hb dL_ahead_315 (by decide +kernel) ?_
            refine lv_icmp_ne (tgt := 323) hx hb dL_ahead_316 (by decide) (fun c_81 => ?_) (fun c_81 => ?_)
            · replace h := ifn c_81 h
              exact LL_ahead_323 hG N k0 a1 t0 X hr hlk r0 I0 I_79 w2 v4 q_47 h _ _ _ hP hS (lv_sub hl [1, 2, 3, 0] rfl)
            · replace h := ifp c_81 h
              exact LL_ahead_319 hG N k0 a1 t0 X hr hlk r0 I0 I_79 w2 v4 q_47 h _ _ _ hP hS (lv_sub hl [1, 2, 3, 0] rfl)
        · replace h := ifp c_73 h
          refine lv_aload_n hx hb dL_ahead_282 rfl (lv_at hl 1 rfl) ?_
          obtain ⟨q_82, I_83, hc_84, h⟩ := clP_e h
          refine r_callV (As := []) [] X (c6_rampIndex l g hG N _ _ t0 _ _ hc_84) cal_X6_rampIndex (im_X6_rampIndex) (se_X6_rampIndex) k_477 (tag_lt t0 (by decide)) (by rw [lay, t0]; rfl) rfl rfl ⟨rfl, rfl⟩ ⟨Nat.le_of_ble_eq_true rfl, Nat.le_of_ble_eq_true rfl⟩ hP hS hl.1 rfl (Nat.le_of_ble_eq_true rfl) dL_ahead_283 ⟨Nat.zero_le _, Nat.zero_le _⟩ (fun H locs hP hS => ?_)
          show W p l e rmL_ahead s m args below meth c H locs 0 0 _ (F0 m 286 ls [.int q_82])
          refine lv_bipush (v := (-9 : Int32)) hx hb dL_ahead_286 (by decide +kernel) ?_
          refine lv_icmp_ne (tgt := 323) hx hb dL_ahead_288 (by decide) (fun c_85 => ?_) (fun c_85 => ?_)
          · replace h := ifn c_85 h
            exact LL_ahead_323 hG N k0 a1 t0 X hr hlk r0 I0 I_83 w2 v4 q_47 h _ _ _ hP hS (lv_sub hl [1, 2, 3, 0] rfl)
          · replace h := ifp c_85 h
            refine lv_aload_n hx hb dL_ahead_291 rfl (lv_at hl 1 rfl) ?_
            obtain ⟨q_86, I_87, hc_88, h⟩ := clP_e h
            refine r_callV (As := []) [] X (c6_queueLength l g hG N _ _ t0 _ _ hc_88) cal_X6_queueLength (im_X6_queueLength) (se_X6_queueLength) k_184 (tag_lt t0 (by decide)) (by rw [lay, t0]; rfl) rfl rfl ⟨rfl, rfl⟩ ⟨Nat.le_of_ble_eq_true rfl, Nat.le_of_ble_eq_true rfl⟩ hP hS hl.1 rfl (Nat.le_of_ble_eq_true rfl) dL_ahead_292 ⟨Nat.zero_le _, Nat.zero_le _⟩ (fun H locs hP hS => ?_)
            show W p l e rmL_ahead s m args below meth c H locs 0 0 _ (F0 m 295 ls [.int q_86])
            refine lv_if_ne (tgt := 323) hx hb dL_ahead_295 (by decide) (fun c_89 => ?_) (fun c_89 => ?_)
            · replace h := ifn c_89 h
              exact LL_ahead_323 hG N k0 a1 t0 X hr hlk r0 I0 I_87 w2 v4 q_47 h _ _ _ hP hS (lv_sub hl [1, 2, 3, 0] rfl)
            · replace h := ifp c_89 h
              refine lv_goto (tgt := 319) hx hb dL_ahead_298 (by decide) ?_
              exact LL_ahead_319 hG N k0 a1 t0 X hr hlk r0 I0 I_87 w2 v4 q_47 h _ _ _ hP hS (lv_sub hl [1, 2, 3, 0] rfl)
set_option maxHeartbeats 4000000 in
set_option maxRecDepth 100000 in
theorem LL_ahead_169 (hG : Apart g NT) (N : Nat) (k0 : Nat) (a1 : Int32) (t0 : tag k0 = 5) (X : Cx g p s m args c cL_ahead RL 15) (hr : meth.sig.returnType = (some .boolean)) (hlk : meth.locks = false) (r0 : Int32) (I0 : Mem) : ∀ (cnt : Nat) (I : Mem) (w2 : Int64) (v4 : Int32) (v5 : Int32) (v11 : Int32), fL_ahead_169 N k0 a1 cnt I w2 v4 v5 v11 = some (r0, I0) → ∀ (H : Heap) (locs : List Loc) (ls : Array Slot), Wp g I H → va_S (gA g) s.heap H locs → lv_has ls 15 [(0, .ref (ga g k0)), (2, .long w2), (4, .int v4), (5, .int v5), (11, .int v11)] → W p l e rmL_ahead s m args below meth c H locs 0 0 (MQ below (Qg g (some (.int r0)) I0) args s 0 0 (gA g)) (F0 m 169 ls []) := by
  have hx := X.hx
  have hb := X.hb
  intro cnt
  induction cnt with
  | zero =>
    intro I w2 v4 v5 v11 h
    rw [fL_ahead_169] at h
    cases h
  | succ cnt ih =>
    intro I w2 v4 v5 v11 h H locs ls hP hS hl
    rw [fL_ahead_169] at h
    refine lv_iload hx hb dL_ahead_169 (lv_at hl 3 rfl) ?_
    refine lv_if_eq (tgt := 248) hx hb dL_ahead_171 (by decide) (fun c_41 => ?_) (fun c_41 => ?_)
    · replace h := ifp c_41 h
      exact LL_ahead_248 hG N k0 a1 t0 X hr hlk r0 I0 I w2 v4 v5 h _ _ _ hP hS (lv_sub hl [0, 1, 2, 3] rfl)
    · replace h := ifn c_41 h
      refine lv_iload hx hb dL_ahead_174 (lv_at hl 4 rfl) ?_
      refine lv_bipush (v := (9 : Int32)) hx hb dL_ahead_176 (by decide +kernel) ?_
      refine lv_icmp_ge (tgt := 248) hx hb dL_ahead_178 (by decide) (fun c_90 => ?_) (fun c_90 => ?_)
      · replace h := ifp c_90 h
        exact LL_ahead_248 hG N k0 a1 t0 X hr hlk r0 I0 I w2 v4 v5 h _ _ _ hP hS (lv_sub hl [0, 1, 2, 3] rfl)
      · replace h := ifn c_90 h
        refine lv_aload_n hx hb dL_ahead_181 rfl (lv_at hl 0 rfl) ?_
        obtain ⟨q_91, I_92, hc_93, h⟩ := clP_e h
        refine r_callV (As := []) [] X (c6_queueLength l g hG N _ _ t0 _ _ hc_93) cal_X6_queueLength (im_X6_queueLength) (se_X6_queueLength) k_184 (tag_lt t0 (by decide)) (by rw [lay, t0]; rfl) rfl rfl ⟨rfl, rfl⟩ ⟨Nat.le_of_ble_eq_true rfl, Nat.le_of_ble_eq_true rfl⟩ hP hS hl.1 rfl (Nat.le_of_ble_eq_true rfl) dL_ahead_182 ⟨Nat.zero_le _, Nat.zero_le _⟩ (fun H locs hP hS => ?_)
        show W p l e rmL_ahead s m args below meth c H locs 0 0 _ (F0 m 185 ls [.int q_91])
        refine lv_if_le (tgt := 248) hx hb dL_ahead_185 (by decide) (fun c_94 => ?_) (fun c_94 => ?_)
        · replace h := ifp c_94 h
          exact LL_ahead_248 hG N k0 a1 t0 X hr hlk r0 I0 I_92 w2 v4 v5 h _ _ _ hP hS (lv_sub hl [0, 1, 2, 3] rfl)
        · replace h := ifn c_94 h
          refine lv_aload_n hx hb dL_ahead_188 rfl (lv_at hl 0 rfl) ?_
          obtain ⟨q_95, I_96, hc_97, h⟩ := clP_e h
          refine r_callV (As := []) [] X (c6_clock l g hG N _ _ t0 _ _ hc_97) cal_X6_clock (im_X6_clock) (se_X6_clock) k_605 (tag_lt t0 (by decide)) (by rw [lay, t0]; rfl) rfl rfl ⟨rfl, rfl⟩ ⟨Nat.le_of_ble_eq_true rfl, Nat.le_of_ble_eq_true rfl⟩ hP hS hl.1 rfl (Nat.le_of_ble_eq_true rfl) dL_ahead_189 ⟨Nat.zero_le _, Nat.zero_le _⟩ (fun H locs hP hS => ?_)
          show W p l e rmL_ahead s m args below meth c H locs 0 0 _ (F0 m 192 ls [.int q_95])
          refine lv_istore (lv' := [(12, .int q_95), (0, .ref (ga g k0)), (2, .long w2), (4, .int v4), (5, .int v5), (11, .int v11)]) hx hb dL_ahead_192 hl (by decide) rfl (fun ls hl => ?_)
          refine lv_aload_n hx hb dL_ahead_194 rfl (lv_at hl 1 rfl) ?_
          obtain ⟨q_98, I_99, hc_100, h⟩ := clP_e h
          refine r_callV (As := []) [] X (c6_ticksLeft l g hG N _ _ t0 _ _ hc_100) cal_X6_ticksLeft (im_X6_ticksLeft) (se_X6_ticksLeft) k_489 (tag_lt t0 (by decide)) (by rw [lay, t0]; rfl) rfl rfl ⟨rfl, rfl⟩ ⟨Nat.le_of_ble_eq_true rfl, Nat.le_of_ble_eq_true rfl⟩ hP hS hl.1 rfl (Nat.le_of_ble_eq_true rfl) dL_ahead_195 ⟨Nat.zero_le _, Nat.zero_le _⟩ (fun H locs hP hS => ?_)
          show W p l e rmL_ahead s m args below meth c H locs 0 0 _ (F0 m 198 ls [.int q_98])
          refine lv_istore (lv' := [(13, .int q_98), (12, .int q_95), (0, .ref (ga g k0)), (2, .long w2), (4, .int v4), (5, .int v5), (11, .int v11)]) hx hb dL_ahead_198 hl (by decide) rfl (fun ls hl => ?_)
          refine lv_aload_n hx hb dL_ahead_200 rfl (lv_at hl 2 rfl) ?_
          obtain ⟨q_101, I_102, hc_103, h⟩ := clP_e h
          refine r_callV (As := []) [] X (c6_step l g hG N _ _ t0 _ _ hc_103) cal_X6_step (im_X6_step) (se_X6_step) k_485 (tag_lt t0 (by decide)) (by rw [lay, t0]; rfl) rfl rfl ⟨rfl, rfl⟩ ⟨Nat.le_of_ble_eq_true rfl, Nat.le_of_ble_eq_true rfl⟩ hP hS hl.1 rfl (Nat.le_of_ble_eq_true rfl) dL_ahead_201 ⟨Nat.zero_le _, Nat.zero_le _⟩ (fun H locs hP hS => ?_)
          show W p l e rmL_ahead s m args below meth c H locs 0 0 _ (F0 m 204 ls [.int q_101])
          refine lv_istore (lv' := [(14, .int q_101), (13, .int q_98), (12, .int q_95), (0, .ref (ga g k0)), (2, .long w2), (4, .int v4), (5, .int v5), (11, .int v11)]) hx hb dL_ahead_204 hl (by decide) rfl (fun ls hl => ?_)
          refine lv_iload hx hb dL_ahead_206 (lv_at hl 0 rfl) ?_
          refine lv_if_le (tgt := 239) hx hb dL_ahead_208 (by decide) (fun c_104 => ?_) (fun c_104 => ?_)
          · replace h := ifp c_104 h
            refine lv_iconst (v := (0 : Int32)) hx hb dL_ahead_239 (by decide +kernel) ?_
            refine lv_istore (lv' := [(5, .int (0 : Int32)), (14, .int q_101), (13, .int q_98), (12, .int q_95), (0, .ref (ga g k0)), (2, .long w2), (4, .int v4), (11, .int v11)]) hx hb dL_ahead_240 hl (by decide) rfl (fun ls hl => ?_)
            obtain ⟨x_105, ex_105, h⟩ := letM_e h
            refine lv_iinc (v := x_105) (lv' := [(11, .int x_105), (5, .int (0 : Int32)), (14, .int q_101), (13, .int q_98), (12, .int q_95), (0, .ref (ga g k0)), (2, .long w2), (4, .int v4)]) hx hb dL_ahead_242 hl (k := 7) rfl (by rw [ex_105]; rfl) (by decide) rfl (fun ls hl => ?_)
            refine lv_goto (tgt := 169) hx hb dL_ahead_245 (by decide) ?_
            exact ih I_102 w2 v4 (0 : Int32) x_105 h _ _ _ hP hS (lv_sub hl [5, 6, 7, 1, 0] rfl)
          · replace h := ifn c_104 h
            refine lv_aload_n hx hb dL_ahead_211 rfl (lv_at hl 3 rfl) ?_
            obtain ⟨q_106, I_107, hc_108, h⟩ := clP_e h
            refine r_callV (As := []) [] X (c6_clock l g hG N _ _ t0 _ _ hc_108) cal_X6_clock (im_X6_clock) (se_X6_clock) k_605 (tag_lt t0 (by decide)) (by rw [lay, t0]; rfl) rfl rfl ⟨rfl, rfl⟩ ⟨Nat.le_of_ble_eq_true rfl, Nat.le_of_ble_eq_true rfl⟩ hP hS hl.1 rfl (Nat.le_of_ble_eq_true rfl) dL_ahead_212 ⟨Nat.zero_le _, Nat.zero_le _⟩ (fun H locs hP hS => ?_)
            show W p l e rmL_ahead s m args below meth c H locs 0 0 _ (F0 m 215 ls [.int q_106])
            refine lv_iload hx hb dL_ahead_215 (lv_at hl 2 rfl) ?_
            refine lv_iload hx hb dL_ahead_217 (lv_at hl 0 rfl) ?_
            refine lv_iadd hx hb dL_ahead_219 ?_
            refine lv_icmp_ne (tgt := 239) hx hb dL_ahead_220 (by decide) (fun c_109 => ?_) (fun c_109 => ?_)
            · replace h := ifn c_109 h
              refine lv_iconst (v := (0 : Int32)) hx hb dL_ahead_239 (by decide +kernel) ?_
              refine lv_istore (lv' := [(5, .int (0 : Int32)), (14, .int q_101), (13, .int q_98), (12, .int q_95), (0, .ref (ga g k0)), (2, .long w2), (4, .int v4), (11, .int v11)]) hx hb dL_ahead_240 hl (by decide) rfl (fun ls hl => ?_)
              obtain ⟨x_110, ex_110, h⟩ := letM_e h
              refine lv_iinc (v := x_110) (lv' := [(11, .int x_110), (5, .int (0 : Int32)), (14, .int q_101), (13, .int q_98), (12, .int q_95), (0, .ref (ga g k0)), (2, .long w2), (4, .int v4)]) hx hb dL_ahead_242 hl (k := 7) rfl (by rw [ex_110]; rfl) (by decide) rfl (fun ls hl => ?_)
              refine lv_goto (tgt := 169) hx hb dL_ahead_245 (by decide) ?_
              exact ih I_107 w2 v4 (0 : Int32) x_110 h _ _ _ hP hS (lv_sub hl [5, 6, 7, 1, 0] rfl)
            · replace h := ifp c_109 h
              refine lv_aload_n hx hb dL_ahead_223 rfl (lv_at hl 3 rfl) ?_
              obtain ⟨q_111, I_112, hc_113, h⟩ := clP_e h
              refine r_callV (As := []) [] X (c6_ticksLeft l g hG N _ _ t0 _ _ hc_113) cal_X6_ticksLeft (im_X6_ticksLeft) (se_X6_ticksLeft) k_489 (tag_lt t0 (by decide)) (by rw [lay, t0]; rfl) rfl rfl ⟨rfl, rfl⟩ ⟨Nat.le_of_ble_eq_true rfl, Nat.le_of_ble_eq_true rfl⟩ hP hS hl.1 rfl (Nat.le_of_ble_eq_true rfl) dL_ahead_224 ⟨Nat.zero_le _, Nat.zero_le _⟩ (fun H locs hP hS => ?_)
              show W p l e rmL_ahead s m args below meth c H locs 0 0 _ (F0 m 227 ls [.int q_111])
              refine lv_iload hx hb dL_ahead_227 (lv_at hl 1 rfl) ?_
              refine lv_iload hx hb dL_ahead_229 (lv_at hl 0 rfl) ?_
              refine lv_isub hx hb dL_ahead_231 ?_
              refine lv_icmp_ne (tgt := 239) hx hb dL_ahead_232 (by decide) (fun c_114 => ?_) (fun c_114 => ?_)
              · replace h := ifn c_114 h
                refine lv_iconst (v := (0 : Int32)) hx hb dL_ahead_239 (by decide +kernel) ?_
                refine lv_istore (lv' := [(5, .int (0 : Int32)), (14, .int q_101), (13, .int q_98), (12, .int q_95), (0, .ref (ga g k0)), (2, .long w2), (4, .int v4), (11, .int v11)]) hx hb dL_ahead_240 hl (by decide) rfl (fun ls hl => ?_)
                obtain ⟨x_115, ex_115, h⟩ := letM_e h
                refine lv_iinc (v := x_115) (lv' := [(11, .int x_115), (5, .int (0 : Int32)), (14, .int q_101), (13, .int q_98), (12, .int q_95), (0, .ref (ga g k0)), (2, .long w2), (4, .int v4)]) hx hb dL_ahead_242 hl (k := 7) rfl (by rw [ex_115]; rfl) (by decide) rfl (fun ls hl => ?_)
                refine lv_goto (tgt := 169) hx hb dL_ahead_245 (by decide) ?_
                exact ih I_112 w2 v4 (0 : Int32) x_115 h _ _ _ hP hS (lv_sub hl [5, 6, 7, 1, 0] rfl)
              · replace h := ifp c_114 h
                refine lv_iconst (v := (1 : Int32)) hx hb dL_ahead_235 (by decide +kernel) ?_
                refine lv_goto (tgt := 240) hx hb dL_ahead_236 (by decide) ?_
                refine lv_istore (lv' := [(5, .int (1 : Int32)), (14, .int q_101), (13, .int q_98), (12, .int q_95), (0, .ref (ga g k0)), (2, .long w2), (4, .int v4), (11, .int v11)]) hx hb dL_ahead_240 hl (by decide) rfl (fun ls hl => ?_)
                obtain ⟨x_116, ex_116, h⟩ := letM_e h
                refine lv_iinc (v := x_116) (lv' := [(11, .int x_116), (5, .int (1 : Int32)), (14, .int q_101), (13, .int q_98), (12, .int q_95), (0, .ref (ga g k0)), (2, .long w2), (4, .int v4)]) hx hb dL_ahead_242 hl (k := 7) rfl (by rw [ex_116]; rfl) (by decide) rfl (fun ls hl => ?_)
                refine lv_goto (tgt := 169) hx hb dL_ahead_245 (by decide) ?_
                exact ih I_112 w2 v4 (1 : Int32) x_116 h _ _ _ hP hS (lv_sub hl [5, 6, 7, 1, 0] rfl)
set_option maxHeartbeats 4000000 in
set_option maxRecDepth 100000 in
theorem LL_ahead_164 (hG : Apart g NT) (N : Nat) (k0 : Nat) (a1 : Int32) (t0 : tag k0 = 5) (X : Cx g p s m args c cL_ahead RL 15) (hr : meth.sig.returnType = (some .boolean)) (hlk : meth.locks = false) (r0 : Int32) (I0 : Mem) : ∀ (I : Mem) (w2 : Int64) (v4 : Int32) (s0 : Int32), fL_ahead_164 N k0 a1 I w2 v4 s0 = some (r0, I0) → ∀ (H : Heap) (locs : List Loc) (ls : Array Slot), Wp g I H → va_S (gA g) s.heap H locs → lv_has ls 15 [(0, .ref (ga g k0)), (2, .long w2), (4, .int v4)] → W p l e rmL_ahead s m args below meth c H locs 0 0 (MQ below (Qg g (some (.int r0)) I0) args s 0 0 (gA g)) (F0 m 164 ls [.int s0]) := by
  have hx := X.hx
  have hb := X.hb
  intro I w2 v4 s0 h H locs ls hP hS hl
  unfold fL_ahead_164 at h
  refine lv_istore (lv' := [(5, .int s0), (0, .ref (ga g k0)), (2, .long w2), (4, .int v4)]) hx hb dL_ahead_164 hl (by decide) rfl (fun ls hl => ?_)
  refine lv_iconst (v := (0 : Int32)) hx hb dL_ahead_166 (by decide +kernel) ?_
  refine lv_istore (lv' := [(11, .int (0 : Int32)), (5, .int s0), (0, .ref (ga g k0)), (2, .long w2), (4, .int v4)]) hx hb dL_ahead_167 hl (by decide) rfl (fun ls hl => ?_)
  exact LL_ahead_169 hG N k0 a1 t0 X hr hlk r0 I0 N I w2 v4 s0 (0 : Int32) h _ _ _ hP hS (lv_sub hl [2, 3, 4, 1, 0] rfl)
set_option maxHeartbeats 4000000 in
set_option maxRecDepth 100000 in
theorem LL_ahead_163 (hG : Apart g NT) (N : Nat) (k0 : Nat) (a1 : Int32) (t0 : tag k0 = 5) (X : Cx g p s m args c cL_ahead RL 15) (hr : meth.sig.returnType = (some .boolean)) (hlk : meth.locks = false) (r0 : Int32) (I0 : Mem) : ∀ (I : Mem) (w2 : Int64) (v4 : Int32), fL_ahead_163 N k0 a1 I w2 v4 = some (r0, I0) → ∀ (H : Heap) (locs : List Loc) (ls : Array Slot), Wp g I H → va_S (gA g) s.heap H locs → lv_has ls 15 [(0, .ref (ga g k0)), (2, .long w2), (4, .int v4)] → W p l e rmL_ahead s m args below meth c H locs 0 0 (MQ below (Qg g (some (.int r0)) I0) args s 0 0 (gA g)) (F0 m 163 ls []) := by
  have hx := X.hx
  have hb := X.hb
  intro I w2 v4 h H locs ls hP hS hl
  unfold fL_ahead_163 at h
  refine lv_iconst (v := (0 : Int32)) hx hb dL_ahead_163 (by decide +kernel) ?_
  exact LL_ahead_164 hG N k0 a1 t0 X hr hlk r0 I0 I w2 v4 (0 : Int32) h _ _ _ hP hS (lv_sub hl [0, 1, 2] rfl)
set_option maxHeartbeats 4000000 in
set_option maxRecDepth 100000 in
theorem LL_ahead_143 (hG : Apart g NT) (N : Nat) (k0 : Nat) (a1 : Int32) (t0 : tag k0 = 5) (X : Cx g p s m args c cL_ahead RL 15) (hr : meth.sig.returnType = (some .boolean)) (hlk : meth.locks = false) (r0 : Int32) (I0 : Mem) : ∀ (I : Mem) (w2 : Int64) (v4 : Int32), fL_ahead_143 N k0 a1 I w2 v4 = some (r0, I0) → ∀ (H : Heap) (locs : List Loc) (ls : Array Slot), Wp g I H → va_S (gA g) s.heap H locs → lv_has ls 15 [(0, .ref (ga g k0)), (2, .long w2), (4, .int v4)] → W p l e rmL_ahead s m args below meth c H locs 0 0 (MQ below (Qg g (some (.int r0)) I0) args s 0 0 (gA g)) (F0 m 143 ls []) := by
  have hx := X.hx
  have hb := X.hb
  intro I w2 v4 h H locs ls hP hS hl
  unfold fL_ahead_143 at h
  refine lv_aload_n hx hb dL_ahead_143 rfl (lv_at hl 0 rfl) ?_
  obtain ⟨q_133, I_134, hc_135, h⟩ := clP_e h
  refine r_callV (As := []) [] X (c6_undo l g hG N _ _ t0 _ _ hc_135) cal_X6_undo (im_X6_undo) (se_X6_undo) k_590 (tag_lt t0 (by decide)) (by rw [lay, t0]; rfl) rfl rfl ⟨rfl, rfl⟩ ⟨Nat.le_of_ble_eq_true rfl, Nat.le_of_ble_eq_true rfl⟩ hP hS hl.1 rfl (Nat.le_of_ble_eq_true rfl) dL_ahead_144 ⟨Nat.zero_le _, Nat.zero_le _⟩ (fun H locs hP hS => ?_)
  show W p l e rmL_ahead s m args below meth c H locs 0 0 _ (F0 m 147 ls [.int q_133])
  refine lv_if_lt (tgt := 163) hx hb dL_ahead_147 (by decide) (fun c_136 => ?_) (fun c_136 => ?_)
  · replace h := ifp c_136 h
    exact LL_ahead_163 hG N k0 a1 t0 X hr hlk r0 I0 I_134 w2 v4 h _ _ _ hP hS (lv_sub hl [0, 1, 2] rfl)
  · replace h := ifn c_136 h
    refine lv_aload_n hx hb dL_ahead_150 rfl (lv_at hl 0 rfl) ?_
    obtain ⟨q_137, I_138, hc_139, h⟩ := clP_e h
    refine r_callS (As := [.ref (ga g k0)]) [] X (ccL_now l g hG N _ _ t0 _ _ hc_139) cal_L_now (sc_L_now) k_602 rfl ⟨rfl, rfl⟩ ⟨Nat.le_of_ble_eq_true rfl, Nat.le_of_ble_eq_true rfl⟩ hP hS hl.1 rfl (Nat.le_of_ble_eq_true rfl) dL_ahead_151 ⟨Nat.zero_le _, Nat.zero_le _⟩ (fun H locs hP hS => ?_)
    show W p l e rmL_ahead s m args below meth c H locs 0 0 _ (F0 m 154 ls [.long q_137])
    refine lv_lload_n hx hb dL_ahead_154 rfl (lv_at hl 1 rfl) ?_
    refine W.lcmp hx hb dL_ahead_155 ?_
    refine lv_if_ne (tgt := 163) hx hb dL_ahead_156 (by decide) (fun c_140 => ?_) (fun c_140 => ?_)
    · replace h := ifn c_140 h
      exact LL_ahead_163 hG N k0 a1 t0 X hr hlk r0 I0 I_138 w2 v4 h _ _ _ hP hS (lv_sub hl [0, 1, 2] rfl)
    · replace h := ifp c_140 h
      refine lv_iconst (v := (1 : Int32)) hx hb dL_ahead_159 (by decide +kernel) ?_
      refine lv_goto (tgt := 164) hx hb dL_ahead_160 (by decide) ?_
      exact LL_ahead_164 hG N k0 a1 t0 X hr hlk r0 I0 I_138 w2 v4 (1 : Int32) h _ _ _ hP hS (lv_sub hl [0, 1, 2] rfl)
set_option maxHeartbeats 4000000 in
set_option maxRecDepth 100000 in
theorem LL_ahead_26 (hG : Apart g NT) (N : Nat) (k0 : Nat) (a1 : Int32) (t0 : tag k0 = 5) (X : Cx g p s m args c cL_ahead RL 15) (hr : meth.sig.returnType = (some .boolean)) (hlk : meth.locks = false) (r0 : Int32) (I0 : Mem) : ∀ (I : Mem) (w2 : Int64) (v4 : Int32) (s0 : Int32), fL_ahead_26 N k0 a1 I w2 v4 s0 = some (r0, I0) → ∀ (H : Heap) (locs : List Loc) (ls : Array Slot), Wp g I H → va_S (gA g) s.heap H locs → lv_has ls 15 [(0, .ref (ga g k0)), (1, .int a1), (2, .long w2), (4, .int v4)] → W p l e rmL_ahead s m args below meth c H locs 0 0 (MQ below (Qg g (some (.int r0)) I0) args s 0 0 (gA g)) (F0 m 26 ls [.int s0]) := by
  have hx := X.hx
  have hb := X.hb
  intro I w2 v4 s0 h H locs ls hP hS hl
  unfold fL_ahead_26 at h
  refine lv_istore (lv' := [(5, .int s0), (0, .ref (ga g k0)), (1, .int a1), (2, .long w2), (4, .int v4)]) hx hb dL_ahead_26 hl (by decide) rfl (fun ls hl => ?_)
  refine lv_iload_n hx hb dL_ahead_28 rfl (lv_at hl 2 rfl) ?_
  refine lv_sipush (v := (4000 : Int32)) hx hb dL_ahead_29 (by decide +kernel) ?_
  refine lv_irem hx hb dL_ahead_32 (by decide) ?_
  obtain ⟨x_11, ex_11, h⟩ := letM_e h
  refine r_nmi ex_11 ?_
  refine lv_istore (lv' := [(6, .int x_11), (5, .int s0), (0, .ref (ga g k0)), (1, .int a1), (2, .long w2), (4, .int v4)]) hx hb dL_ahead_33 hl (by decide) rfl (fun ls hl => ?_)
  refine lv_aload_n hx hb dL_ahead_35 rfl (lv_at hl 2 rfl) ?_
  refine lv_iconst (v := (0 : Int32)) hx hb dL_ahead_36 (by decide +kernel) ?_
  refine lv_iload hx hb dL_ahead_37 (lv_at hl 0 rfl) ?_
  obtain ⟨q_12, I_13, hc_14, h⟩ := clP_e h
  refine r_callV (As := [.int (0 : Int32), .int x_11]) [] X (c6_positionAfter l g hG N _ _ _ _ t0 _ _ hc_14) cal_X6_positionAfter (im_X6_positionAfter) (se_X6_positionAfter) k_410 (tag_lt t0 (by decide)) (by rw [lay, t0]; rfl) rfl rfl ⟨rfl, rfl⟩ ⟨Nat.le_of_ble_eq_true rfl, Nat.le_of_ble_eq_true rfl⟩ hP hS hl.1 rfl (Nat.le_of_ble_eq_true rfl) dL_ahead_39 ⟨Nat.zero_le _, Nat.zero_le _⟩ (fun H locs hP hS => ?_)
  show W p l e rmL_ahead s m args below meth c H locs 0 0 _ (F0 m 42 ls [.int q_12])
  refine lv_istore (lv' := [(7, .int q_12), (6, .int x_11), (5, .int s0), (0, .ref (ga g k0)), (1, .int a1), (2, .long w2), (4, .int v4)]) hx hb dL_ahead_42 hl (by decide) rfl (fun ls hl => ?_)
  refine lv_aload_n hx hb dL_ahead_44 rfl (lv_at hl 3 rfl) ?_
  refine lv_iconst (v := (1 : Int32)) hx hb dL_ahead_45 (by decide +kernel) ?_
  refine lv_iload hx hb dL_ahead_46 (lv_at hl 1 rfl) ?_
  obtain ⟨q_15, I_16, hc_17, h⟩ := clP_e h
  refine r_callV (As := [.int (1 : Int32), .int x_11]) [] X (c6_positionAfter l g hG N _ _ _ _ t0 _ _ hc_17) cal_X6_positionAfter (im_X6_positionAfter) (se_X6_positionAfter) k_410 (tag_lt t0 (by decide)) (by rw [lay, t0]; rfl) rfl rfl ⟨rfl, rfl⟩ ⟨Nat.le_of_ble_eq_true rfl, Nat.le_of_ble_eq_true rfl⟩ hP hS hl.1 rfl (Nat.le_of_ble_eq_true rfl) dL_ahead_48 ⟨Nat.zero_le _, Nat.zero_le _⟩ (fun H locs hP hS => ?_)
  show W p l e rmL_ahead s m args below meth c H locs 0 0 _ (F0 m 51 ls [.int q_15])
  refine lv_istore (lv' := [(8, .int q_15), (7, .int q_12), (6, .int x_11), (5, .int s0), (0, .ref (ga g k0)), (1, .int a1), (2, .long w2), (4, .int v4)]) hx hb dL_ahead_51 hl (by decide) rfl (fun ls hl => ?_)
  refine lv_iload hx hb dL_ahead_53 (lv_at hl 7 rfl) ?_
  refine lv_if_le (tgt := 384) hx hb dL_ahead_55 (by decide) (fun c_18 => ?_) (fun c_18 => ?_)
  · replace h := ifp c_18 h
    exact LL_ahead_384 hG N k0 a1 t0 X hr hlk r0 I0 I_16 w2 v4 s0 h _ _ _ hP hS (lv_sub hl [4, 6, 7, 3] rfl)
  · replace h := ifn c_18 h
    refine lv_iload hx hb dL_ahead_58 (lv_at hl 2 rfl) ?_
    refine lv_if_le (tgt := 384) hx hb dL_ahead_60 (by decide) (fun c_32 => ?_) (fun c_32 => ?_)
    · replace h := ifp c_32 h
      exact LL_ahead_384 hG N k0 a1 t0 X hr hlk r0 I0 I_16 w2 v4 s0 h _ _ _ hP hS (lv_sub hl [4, 6, 7, 3] rfl)
    · replace h := ifn c_32 h
      refine lv_iload hx hb dL_ahead_63 (lv_at hl 3 rfl) ?_
      refine lv_if_eq (tgt := 384) hx hb dL_ahead_65 (by decide) (fun c_33 => ?_) (fun c_33 => ?_)
      · replace h := ifp c_33 h
        exact LL_ahead_384 hG N k0 a1 t0 X hr hlk r0 I0 I_16 w2 v4 s0 h _ _ _ hP hS (lv_sub hl [4, 6, 7, 3] rfl)
      · replace h := ifn c_33 h
        refine lv_aload_n hx hb dL_ahead_68 rfl (lv_at hl 4 rfl) ?_
        obtain ⟨q_34, I_35, hc_36, h⟩ := clP_e h
        refine r_callV (As := []) [] X (c6_clock l g hG N _ _ t0 _ _ hc_36) cal_X6_clock (im_X6_clock) (se_X6_clock) k_605 (tag_lt t0 (by decide)) (by rw [lay, t0]; rfl) rfl rfl ⟨rfl, rfl⟩ ⟨Nat.le_of_ble_eq_true rfl, Nat.le_of_ble_eq_true rfl⟩ hP hS hl.1 rfl (Nat.le_of_ble_eq_true rfl) dL_ahead_69 ⟨Nat.zero_le _, Nat.zero_le _⟩ (fun H locs hP hS => ?_)
        show W p l e rmL_ahead s m args below meth c H locs 0 0 _ (F0 m 72 ls [.int q_34])
        refine lv_istore (lv' := [(9, .int q_34), (8, .int q_15), (7, .int q_12), (6, .int x_11), (5, .int s0), (0, .ref (ga g k0)), (1, .int a1), (2, .long w2), (4, .int v4)]) hx hb dL_ahead_72 hl (by decide) rfl (fun ls hl => ?_)
        refine lv_aload_n hx hb dL_ahead_74 rfl (lv_at hl 5 rfl) ?_
        refine lv_iload hx hb dL_ahead_75 (lv_at hl 3 rfl) ?_
        obtain ⟨q_37, I_38, hc_39, h⟩ := clP_e h
        refine r_callV (As := [.int x_11]) [] X (c6_run l g hG N _ _ _ t0 _ _ hc_39) cal_X6_run (im_X6_run) (se_X6_run) k_348 (tag_lt t0 (by decide)) (by rw [lay, t0]; rfl) rfl rfl ⟨rfl, rfl⟩ ⟨Nat.le_of_ble_eq_true rfl, Nat.le_of_ble_eq_true rfl⟩ hP hS hl.1 rfl (Nat.le_of_ble_eq_true rfl) dL_ahead_77 ⟨Nat.zero_le _, Nat.zero_le _⟩ (fun H locs hP hS => ?_)
        show W p l e rmL_ahead s m args below meth c H locs 0 0 _ (F0 m 80 ls [.int q_37])
        refine lv_istore (lv' := [(10, .int q_37), (9, .int q_34), (8, .int q_15), (7, .int q_12), (6, .int x_11), (5, .int s0), (0, .ref (ga g k0)), (1, .int a1), (2, .long w2), (4, .int v4)]) hx hb dL_ahead_80 hl (by decide) rfl (fun ls hl => ?_)
        refine lv_iload hx hb dL_ahead_82 (lv_at hl 0 rfl) ?_
        refine lv_if_lt (tgt := 163) hx hb dL_ahead_84 (by decide) (fun c_40 => ?_) (fun c_40 => ?_)
        · replace h := ifp c_40 h
          exact LL_ahead_163 hG N k0 a1 t0 X hr hlk r0 I0 I_38 w2 v4 h _ _ _ hP hS (lv_sub hl [6, 8, 9] rfl)
        · replace h := ifn c_40 h
          refine lv_aload_n hx hb dL_ahead_87 rfl (lv_at hl 6 rfl) ?_
          refine lv_iconst (v := (0 : Int32)) hx hb dL_ahead_88 (by decide +kernel) ?_
          obtain ⟨q_117, I_118, hc_119, h⟩ := clP_e h
          refine r_callV (As := [.int (0 : Int32)]) [] X (c6_position l g hG N _ _ _ t0 _ _ hc_119) cal_X6_position (im_X6_position) (se_X6_position) k_196 (tag_lt t0 (by decide)) (by rw [lay, t0]; rfl) rfl rfl ⟨rfl, rfl⟩ ⟨Nat.le_of_ble_eq_true rfl, Nat.le_of_ble_eq_true rfl⟩ hP hS hl.1 rfl (Nat.le_of_ble_eq_true rfl) dL_ahead_89 ⟨Nat.zero_le _, Nat.zero_le _⟩ (fun H locs hP hS => ?_)
          show W p l e rmL_ahead s m args below meth c H locs 0 0 _ (F0 m 92 ls [.int q_117])
          refine lv_iload hx hb dL_ahead_92 (lv_at hl 3 rfl) ?_
          refine lv_icmp_ne (tgt := 163) hx hb dL_ahead_94 (by decide) (fun c_120 => ?_) (fun c_120 => ?_)
          · replace h := ifn c_120 h
            exact LL_ahead_163 hG N k0 a1 t0 X hr hlk r0 I0 I_118 w2 v4 h _ _ _ hP hS (lv_sub hl [6, 8, 9] rfl)
          · replace h := ifp c_120 h
            refine lv_aload_n hx hb dL_ahead_97 rfl (lv_at hl 6 rfl) ?_
            refine lv_iconst (v := (1 : Int32)) hx hb dL_ahead_98 (by decide +kernel) ?_
            obtain ⟨q_121, I_122, hc_123, h⟩ := clP_e h
            refine r_callV (As := [.int (1 : Int32)]) [] X (c6_position l g hG N _ _ _ t0 _ _ hc_123) cal_X6_position (im_X6_position) (se_X6_position) k_196 (tag_lt t0 (by decide)) (by rw [lay, t0]; rfl) rfl rfl ⟨rfl, rfl⟩ ⟨Nat.le_of_ble_eq_true rfl, Nat.le_of_ble_eq_true rfl⟩ hP hS hl.1 rfl (Nat.le_of_ble_eq_true rfl) dL_ahead_99 ⟨Nat.zero_le _, Nat.zero_le _⟩ (fun H locs hP hS => ?_)
            show W p l e rmL_ahead s m args below meth c H locs 0 0 _ (F0 m 102 ls [.int q_121])
            refine lv_iload hx hb dL_ahead_102 (lv_at hl 2 rfl) ?_
            refine lv_icmp_ne (tgt := 163) hx hb dL_ahead_104 (by decide) (fun c_124 => ?_) (fun c_124 => ?_)
            · replace h := ifn c_124 h
              exact LL_ahead_163 hG N k0 a1 t0 X hr hlk r0 I0 I_122 w2 v4 h _ _ _ hP hS (lv_sub hl [6, 8, 9] rfl)
            · replace h := ifp c_124 h
              refine lv_aload_n hx hb dL_ahead_107 rfl (lv_at hl 6 rfl) ?_
              obtain ⟨q_125, I_126, hc_127, h⟩ := clP_e h
              refine r_callV (As := []) [] X (c6_clock l g hG N _ _ t0 _ _ hc_127) cal_X6_clock (im_X6_clock) (se_X6_clock) k_605 (tag_lt t0 (by decide)) (by rw [lay, t0]; rfl) rfl rfl ⟨rfl, rfl⟩ ⟨Nat.le_of_ble_eq_true rfl, Nat.le_of_ble_eq_true rfl⟩ hP hS hl.1 rfl (Nat.le_of_ble_eq_true rfl) dL_ahead_108 ⟨Nat.zero_le _, Nat.zero_le _⟩ (fun H locs hP hS => ?_)
              show W p l e rmL_ahead s m args below meth c H locs 0 0 _ (F0 m 111 ls [.int q_125])
              refine lv_iload hx hb dL_ahead_111 (lv_at hl 1 rfl) ?_
              refine lv_isub hx hb dL_ahead_113 ?_
              refine lv_iload hx hb dL_ahead_114 (lv_at hl 4 rfl) ?_
              refine lv_icmp_gt (tgt := 163) hx hb dL_ahead_116 (by decide) (fun c_128 => ?_) (fun c_128 => ?_)
              · replace h := ifp c_128 h
                exact LL_ahead_163 hG N k0 a1 t0 X hr hlk r0 I0 I_126 w2 v4 h _ _ _ hP hS (lv_sub hl [6, 8, 9] rfl)
              · replace h := ifn c_128 h
                refine lv_aload_n hx hb dL_ahead_119 rfl (lv_at hl 6 rfl) ?_
                obtain ⟨q_129, I_130, hc_131, h⟩ := clP_e h
                refine r_callV (As := []) [] X (c6_queueLength l g hG N _ _ t0 _ _ hc_131) cal_X6_queueLength (im_X6_queueLength) (se_X6_queueLength) k_184 (tag_lt t0 (by decide)) (by rw [lay, t0]; rfl) rfl rfl ⟨rfl, rfl⟩ ⟨Nat.le_of_ble_eq_true rfl, Nat.le_of_ble_eq_true rfl⟩ hP hS hl.1 rfl (Nat.le_of_ble_eq_true rfl) dL_ahead_120 ⟨Nat.zero_le _, Nat.zero_le _⟩ (fun H locs hP hS => ?_)
                show W p l e rmL_ahead s m args below meth c H locs 0 0 _ (F0 m 123 ls [.int q_129])
                refine lv_if_eq (tgt := 143) hx hb dL_ahead_123 (by decide) (fun c_132 => ?_) (fun c_132 => ?_)
                · replace h := ifp c_132 h
                  exact LL_ahead_143 hG N k0 a1 t0 X hr hlk r0 I0 I_130 w2 v4 h _ _ _ hP hS (lv_sub hl [6, 8, 9] rfl)
                · replace h := ifn c_132 h
                  refine lv_aload_n hx hb dL_ahead_126 rfl (lv_at hl 6 rfl) ?_
                  refine lv_iload hx hb dL_ahead_127 (lv_at hl 4 rfl) ?_
                  refine lv_aload_n hx hb dL_ahead_129 rfl (lv_at hl 6 rfl) ?_
                  obtain ⟨q_141, I_142, hc_143, h⟩ := clP_e h
                  refine r_callV (As := []) [.int x_11, .ref (ga g k0)] X (c6_clock l g hG N _ _ t0 _ _ hc_143) cal_X6_clock (im_X6_clock) (se_X6_clock) k_605 (tag_lt t0 (by decide)) (by rw [lay, t0]; rfl) rfl rfl ⟨rfl, rfl⟩ ⟨Nat.le_of_ble_eq_true rfl, Nat.le_of_ble_eq_true rfl⟩ hP hS hl.1 rfl (Nat.le_of_ble_eq_true rfl) dL_ahead_130 ⟨Nat.zero_le _, Nat.zero_le _⟩ (fun H locs hP hS => ?_)
                  show W p l e rmL_ahead s m args below meth c H locs 0 0 _ (F0 m 133 ls [.int q_141, .int x_11, .ref (ga g k0)])
                  refine lv_iload hx hb dL_ahead_133 (lv_at hl 1 rfl) ?_
                  refine lv_isub hx hb dL_ahead_135 ?_
                  refine lv_isub hx hb dL_ahead_136 ?_
                  obtain ⟨q_144, I_145, hc_146, h⟩ := clP_e h
                  refine r_callS (As := [.ref (ga g k0), .int (x_11 - (q_141 - q_34))]) [] X (ccL_over l g hG N _ _ _ t0 _ _ hc_146) cal_L_over (sc_L_over) k_628 rfl ⟨rfl, rfl⟩ ⟨Nat.le_of_ble_eq_true rfl, Nat.le_of_ble_eq_true rfl⟩ hP hS hl.1 rfl (Nat.le_of_ble_eq_true rfl) dL_ahead_137 ⟨Nat.zero_le _, Nat.zero_le _⟩ (fun H locs hP hS => ?_)
                  show W p l e rmL_ahead s m args below meth c H locs 0 0 _ (F0 m 140 ls [.int q_144])
                  refine lv_if_eq (tgt := 163) hx hb dL_ahead_140 (by decide) (fun c_147 => ?_) (fun c_147 => ?_)
                  · replace h := ifp c_147 h
                    exact LL_ahead_163 hG N k0 a1 t0 X hr hlk r0 I0 I_145 w2 v4 h _ _ _ hP hS (lv_sub hl [6, 8, 9] rfl)
                  · replace h := ifn c_147 h
                    exact LL_ahead_143 hG N k0 a1 t0 X hr hlk r0 I0 I_145 w2 v4 h _ _ _ hP hS (lv_sub hl [6, 8, 9] rfl)
set_option maxHeartbeats 4000000 in
set_option maxRecDepth 100000 in
theorem ccL_ahead (l : Launch) (g : GG) (hG : Apart g NT) (N : Nat) (I : Mem) (k0 : Nat) (a1 : Int32) (t0 : tag k0 = 5) (r0 : Int32) (I0 : Mem) (h : fL_ahead N I k0 a1 = some (r0, I0)) : Mc l g yL_ahead cL_ahead 15 (some .boolean) rmL_ahead I [.ref (ga g k0), .int a1] (some (.int r0)) I0 := by
  refine Mc.of hG (by decide +kernel) (Nat.le_of_ble_eq_true rfl) ?_
  intro p e s m args below meth c ls X hr hlk hP hS hl
  have X : Cx g p s m args c cL_ahead RL 15 := X
  have hx := X.hx
  have hb := X.hb
  have hl : lv_has ls 15 [(0, .ref (ga g k0)), (1, .int a1)] := hl
  have locs : List Loc := []
  unfold fL_ahead at h
  refine lv_aload_n hx hb dL_ahead_0 rfl (lv_at hl 0 rfl) ?_
  obtain ⟨q_1, I_2, hc_3, h⟩ := clP_e h
  refine r_callS (As := [.ref (ga g k0)]) [] X (ccL_now l g hG N _ _ t0 _ _ hc_3) cal_L_now (sc_L_now) k_602 rfl ⟨rfl, rfl⟩ ⟨Nat.le_of_ble_eq_true rfl, Nat.le_of_ble_eq_true rfl⟩ hP hS hl.1 rfl (Nat.le_of_ble_eq_true rfl) dL_ahead_1 ⟨Nat.zero_le _, Nat.zero_le _⟩ (fun H locs hP hS => ?_)
  show W p l e rmL_ahead s m args below meth c H locs 0 0 _ (F0 m 4 ls [.long q_1])
  refine lv_lstore_n (lv' := [(2, .long q_1), (0, .ref (ga g k0)), (1, .int a1)]) hx hb dL_ahead_4 rfl hl (by decide) rfl (fun ls hl => ?_)
  refine lv_aload_n hx hb dL_ahead_5 rfl (lv_at hl 1 rfl) ?_
  obtain ⟨q_4, I_5, hc_6, h⟩ := clP_e h
  refine r_callV (As := []) [] X (c6_queueLength l g hG N _ _ t0 _ _ hc_6) cal_X6_queueLength (im_X6_queueLength) (se_X6_queueLength) k_184 (tag_lt t0 (by decide)) (by rw [lay, t0]; rfl) rfl rfl ⟨rfl, rfl⟩ ⟨Nat.le_of_ble_eq_true rfl, Nat.le_of_ble_eq_true rfl⟩ hP hS hl.1 rfl (Nat.le_of_ble_eq_true rfl) dL_ahead_6 ⟨Nat.zero_le _, Nat.zero_le _⟩ (fun H locs hP hS => ?_)
  show W p l e rmL_ahead s m args below meth c H locs 0 0 _ (F0 m 9 ls [.int q_4])
  refine lv_istore (lv' := [(4, .int q_4), (2, .long q_1), (0, .ref (ga g k0)), (1, .int a1)]) hx hb dL_ahead_9 hl (by decide) rfl (fun ls hl => ?_)
  refine lv_aload_n hx hb dL_ahead_11 rfl (lv_at hl 2 rfl) ?_
  refine lv_iconst (v := (1 : Int32)) hx hb dL_ahead_12 (by decide +kernel) ?_
  obtain ⟨q_7, I_8, hc_9, h⟩ := clP_e h
  refine r_callV (As := [.int (1 : Int32)]) [] X (c6_save l g hG N _ _ _ t0 _ _ hc_9) cal_X6_save (im_X6_save) (se_X6_save) k_458 (tag_lt t0 (by decide)) (by rw [lay, t0]; rfl) rfl rfl ⟨rfl, rfl⟩ ⟨Nat.le_of_ble_eq_true rfl, Nat.le_of_ble_eq_true rfl⟩ hP hS hl.1 rfl (Nat.le_of_ble_eq_true rfl) dL_ahead_13 ⟨Nat.zero_le _, Nat.zero_le _⟩ (fun H locs hP hS => ?_)
  show W p l e rmL_ahead s m args below meth c H locs 0 0 _ (F0 m 16 ls [.int q_7])
  refine lv_iload hx hb dL_ahead_16 (lv_at hl 0 rfl) ?_
  refine lv_icmp_ne (tgt := 25) hx hb dL_ahead_18 (by decide) (fun c_10 => ?_) (fun c_10 => ?_)
  · replace h := ifn c_10 h
    refine lv_iconst (v := (0 : Int32)) hx hb dL_ahead_25 (by decide +kernel) ?_
    exact LL_ahead_26 hG N k0 a1 t0 X hr hlk r0 I0 I_8 q_1 q_4 (0 : Int32) h _ _ _ hP hS (lv_sub hl [2, 3, 1, 0] rfl)
  · replace h := ifp c_10 h
    refine lv_iconst (v := (1 : Int32)) hx hb dL_ahead_21 (by decide +kernel) ?_
    refine lv_goto (tgt := 26) hx hb dL_ahead_22 (by decide) ?_
    exact LL_ahead_26 hG N k0 a1 t0 X hr hlk r0 I0 I_8 q_1 q_4 (1 : Int32) h _ _ _ hP hS (lv_sub hl [2, 3, 1, 0] rfl)
abbrev rmL_most : Room := { frames := 0, cells := 0, slots := 0, locals := 0 }
def fL_most (N : Nat) (I : Mem) (a0 : Int32) (a1 : Int32) : Option (Int32 × Mem) :=
    if a0 ≤ a1 then
    some (a1, I)
    else
    some (a0, I)
set_option maxHeartbeats 4000000 in
set_option maxRecDepth 100000 in
theorem ccL_most (l : Launch) (g : GG) (hG : Apart g NT) (N : Nat) (I : Mem) (a0 : Int32) (a1 : Int32) (r0 : Int32) (I0 : Mem) (h : fL_most N I a0 a1 = some (r0, I0)) : Mc l g yL_most cL_most 2 (some .int) rmL_most I [.int a0, .int a1] (some (.int r0)) I0 := by
  refine Mc.of hG (by decide +kernel) (Nat.le_of_ble_eq_true rfl) ?_
  intro p e s m args below meth c ls X hr hlk hP hS hl
  have X : Cx g p s m args c cL_most RL 2 := X
  have hx := X.hx
  have hb := X.hb
  have hl : lv_has ls 2 [(0, .int a0), (1, .int a1)] := hl
  have locs : List Loc := []
  unfold fL_most at h
  refine lv_iload_n hx hb dL_most_0 rfl (lv_at hl 0 rfl) ?_
  refine lv_iload_n hx hb dL_most_1 rfl (lv_at hl 1 rfl) ?_
  refine lv_icmp_le (tgt := 9) hx hb dL_most_2 (by decide) (fun c_1 => ?_) (fun c_1 => ?_)
  · replace h := ifp c_1 h
    refine lv_iload_n hx hb dL_most_9 rfl (lv_at hl 1 rfl) ?_
    exact r_iret X hr hlk hP hS dL_most_10 h
  · replace h := ifn c_1 h
    refine lv_iload_n hx hb dL_most_5 rfl (lv_at hl 0 rfl) ?_
    refine lv_goto (tgt := 10) hx hb dL_most_6 (by decide) ?_
    exact r_iret X hr hlk hP hS dL_most_10 h
abbrev rmL_moved : Room := { frames := 6, cells := 0, slots := 0, locals := 145 }
def fL_moved_258 (N : Nat) (k0 : Nat) (a1 : Int32) (I : Mem) (v3 : Int32) (v4 : Int32) (v6 : Int32) (v7 : Int32) (v8 : Int32) : Option (Int32 × Mem) :=
    if v8 = (0 : Int32) then
    some ((0 : Int32), I)
    else
    clP (f6_queueLength N I k0) (fun (q_32 : Int32) (I_33 : Mem) =>
    if q_32 = (0 : Int32) then
    clP (f6_position N I_33 k0 (0 : Int32)) (fun (q_36 : Int32) (I_37 : Mem) =>
    if q_36 = (v6 + v3) then
    clP (f6_position N I_37 k0 (1 : Int32)) (fun (q_40 : Int32) (I_41 : Mem) =>
    if q_40 = (v7 + v4) then
    some ((1 : Int32), I_41)
    else
    some ((0 : Int32), I_41))
    else
    some ((0 : Int32), I_37))
    else
    some ((0 : Int32), I_33))
def fL_moved_139 (N : Nat) (k0 : Nat) (a1 : Int32) : Nat → Mem → Int32 → Int32 → Int32 → Int32 → Int32 → Int32 → Int32 → Option (Int32 × Mem)
  | 0, _, _, _, _, _, _, _, _ => none
  | cnt+1, I, v3, v4, v5, v6, v7, v8, v9 =>
    if v5 < v9 then
    fL_moved_258 N k0 a1 I v3 v4 v6 v7 v8
    else
    if v8 = (0 : Int32) then
    fL_moved_258 N k0 a1 I v3 v4 v6 v7 v8
    else
    clP (f6_step N I k0) (fun (q_45 : Int32) (I_46 : Mem) =>
    if q_45 ≤ (0 : Int32) then
    clP (f6_position N I_46 k0 (0 : Int32)) (fun (q_49 : Int32) (I_50 : Mem) =>
    letM (((q_49 - v6) * v5) - (v9 * v3)) (fun x_52 : Int32 =>
    clP (f6_position N I_50 k0 (1 : Int32)) (fun (q_53 : Int32) (I_54 : Mem) =>
    letM (((q_53 - v7) * v5) - (v9 * v4)) (fun x_56 : Int32 =>
    letM (v9 + (1 : Int32)) (fun x_58 : Int32 =>
    fL_moved_139 N k0 a1 cnt I_54 v3 v4 v5 v6 v7 (0 : Int32) x_58)))))
    else
    clP (f6_position N I_46 k0 (0 : Int32)) (fun (q_59 : Int32) (I_60 : Mem) =>
    letM (((q_59 - v6) * v5) - (v9 * v3)) (fun x_62 : Int32 =>
    clP (f6_position N I_60 k0 (1 : Int32)) (fun (q_63 : Int32) (I_64 : Mem) =>
    letM (((q_63 - v7) * v5) - (v9 * v4)) (fun x_66 : Int32 =>
    if v5 < ((2 : Int32) * x_62) then
    letM (v9 + (1 : Int32)) (fun x_69 : Int32 =>
    fL_moved_139 N k0 a1 cnt I_64 v3 v4 v5 v6 v7 (0 : Int32) x_69)
    else
    if v5 < ((-2 : Int32) * x_62) then
    letM (v9 + (1 : Int32)) (fun x_71 : Int32 =>
    fL_moved_139 N k0 a1 cnt I_64 v3 v4 v5 v6 v7 (0 : Int32) x_71)
    else
    if v5 < ((2 : Int32) * x_66) then
    letM (v9 + (1 : Int32)) (fun x_73 : Int32 =>
    fL_moved_139 N k0 a1 cnt I_64 v3 v4 v5 v6 v7 (0 : Int32) x_73)
    else
    if v5 < ((-2 : Int32) * x_66) then
    letM (v9 + (1 : Int32)) (fun x_75 : Int32 =>
    fL_moved_139 N k0 a1 cnt I_64 v3 v4 v5 v6 v7 (0 : Int32) x_75)
    else
    letM (v9 + (1 : Int32)) (fun x_76 : Int32 =>
    fL_moved_139 N k0 a1 cnt I_64 v3 v4 v5 v6 v7 (1 : Int32) x_76))))))
def fL_moved_134 (N : Nat) (k0 : Nat) (a1 : Int32) (I : Mem) (v3 : Int32) (v4 : Int32) (v5 : Int32) (v6 : Int32) (v7 : Int32) (s0 : Int32) : Option (Int32 × Mem) :=
    fL_moved_139 N k0 a1 N I v3 v4 v5 v6 v7 s0 (1 : Int32)
def fL_moved_133 (N : Nat) (k0 : Nat) (a1 : Int32) (I : Mem) (v3 : Int32) (v4 : Int32) (v5 : Int32) (v6 : Int32) (v7 : Int32) : Option (Int32 × Mem) :=
    fL_moved_134 N k0 a1 I v3 v4 v5 v6 v7 (0 : Int32)
def fL_moved_87 (N : Nat) (k0 : Nat) (a1 : Int32) (I : Mem) (v3 : Int32) (v4 : Int32) (s0 : Int32) (s1 : Int32) : Option (Int32 × Mem) :=
    clP (fL_most N I s1 s0) (fun (q_17 : Int32) (I_18 : Mem) =>
    clP (f6_position N I_18 k0 (0 : Int32)) (fun (q_20 : Int32) (I_21 : Mem) =>
    clP (f6_position N I_21 k0 (1 : Int32)) (fun (q_23 : Int32) (I_24 : Mem) =>
    clP (f6_itemAt N I_24 k0 (0 : Int32)) (fun (q_26 : Int32) (I_27 : Mem) =>
    if q_26 = q_17 then
    clP (f6_ticksLeft N I_27 k0) (fun (q_77 : Int32) (I_78 : Mem) =>
    clP (f6_moveTicks N I_78 k0 q_17) (fun (q_80 : Int32) (I_81 : Mem) =>
    if q_77 = q_80 then
    fL_moved_134 N k0 a1 I_81 v3 v4 q_17 q_20 q_23 (1 : Int32)
    else
    fL_moved_133 N k0 a1 I_81 v3 v4 q_17 q_20 q_23))
    else
    fL_moved_133 N k0 a1 I_27 v3 v4 q_17 q_20 q_23))))
def fL_moved_74 (N : Nat) (k0 : Nat) (a1 : Int32) (I : Mem) (v3 : Int32) (v4 : Int32) (s0 : Int32) : Option (Int32 × Mem) :=
    if (0 : Int32) ≤ v4 then
    fL_moved_87 N k0 a1 I v3 v4 v4 s0
    else
    fL_moved_87 N k0 a1 I v3 v4 (-v4) s0
def fL_moved (N : Nat) (I : Mem) (k0 : Nat) (a1 : Int32) : Option (Int32 × Mem) :=
    clP (f6_queueLength N I k0) (fun (q_1 : Int32) (I_2 : Mem) =>
    clP (f6_rampIndex N I_2 k0) (fun (q_4 : Int32) (I_5 : Mem) =>
    if q_4 = (-9 : Int32) then
    if (0 : Int32) < q_1 then
    some ((1 : Int32), I_5)
    else
    clP (f6_addMove N I_5 k0 ((a1 - a1 / (61 : Int32) * (61 : Int32)) - (30 : Int32)) (((a1 / (61 : Int32)) - (a1 / (61 : Int32)) / (41 : Int32) * (41 : Int32)) - (20 : Int32))) (fun (q_9 : Int32) (I_10 : Mem) =>
    if (0 : Int32) ≤ q_9 then
    letM ((a1 - a1 / (61 : Int32) * (61 : Int32)) - (30 : Int32)) (fun x_13 : Int32 =>
    letM (((a1 / (61 : Int32)) - (a1 / (61 : Int32)) / (41 : Int32) * (41 : Int32)) - (20 : Int32)) (fun x_14 : Int32 =>
    if (0 : Int32) ≤ x_13 then
    fL_moved_74 N k0 a1 I_10 x_13 x_14 x_13
    else
    fL_moved_74 N k0 a1 I_10 x_13 x_14 (-x_13)))
    else
    some ((1 : Int32), I_10))
    else
    some ((1 : Int32), I_5)))
set_option maxHeartbeats 4000000 in
set_option maxRecDepth 100000 in
theorem LL_moved_258 (hG : Apart g NT) (N : Nat) (k0 : Nat) (a1 : Int32) (t0 : tag k0 = 5) (X : Cx g p s m args c cL_moved RL 12) (hr : meth.sig.returnType = (some .boolean)) (hlk : meth.locks = false) (r0 : Int32) (I0 : Mem) : ∀ (I : Mem) (v3 : Int32) (v4 : Int32) (v6 : Int32) (v7 : Int32) (v8 : Int32), fL_moved_258 N k0 a1 I v3 v4 v6 v7 v8 = some (r0, I0) → ∀ (H : Heap) (locs : List Loc) (ls : Array Slot), Wp g I H → va_S (gA g) s.heap H locs → lv_has ls 12 [(0, .ref (ga g k0)), (3, .int v3), (4, .int v4), (6, .int v6), (7, .int v7), (8, .int v8)] → W p l e rmL_moved s m args below meth c H locs 0 0 (MQ below (Qg g (some (.int r0)) I0) args s 0 0 (gA g)) (F0 m 258 ls []) := by
  have hx := X.hx
  have hb := X.hb
  intro I v3 v4 v6 v7 v8 h H locs ls hP hS hl
  unfold fL_moved_258 at h
  refine lv_iload hx hb dL_moved_258 (lv_at hl 5 rfl) ?_
  refine lv_if_eq (tgt := 299) hx hb dL_moved_260 (by decide) (fun c_31 => ?_) (fun c_31 => ?_)
  · replace h := ifp c_31 h
    refine lv_iconst (v := (0 : Int32)) hx hb dL_moved_299 (by decide +kernel) ?_
    exact r_zret X hr hlk hP hS rfl dL_moved_300 h
  · replace h := ifn c_31 h
    refine lv_aload_n hx hb dL_moved_263 rfl (lv_at hl 0 rfl) ?_
    obtain ⟨q_32, I_33, hc_34, h⟩ := clP_e h
    refine r_callV (As := []) [] X (c6_queueLength l g hG N _ _ t0 _ _ hc_34) cal_X6_queueLength (im_X6_queueLength) (se_X6_queueLength) k_184 (tag_lt t0 (by decide)) (by rw [lay, t0]; rfl) rfl rfl ⟨rfl, rfl⟩ ⟨Nat.le_of_ble_eq_true rfl, Nat.le_of_ble_eq_true rfl⟩ hP hS hl.1 rfl (Nat.le_of_ble_eq_true rfl) dL_moved_264 ⟨Nat.zero_le _, Nat.zero_le _⟩ (fun H locs hP hS => ?_)
    show W p l e rmL_moved s m args below meth c H locs 0 0 _ (F0 m 267 ls [.int q_32])
    refine lv_if_ne (tgt := 299) hx hb dL_moved_267 (by decide) (fun c_35 => ?_) (fun c_35 => ?_)
    · replace h := ifn c_35 h
      refine lv_iconst (v := (0 : Int32)) hx hb dL_moved_299 (by decide +kernel) ?_
      exact r_zret X hr hlk hP hS rfl dL_moved_300 h
    · replace h := ifp c_35 h
      refine lv_aload_n hx hb dL_moved_270 rfl (lv_at hl 0 rfl) ?_
      refine lv_iconst (v := (0 : Int32)) hx hb dL_moved_271 (by decide +kernel) ?_
      obtain ⟨q_36, I_37, hc_38, h⟩ := clP_e h
      refine r_callV (As := [.int (0 : Int32)]) [] X (c6_position l g hG N _ _ _ t0 _ _ hc_38) cal_X6_position (im_X6_position) (se_X6_position) k_196 (tag_lt t0 (by decide)) (by rw [lay, t0]; rfl) rfl rfl ⟨rfl, rfl⟩ ⟨Nat.le_of_ble_eq_true rfl, Nat.le_of_ble_eq_true rfl⟩ hP hS hl.1 rfl (Nat.le_of_ble_eq_true rfl) dL_moved_272 ⟨Nat.zero_le _, Nat.zero_le _⟩ (fun H locs hP hS => ?_)
      show W p l e rmL_moved s m args below meth c H locs 0 0 _ (F0 m 275 ls [.int q_36])
      refine lv_iload hx hb dL_moved_275 (lv_at hl 3 rfl) ?_
      refine lv_iload_n hx hb dL_moved_277 rfl (lv_at hl 1 rfl) ?_
      refine lv_iadd hx hb dL_moved_278 ?_
      refine lv_icmp_ne (tgt := 299) hx hb dL_moved_279 (by decide) (fun c_39 => ?_) (fun c_39 => ?_)
      · replace h := ifn c_39 h
        refine lv_iconst (v := (0 : Int32)) hx hb dL_moved_299 (by decide +kernel) ?_
        exact r_zret X hr hlk hP hS rfl dL_moved_300 h
      · replace h := ifp c_39 h
        refine lv_aload_n hx hb dL_moved_282 rfl (lv_at hl 0 rfl) ?_
        refine lv_iconst (v := (1 : Int32)) hx hb dL_moved_283 (by decide +kernel) ?_
        obtain ⟨q_40, I_41, hc_42, h⟩ := clP_e h
        refine r_callV (As := [.int (1 : Int32)]) [] X (c6_position l g hG N _ _ _ t0 _ _ hc_42) cal_X6_position (im_X6_position) (se_X6_position) k_196 (tag_lt t0 (by decide)) (by rw [lay, t0]; rfl) rfl rfl ⟨rfl, rfl⟩ ⟨Nat.le_of_ble_eq_true rfl, Nat.le_of_ble_eq_true rfl⟩ hP hS hl.1 rfl (Nat.le_of_ble_eq_true rfl) dL_moved_284 ⟨Nat.zero_le _, Nat.zero_le _⟩ (fun H locs hP hS => ?_)
        show W p l e rmL_moved s m args below meth c H locs 0 0 _ (F0 m 287 ls [.int q_40])
        refine lv_iload hx hb dL_moved_287 (lv_at hl 4 rfl) ?_
        refine lv_iload hx hb dL_moved_289 (lv_at hl 2 rfl) ?_
        refine lv_iadd hx hb dL_moved_291 ?_
        refine lv_icmp_ne (tgt := 299) hx hb dL_moved_292 (by decide) (fun c_43 => ?_) (fun c_43 => ?_)
        · replace h := ifn c_43 h
          refine lv_iconst (v := (0 : Int32)) hx hb dL_moved_299 (by decide +kernel) ?_
          exact r_zret X hr hlk hP hS rfl dL_moved_300 h
        · replace h := ifp c_43 h
          refine lv_iconst (v := (1 : Int32)) hx hb dL_moved_295 (by decide +kernel) ?_
          refine lv_goto (tgt := 300) hx hb dL_moved_296 (by decide) ?_
          exact r_zret X hr hlk hP hS rfl dL_moved_300 h
set_option maxHeartbeats 4000000 in
set_option maxRecDepth 100000 in
theorem LL_moved_139 (hG : Apart g NT) (N : Nat) (k0 : Nat) (a1 : Int32) (t0 : tag k0 = 5) (X : Cx g p s m args c cL_moved RL 12) (hr : meth.sig.returnType = (some .boolean)) (hlk : meth.locks = false) (r0 : Int32) (I0 : Mem) : ∀ (cnt : Nat) (I : Mem) (v3 : Int32) (v4 : Int32) (v5 : Int32) (v6 : Int32) (v7 : Int32) (v8 : Int32) (v9 : Int32), fL_moved_139 N k0 a1 cnt I v3 v4 v5 v6 v7 v8 v9 = some (r0, I0) → ∀ (H : Heap) (locs : List Loc) (ls : Array Slot), Wp g I H → va_S (gA g) s.heap H locs → lv_has ls 12 [(0, .ref (ga g k0)), (3, .int v3), (4, .int v4), (5, .int v5), (6, .int v6), (7, .int v7), (8, .int v8), (9, .int v9)] → W p l e rmL_moved s m args below meth c H locs 0 0 (MQ below (Qg g (some (.int r0)) I0) args s 0 0 (gA g)) (F0 m 139 ls []) := by
  have hx := X.hx
  have hb := X.hb
  intro cnt
  induction cnt with
  | zero =>
    intro I v3 v4 v5 v6 v7 v8 v9 h
    rw [fL_moved_139] at h
    cases h
  | succ cnt ih =>
    intro I v3 v4 v5 v6 v7 v8 v9 h H locs ls hP hS hl
    rw [fL_moved_139] at h
    refine lv_iload hx hb dL_moved_139 (lv_at hl 7 rfl) ?_
    refine lv_iload hx hb dL_moved_141 (lv_at hl 3 rfl) ?_
    refine lv_icmp_gt (tgt := 258) hx hb dL_moved_143 (by decide) (fun c_30 => ?_) (fun c_30 => ?_)
    · replace h := ifp c_30 h
      exact LL_moved_258 hG N k0 a1 t0 X hr hlk r0 I0 I v3 v4 v6 v7 v8 h _ _ _ hP hS (lv_sub hl [0, 1, 2, 4, 5, 6] rfl)
    · replace h := ifn c_30 h
      refine lv_iload hx hb dL_moved_146 (lv_at hl 6 rfl) ?_
      refine lv_if_eq (tgt := 258) hx hb dL_moved_148 (by decide) (fun c_44 => ?_) (fun c_44 => ?_)
      · replace h := ifp c_44 h
        exact LL_moved_258 hG N k0 a1 t0 X hr hlk r0 I0 I v3 v4 v6 v7 v8 h _ _ _ hP hS (lv_sub hl [0, 1, 2, 4, 5, 6] rfl)
      · replace h := ifn c_44 h
        refine lv_aload_n hx hb dL_moved_151 rfl (lv_at hl 0 rfl) ?_
        obtain ⟨q_45, I_46, hc_47, h⟩ := clP_e h
        refine r_callV (As := []) [] X (c6_step l g hG N _ _ t0 _ _ hc_47) cal_X6_step (im_X6_step) (se_X6_step) k_485 (tag_lt t0 (by decide)) (by rw [lay, t0]; rfl) rfl rfl ⟨rfl, rfl⟩ ⟨Nat.le_of_ble_eq_true rfl, Nat.le_of_ble_eq_true rfl⟩ hP hS hl.1 rfl (Nat.le_of_ble_eq_true rfl) dL_moved_152 ⟨Nat.zero_le _, Nat.zero_le _⟩ (fun H locs hP hS => ?_)
        show W p l e rmL_moved s m args below meth c H locs 0 0 _ (F0 m 155 ls [.int q_45])
        refine lv_if_le (tgt := 162) hx hb dL_moved_155 (by decide) (fun c_48 => ?_) (fun c_48 => ?_)
        · replace h := ifp c_48 h
          refine lv_iconst (v := (0 : Int32)) hx hb dL_moved_162 (by decide +kernel) ?_
          refine lv_istore (lv' := [(8, .int (0 : Int32)), (0, .ref (ga g k0)), (3, .int v3), (4, .int v4), (5, .int v5), (6, .int v6), (7, .int v7), (9, .int v9)]) hx hb dL_moved_163 hl (by decide) rfl (fun ls hl => ?_)
          refine lv_aload_n hx hb dL_moved_165 rfl (lv_at hl 1 rfl) ?_
          refine lv_iconst (v := (0 : Int32)) hx hb dL_moved_166 (by decide +kernel) ?_
          obtain ⟨q_49, I_50, hc_51, h⟩ := clP_e h
          refine r_callV (As := [.int (0 : Int32)]) [] X (c6_position l g hG N _ _ _ t0 _ _ hc_51) cal_X6_position (im_X6_position) (se_X6_position) k_196 (tag_lt t0 (by decide)) (by rw [lay, t0]; rfl) rfl rfl ⟨rfl, rfl⟩ ⟨Nat.le_of_ble_eq_true rfl, Nat.le_of_ble_eq_true rfl⟩ hP hS hl.1 rfl (Nat.le_of_ble_eq_true rfl) dL_moved_167 ⟨Nat.zero_le _, Nat.zero_le _⟩ (fun H locs hP hS => ?_)
          show W p l e rmL_moved s m args below meth c H locs 0 0 _ (F0 m 170 ls [.int q_49])
          refine lv_iload hx hb dL_moved_170 (lv_at hl 5 rfl) ?_
          refine lv_isub hx hb dL_moved_172 ?_
          refine lv_iload hx hb dL_moved_173 (lv_at hl 4 rfl) ?_
          refine lv_imul hx hb dL_moved_175 ?_
          refine lv_iload hx hb dL_moved_176 (lv_at hl 7 rfl) ?_
          refine lv_iload_n hx hb dL_moved_178 rfl (lv_at hl 2 rfl) ?_
          refine lv_imul hx hb dL_moved_179 ?_
          refine lv_isub hx hb dL_moved_180 ?_
          obtain ⟨x_52, ex_52, h⟩ := letM_e h
          refine r_nmi ex_52 ?_
          refine lv_istore (lv' := [(10, .int x_52), (8, .int (0 : Int32)), (0, .ref (ga g k0)), (3, .int v3), (4, .int v4), (5, .int v5), (6, .int v6), (7, .int v7), (9, .int v9)]) hx hb dL_moved_181 hl (by decide) rfl (fun ls hl => ?_)
          refine lv_aload_n hx hb dL_moved_183 rfl (lv_at hl 2 rfl) ?_
          refine lv_iconst (v := (1 : Int32)) hx hb dL_moved_184 (by decide +kernel) ?_
          obtain ⟨q_53, I_54, hc_55, h⟩ := clP_e h
          refine r_callV (As := [.int (1 : Int32)]) [] X (c6_position l g hG N _ _ _ t0 _ _ hc_55) cal_X6_position (im_X6_position) (se_X6_position) k_196 (tag_lt t0 (by decide)) (by rw [lay, t0]; rfl) rfl rfl ⟨rfl, rfl⟩ ⟨Nat.le_of_ble_eq_true rfl, Nat.le_of_ble_eq_true rfl⟩ hP hS hl.1 rfl (Nat.le_of_ble_eq_true rfl) dL_moved_185 ⟨Nat.zero_le _, Nat.zero_le _⟩ (fun H locs hP hS => ?_)
          show W p l e rmL_moved s m args below meth c H locs 0 0 _ (F0 m 188 ls [.int q_53])
          refine lv_iload hx hb dL_moved_188 (lv_at hl 7 rfl) ?_
          refine lv_isub hx hb dL_moved_190 ?_
          refine lv_iload hx hb dL_moved_191 (lv_at hl 5 rfl) ?_
          refine lv_imul hx hb dL_moved_193 ?_
          refine lv_iload hx hb dL_moved_194 (lv_at hl 8 rfl) ?_
          refine lv_iload hx hb dL_moved_196 (lv_at hl 4 rfl) ?_
          refine lv_imul hx hb dL_moved_198 ?_
          refine lv_isub hx hb dL_moved_199 ?_
          obtain ⟨x_56, ex_56, h⟩ := letM_e h
          refine r_nmi ex_56 ?_
          refine lv_istore (lv' := [(11, .int x_56), (10, .int x_52), (8, .int (0 : Int32)), (0, .ref (ga g k0)), (3, .int v3), (4, .int v4), (5, .int v5), (6, .int v6), (7, .int v7), (9, .int v9)]) hx hb dL_moved_200 hl (by decide) rfl (fun ls hl => ?_)
          refine lv_iload hx hb dL_moved_202 (lv_at hl 2 rfl) ?_
          refine lv_if_eq (tgt := 249) hx hb dL_moved_204 (by decide) (fun c_57 => ?_) (fun c_57 => ?_)
          · refine lv_iconst (v := (0 : Int32)) hx hb dL_moved_249 (by decide +kernel) ?_
            refine lv_istore (lv' := [(8, .int (0 : Int32)), (11, .int x_56), (10, .int x_52), (0, .ref (ga g k0)), (3, .int v3), (4, .int v4), (5, .int v5), (6, .int v6), (7, .int v7), (9, .int v9)]) hx hb dL_moved_250 hl (by decide) rfl (fun ls hl => ?_)
            obtain ⟨x_58, ex_58, h⟩ := letM_e h
            refine lv_iinc (v := x_58) (lv' := [(9, .int x_58), (8, .int (0 : Int32)), (11, .int x_56), (10, .int x_52), (0, .ref (ga g k0)), (3, .int v3), (4, .int v4), (5, .int v5), (6, .int v6), (7, .int v7)]) hx hb dL_moved_252 hl (k := 9) rfl (by rw [ex_58]; rfl) (by decide) rfl (fun ls hl => ?_)
            refine lv_goto (tgt := 139) hx hb dL_moved_255 (by decide) ?_
            exact ih I_54 v3 v4 v5 v6 v7 (0 : Int32) x_58 h _ _ _ hP hS (lv_sub hl [4, 5, 6, 7, 8, 9, 1, 0] rfl)
          · exact absurd c_57 (by decide)
        · replace h := ifn c_48 h
          refine lv_iconst (v := (1 : Int32)) hx hb dL_moved_158 (by decide +kernel) ?_
          refine lv_goto (tgt := 163) hx hb dL_moved_159 (by decide) ?_
          refine lv_istore (lv' := [(8, .int (1 : Int32)), (0, .ref (ga g k0)), (3, .int v3), (4, .int v4), (5, .int v5), (6, .int v6), (7, .int v7), (9, .int v9)]) hx hb dL_moved_163 hl (by decide) rfl (fun ls hl => ?_)
          refine lv_aload_n hx hb dL_moved_165 rfl (lv_at hl 1 rfl) ?_
          refine lv_iconst (v := (0 : Int32)) hx hb dL_moved_166 (by decide +kernel) ?_
          obtain ⟨q_59, I_60, hc_61, h⟩ := clP_e h
          refine r_callV (As := [.int (0 : Int32)]) [] X (c6_position l g hG N _ _ _ t0 _ _ hc_61) cal_X6_position (im_X6_position) (se_X6_position) k_196 (tag_lt t0 (by decide)) (by rw [lay, t0]; rfl) rfl rfl ⟨rfl, rfl⟩ ⟨Nat.le_of_ble_eq_true rfl, Nat.le_of_ble_eq_true rfl⟩ hP hS hl.1 rfl (Nat.le_of_ble_eq_true rfl) dL_moved_167 ⟨Nat.zero_le _, Nat.zero_le _⟩ (fun H locs hP hS => ?_)
          show W p l e rmL_moved s m args below meth c H locs 0 0 _ (F0 m 170 ls [.int q_59])
          refine lv_iload hx hb dL_moved_170 (lv_at hl 5 rfl) ?_
          refine lv_isub hx hb dL_moved_172 ?_
          refine lv_iload hx hb dL_moved_173 (lv_at hl 4 rfl) ?_
          refine lv_imul hx hb dL_moved_175 ?_
          refine lv_iload hx hb dL_moved_176 (lv_at hl 7 rfl) ?_
          refine lv_iload_n hx hb dL_moved_178 rfl (lv_at hl 2 rfl) ?_
          refine lv_imul hx hb dL_moved_179 ?_
          refine lv_isub hx hb dL_moved_180 ?_
          obtain ⟨x_62, ex_62, h⟩ := letM_e h
          refine r_nmi ex_62 ?_
          refine lv_istore (lv' := [(10, .int x_62), (8, .int (1 : Int32)), (0, .ref (ga g k0)), (3, .int v3), (4, .int v4), (5, .int v5), (6, .int v6), (7, .int v7), (9, .int v9)]) hx hb dL_moved_181 hl (by decide) rfl (fun ls hl => ?_)
          refine lv_aload_n hx hb dL_moved_183 rfl (lv_at hl 2 rfl) ?_
          refine lv_iconst (v := (1 : Int32)) hx hb dL_moved_184 (by decide +kernel) ?_
          obtain ⟨q_63, I_64, hc_65, h⟩ := clP_e h
          refine r_callV (As := [.int (1 : Int32)]) [] X (c6_position l g hG N _ _ _ t0 _ _ hc_65) cal_X6_position (im_X6_position) (se_X6_position) k_196 (tag_lt t0 (by decide)) (by rw [lay, t0]; rfl) rfl rfl ⟨rfl, rfl⟩ ⟨Nat.le_of_ble_eq_true rfl, Nat.le_of_ble_eq_true rfl⟩ hP hS hl.1 rfl (Nat.le_of_ble_eq_true rfl) dL_moved_185 ⟨Nat.zero_le _, Nat.zero_le _⟩ (fun H locs hP hS => ?_)
          show W p l e rmL_moved s m args below meth c H locs 0 0 _ (F0 m 188 ls [.int q_63])
          refine lv_iload hx hb dL_moved_188 (lv_at hl 7 rfl) ?_
          refine lv_isub hx hb dL_moved_190 ?_
          refine lv_iload hx hb dL_moved_191 (lv_at hl 5 rfl) ?_
          refine lv_imul hx hb dL_moved_193 ?_
          refine lv_iload hx hb dL_moved_194 (lv_at hl 8 rfl) ?_
          refine lv_iload hx hb dL_moved_196 (lv_at hl 4 rfl) ?_
          refine lv_imul hx hb dL_moved_198 ?_
          refine lv_isub hx hb dL_moved_199 ?_
          obtain ⟨x_66, ex_66, h⟩ := letM_e h
          refine r_nmi ex_66 ?_
          refine lv_istore (lv' := [(11, .int x_66), (10, .int x_62), (8, .int (1 : Int32)), (0, .ref (ga g k0)), (3, .int v3), (4, .int v4), (5, .int v5), (6, .int v6), (7, .int v7), (9, .int v9)]) hx hb dL_moved_200 hl (by decide) rfl (fun ls hl => ?_)
          refine lv_iload hx hb dL_moved_202 (lv_at hl 2 rfl) ?_
          refine lv_if_eq (tgt := 249) hx hb dL_moved_204 (by decide) (fun c_67 => ?_) (fun c_67 => ?_)
          · exact absurd c_67 (by decide)
          · refine lv_iconst (v := (2 : Int32)) hx hb dL_moved_207 (by decide +kernel) ?_
            refine lv_iload hx hb dL_moved_208 (lv_at hl 1 rfl) ?_
            refine lv_imul hx hb dL_moved_210 ?_
            refine lv_iload hx hb dL_moved_211 (lv_at hl 6 rfl) ?_
            refine lv_icmp_gt (tgt := 249) hx hb dL_moved_213 (by decide) (fun c_68 => ?_) (fun c_68 => ?_)
            · replace h := ifp c_68 h
              refine lv_iconst (v := (0 : Int32)) hx hb dL_moved_249 (by decide +kernel) ?_
              refine lv_istore (lv' := [(8, .int (0 : Int32)), (11, .int x_66), (10, .int x_62), (0, .ref (ga g k0)), (3, .int v3), (4, .int v4), (5, .int v5), (6, .int v6), (7, .int v7), (9, .int v9)]) hx hb dL_moved_250 hl (by decide) rfl (fun ls hl => ?_)
              obtain ⟨x_69, ex_69, h⟩ := letM_e h
              refine lv_iinc (v := x_69) (lv' := [(9, .int x_69), (8, .int (0 : Int32)), (11, .int x_66), (10, .int x_62), (0, .ref (ga g k0)), (3, .int v3), (4, .int v4), (5, .int v5), (6, .int v6), (7, .int v7)]) hx hb dL_moved_252 hl (k := 9) rfl (by rw [ex_69]; rfl) (by decide) rfl (fun ls hl => ?_)
              refine lv_goto (tgt := 139) hx hb dL_moved_255 (by decide) ?_
              exact ih I_64 v3 v4 v5 v6 v7 (0 : Int32) x_69 h _ _ _ hP hS (lv_sub hl [4, 5, 6, 7, 8, 9, 1, 0] rfl)
            · replace h := ifn c_68 h
              refine lv_bipush (v := (-2 : Int32)) hx hb dL_moved_216 (by decide +kernel) ?_
              refine lv_iload hx hb dL_moved_218 (lv_at hl 1 rfl) ?_
              refine lv_imul hx hb dL_moved_220 ?_
              refine lv_iload hx hb dL_moved_221 (lv_at hl 6 rfl) ?_
              refine lv_icmp_gt (tgt := 249) hx hb dL_moved_223 (by decide) (fun c_70 => ?_) (fun c_70 => ?_)
              · replace h := ifp c_70 h
                refine lv_iconst (v := (0 : Int32)) hx hb dL_moved_249 (by decide +kernel) ?_
                refine lv_istore (lv' := [(8, .int (0 : Int32)), (11, .int x_66), (10, .int x_62), (0, .ref (ga g k0)), (3, .int v3), (4, .int v4), (5, .int v5), (6, .int v6), (7, .int v7), (9, .int v9)]) hx hb dL_moved_250 hl (by decide) rfl (fun ls hl => ?_)
                obtain ⟨x_71, ex_71, h⟩ := letM_e h
                refine lv_iinc (v := x_71) (lv' := [(9, .int x_71), (8, .int (0 : Int32)), (11, .int x_66), (10, .int x_62), (0, .ref (ga g k0)), (3, .int v3), (4, .int v4), (5, .int v5), (6, .int v6), (7, .int v7)]) hx hb dL_moved_252 hl (k := 9) rfl (by rw [ex_71]; rfl) (by decide) rfl (fun ls hl => ?_)
                refine lv_goto (tgt := 139) hx hb dL_moved_255 (by decide) ?_
                exact ih I_64 v3 v4 v5 v6 v7 (0 : Int32) x_71 h _ _ _ hP hS (lv_sub hl [4, 5, 6, 7, 8, 9, 1, 0] rfl)
              · replace h := ifn c_70 h
                refine lv_iconst (v := (2 : Int32)) hx hb dL_moved_226 (by decide +kernel) ?_
                refine lv_iload hx hb dL_moved_227 (lv_at hl 0 rfl) ?_
                refine lv_imul hx hb dL_moved_229 ?_
                refine lv_iload hx hb dL_moved_230 (lv_at hl 6 rfl) ?_
                refine lv_icmp_gt (tgt := 249) hx hb dL_moved_232 (by decide) (fun c_72 => ?_) (fun c_72 => ?_)
                · replace h := ifp c_72 h
                  refine lv_iconst (v := (0 : Int32)) hx hb dL_moved_249 (by decide +kernel) ?_
                  refine lv_istore (lv' := [(8, .int (0 : Int32)), (11, .int x_66), (10, .int x_62), (0, .ref (ga g k0)), (3, .int v3), (4, .int v4), (5, .int v5), (6, .int v6), (7, .int v7), (9, .int v9)]) hx hb dL_moved_250 hl (by decide) rfl (fun ls hl => ?_)
                  obtain ⟨x_73, ex_73, h⟩ := letM_e h
                  refine lv_iinc (v := x_73) (lv' := [(9, .int x_73), (8, .int (0 : Int32)), (11, .int x_66), (10, .int x_62), (0, .ref (ga g k0)), (3, .int v3), (4, .int v4), (5, .int v5), (6, .int v6), (7, .int v7)]) hx hb dL_moved_252 hl (k := 9) rfl (by rw [ex_73]; rfl) (by decide) rfl (fun ls hl => ?_)
                  refine lv_goto (tgt := 139) hx hb dL_moved_255 (by decide) ?_
                  exact ih I_64 v3 v4 v5 v6 v7 (0 : Int32) x_73 h _ _ _ hP hS (lv_sub hl [4, 5, 6, 7, 8, 9, 1, 0] rfl)
                · replace h := ifn c_72 h
                  refine lv_bipush (v := (-2 : Int32)) hx hb dL_moved_235 (by decide +kernel) ?_
                  refine lv_iload hx hb dL_moved_237 (lv_at hl 0 rfl) ?_
                  refine lv_imul hx hb dL_moved_239 ?_
                  refine lv_iload hx hb dL_moved_240 (lv_at hl 6 rfl) ?_
                  refine lv_icmp_gt (tgt := 249) hx hb dL_moved_242 (by decide) (fun c_74 => ?_) (fun c_74 => ?_)
                  · replace h := ifp c_74 h
                    refine lv_iconst (v := (0 : Int32)) hx hb dL_moved_249 (by decide +kernel) ?_
                    refine lv_istore (lv' := [(8, .int (0 : Int32)), (11, .int x_66), (10, .int x_62), (0, .ref (ga g k0)), (3, .int v3), (4, .int v4), (5, .int v5), (6, .int v6), (7, .int v7), (9, .int v9)]) hx hb dL_moved_250 hl (by decide) rfl (fun ls hl => ?_)
                    obtain ⟨x_75, ex_75, h⟩ := letM_e h
                    refine lv_iinc (v := x_75) (lv' := [(9, .int x_75), (8, .int (0 : Int32)), (11, .int x_66), (10, .int x_62), (0, .ref (ga g k0)), (3, .int v3), (4, .int v4), (5, .int v5), (6, .int v6), (7, .int v7)]) hx hb dL_moved_252 hl (k := 9) rfl (by rw [ex_75]; rfl) (by decide) rfl (fun ls hl => ?_)
                    refine lv_goto (tgt := 139) hx hb dL_moved_255 (by decide) ?_
                    exact ih I_64 v3 v4 v5 v6 v7 (0 : Int32) x_75 h _ _ _ hP hS (lv_sub hl [4, 5, 6, 7, 8, 9, 1, 0] rfl)
                  · replace h := ifn c_74 h
                    refine lv_iconst (v := (1 : Int32)) hx hb dL_moved_245 (by decide +kernel) ?_
                    refine lv_goto (tgt := 250) hx hb dL_moved_246 (by decide) ?_
                    refine lv_istore (lv' := [(8, .int (1 : Int32)), (11, .int x_66), (10, .int x_62), (0, .ref (ga g k0)), (3, .int v3), (4, .int v4), (5, .int v5), (6, .int v6), (7, .int v7), (9, .int v9)]) hx hb dL_moved_250 hl (by decide) rfl (fun ls hl => ?_)
                    obtain ⟨x_76, ex_76, h⟩ := letM_e h
                    refine lv_iinc (v := x_76) (lv' := [(9, .int x_76), (8, .int (1 : Int32)), (11, .int x_66), (10, .int x_62), (0, .ref (ga g k0)), (3, .int v3), (4, .int v4), (5, .int v5), (6, .int v6), (7, .int v7)]) hx hb dL_moved_252 hl (k := 9) rfl (by rw [ex_76]; rfl) (by decide) rfl (fun ls hl => ?_)
                    refine lv_goto (tgt := 139) hx hb dL_moved_255 (by decide) ?_
                    exact ih I_64 v3 v4 v5 v6 v7 (1 : Int32) x_76 h _ _ _ hP hS (lv_sub hl [4, 5, 6, 7, 8, 9, 1, 0] rfl)
set_option maxHeartbeats 4000000 in
set_option maxRecDepth 100000 in
theorem LL_moved_134 (hG : Apart g NT) (N : Nat) (k0 : Nat) (a1 : Int32) (t0 : tag k0 = 5) (X : Cx g p s m args c cL_moved RL 12) (hr : meth.sig.returnType = (some .boolean)) (hlk : meth.locks = false) (r0 : Int32) (I0 : Mem) : ∀ (I : Mem) (v3 : Int32) (v4 : Int32) (v5 : Int32) (v6 : Int32) (v7 : Int32) (s0 : Int32), fL_moved_134 N k0 a1 I v3 v4 v5 v6 v7 s0 = some (r0, I0) → ∀ (H : Heap) (locs : List Loc) (ls : Array Slot), Wp g I H → va_S (gA g) s.heap H locs → lv_has ls 12 [(0, .ref (ga g k0)), (3, .int v3), (4, .int v4), (5, .int v5), (6, .int v6), (7, .int v7)] → W p l e rmL_moved s m args below meth c H locs 0 0 (MQ below (Qg g (some (.int r0)) I0) args s 0 0 (gA g)) (F0 m 134 ls [.int s0]) := by
  have hx := X.hx
  have hb := X.hb
  intro I v3 v4 v5 v6 v7 s0 h H locs ls hP hS hl
  unfold fL_moved_134 at h
  refine lv_istore (lv' := [(8, .int s0), (0, .ref (ga g k0)), (3, .int v3), (4, .int v4), (5, .int v5), (6, .int v6), (7, .int v7)]) hx hb dL_moved_134 hl (by decide) rfl (fun ls hl => ?_)
  refine lv_iconst (v := (1 : Int32)) hx hb dL_moved_136 (by decide +kernel) ?_
  refine lv_istore (lv' := [(9, .int (1 : Int32)), (8, .int s0), (0, .ref (ga g k0)), (3, .int v3), (4, .int v4), (5, .int v5), (6, .int v6), (7, .int v7)]) hx hb dL_moved_137 hl (by decide) rfl (fun ls hl => ?_)
  exact LL_moved_139 hG N k0 a1 t0 X hr hlk r0 I0 N I v3 v4 v5 v6 v7 s0 (1 : Int32) h _ _ _ hP hS (lv_sub hl [2, 3, 4, 5, 6, 7, 1, 0] rfl)
set_option maxHeartbeats 4000000 in
set_option maxRecDepth 100000 in
theorem LL_moved_133 (hG : Apart g NT) (N : Nat) (k0 : Nat) (a1 : Int32) (t0 : tag k0 = 5) (X : Cx g p s m args c cL_moved RL 12) (hr : meth.sig.returnType = (some .boolean)) (hlk : meth.locks = false) (r0 : Int32) (I0 : Mem) : ∀ (I : Mem) (v3 : Int32) (v4 : Int32) (v5 : Int32) (v6 : Int32) (v7 : Int32), fL_moved_133 N k0 a1 I v3 v4 v5 v6 v7 = some (r0, I0) → ∀ (H : Heap) (locs : List Loc) (ls : Array Slot), Wp g I H → va_S (gA g) s.heap H locs → lv_has ls 12 [(0, .ref (ga g k0)), (3, .int v3), (4, .int v4), (5, .int v5), (6, .int v6), (7, .int v7)] → W p l e rmL_moved s m args below meth c H locs 0 0 (MQ below (Qg g (some (.int r0)) I0) args s 0 0 (gA g)) (F0 m 133 ls []) := by
  have hx := X.hx
  have hb := X.hb
  intro I v3 v4 v5 v6 v7 h H locs ls hP hS hl
  unfold fL_moved_133 at h
  refine lv_iconst (v := (0 : Int32)) hx hb dL_moved_133 (by decide +kernel) ?_
  exact LL_moved_134 hG N k0 a1 t0 X hr hlk r0 I0 I v3 v4 v5 v6 v7 (0 : Int32) h _ _ _ hP hS (lv_sub hl [0, 1, 2, 3, 4, 5] rfl)
set_option maxHeartbeats 4000000 in
set_option maxRecDepth 100000 in
theorem LL_moved_87 (hG : Apart g NT) (N : Nat) (k0 : Nat) (a1 : Int32) (t0 : tag k0 = 5) (X : Cx g p s m args c cL_moved RL 12) (hr : meth.sig.returnType = (some .boolean)) (hlk : meth.locks = false) (r0 : Int32) (I0 : Mem) : ∀ (I : Mem) (v3 : Int32) (v4 : Int32) (s0 : Int32) (s1 : Int32), fL_moved_87 N k0 a1 I v3 v4 s0 s1 = some (r0, I0) → ∀ (H : Heap) (locs : List Loc) (ls : Array Slot), Wp g I H → va_S (gA g) s.heap H locs → lv_has ls 12 [(0, .ref (ga g k0)), (3, .int v3), (4, .int v4)] → W p l e rmL_moved s m args below meth c H locs 0 0 (MQ below (Qg g (some (.int r0)) I0) args s 0 0 (gA g)) (F0 m 87 ls [.int s0, .int s1]) := by
  have hx := X.hx
  have hb := X.hb
  intro I v3 v4 s0 s1 h H locs ls hP hS hl
  unfold fL_moved_87 at h
  obtain ⟨q_17, I_18, hc_19, h⟩ := clP_e h
  refine r_callS (As := [.int s1, .int s0]) [] X (ccL_most l g hG N _ _ _ _ _ hc_19) cal_L_most (sc_L_most) k_634 rfl ⟨rfl, rfl⟩ ⟨Nat.le_of_ble_eq_true rfl, Nat.le_of_ble_eq_true rfl⟩ hP hS hl.1 rfl (Nat.le_of_ble_eq_true rfl) dL_moved_87 ⟨Nat.zero_le _, Nat.zero_le _⟩ (fun H locs hP hS => ?_)
  show W p l e rmL_moved s m args below meth c H locs 0 0 _ (F0 m 90 ls [.int q_17])
  refine lv_istore (lv' := [(5, .int q_17), (0, .ref (ga g k0)), (3, .int v3), (4, .int v4)]) hx hb dL_moved_90 hl (by decide) rfl (fun ls hl => ?_)
  refine lv_aload_n hx hb dL_moved_92 rfl (lv_at hl 1 rfl) ?_
  refine lv_iconst (v := (0 : Int32)) hx hb dL_moved_93 (by decide +kernel) ?_
  obtain ⟨q_20, I_21, hc_22, h⟩ := clP_e h
  refine r_callV (As := [.int (0 : Int32)]) [] X (c6_position l g hG N _ _ _ t0 _ _ hc_22) cal_X6_position (im_X6_position) (se_X6_position) k_196 (tag_lt t0 (by decide)) (by rw [lay, t0]; rfl) rfl rfl ⟨rfl, rfl⟩ ⟨Nat.le_of_ble_eq_true rfl, Nat.le_of_ble_eq_true rfl⟩ hP hS hl.1 rfl (Nat.le_of_ble_eq_true rfl) dL_moved_94 ⟨Nat.zero_le _, Nat.zero_le _⟩ (fun H locs hP hS => ?_)
  show W p l e rmL_moved s m args below meth c H locs 0 0 _ (F0 m 97 ls [.int q_20])
  refine lv_istore (lv' := [(6, .int q_20), (5, .int q_17), (0, .ref (ga g k0)), (3, .int v3), (4, .int v4)]) hx hb dL_moved_97 hl (by decide) rfl (fun ls hl => ?_)
  refine lv_aload_n hx hb dL_moved_99 rfl (lv_at hl 2 rfl) ?_
  refine lv_iconst (v := (1 : Int32)) hx hb dL_moved_100 (by decide +kernel) ?_
  obtain ⟨q_23, I_24, hc_25, h⟩ := clP_e h
  refine r_callV (As := [.int (1 : Int32)]) [] X (c6_position l g hG N _ _ _ t0 _ _ hc_25) cal_X6_position (im_X6_position) (se_X6_position) k_196 (tag_lt t0 (by decide)) (by rw [lay, t0]; rfl) rfl rfl ⟨rfl, rfl⟩ ⟨Nat.le_of_ble_eq_true rfl, Nat.le_of_ble_eq_true rfl⟩ hP hS hl.1 rfl (Nat.le_of_ble_eq_true rfl) dL_moved_101 ⟨Nat.zero_le _, Nat.zero_le _⟩ (fun H locs hP hS => ?_)
  show W p l e rmL_moved s m args below meth c H locs 0 0 _ (F0 m 104 ls [.int q_23])
  refine lv_istore (lv' := [(7, .int q_23), (6, .int q_20), (5, .int q_17), (0, .ref (ga g k0)), (3, .int v3), (4, .int v4)]) hx hb dL_moved_104 hl (by decide) rfl (fun ls hl => ?_)
  refine lv_aload_n hx hb dL_moved_106 rfl (lv_at hl 3 rfl) ?_
  refine lv_iconst (v := (0 : Int32)) hx hb dL_moved_107 (by decide +kernel) ?_
  obtain ⟨q_26, I_27, hc_28, h⟩ := clP_e h
  refine r_callV (As := [.int (0 : Int32)]) [] X (c6_itemAt l g hG N _ _ _ t0 _ _ hc_28) cal_X6_itemAt (im_X6_itemAt) (se_X6_itemAt) k_208 (tag_lt t0 (by decide)) (by rw [lay, t0]; rfl) rfl rfl ⟨rfl, rfl⟩ ⟨Nat.le_of_ble_eq_true rfl, Nat.le_of_ble_eq_true rfl⟩ hP hS hl.1 rfl (Nat.le_of_ble_eq_true rfl) dL_moved_108 ⟨Nat.zero_le _, Nat.zero_le _⟩ (fun H locs hP hS => ?_)
  show W p l e rmL_moved s m args below meth c H locs 0 0 _ (F0 m 111 ls [.int q_26])
  refine lv_iload hx hb dL_moved_111 (lv_at hl 2 rfl) ?_
  refine lv_icmp_ne (tgt := 133) hx hb dL_moved_113 (by decide) (fun c_29 => ?_) (fun c_29 => ?_)
  · replace h := ifn c_29 h
    exact LL_moved_133 hG N k0 a1 t0 X hr hlk r0 I0 I_27 v3 v4 q_17 q_20 q_23 h _ _ _ hP hS (lv_sub hl [3, 4, 5, 2, 1, 0] rfl)
  · replace h := ifp c_29 h
    refine lv_aload_n hx hb dL_moved_116 rfl (lv_at hl 3 rfl) ?_
    obtain ⟨q_77, I_78, hc_79, h⟩ := clP_e h
    refine r_callV (As := []) [] X (c6_ticksLeft l g hG N _ _ t0 _ _ hc_79) cal_X6_ticksLeft (im_X6_ticksLeft) (se_X6_ticksLeft) k_489 (tag_lt t0 (by decide)) (by rw [lay, t0]; rfl) rfl rfl ⟨rfl, rfl⟩ ⟨Nat.le_of_ble_eq_true rfl, Nat.le_of_ble_eq_true rfl⟩ hP hS hl.1 rfl (Nat.le_of_ble_eq_true rfl) dL_moved_117 ⟨Nat.zero_le _, Nat.zero_le _⟩ (fun H locs hP hS => ?_)
    show W p l e rmL_moved s m args below meth c H locs 0 0 _ (F0 m 120 ls [.int q_77])
    refine lv_aload_n hx hb dL_moved_120 rfl (lv_at hl 3 rfl) ?_
    refine lv_iload hx hb dL_moved_121 (lv_at hl 2 rfl) ?_
    obtain ⟨q_80, I_81, hc_82, h⟩ := clP_e h
    refine r_callV (As := [.int q_17]) [.int q_77] X (c6_moveTicks l g hG N _ _ _ t0 _ _ hc_82) cal_X6_moveTicks (im_X6_moveTicks) (se_X6_moveTicks) k_405 (tag_lt t0 (by decide)) (by rw [lay, t0]; rfl) rfl rfl ⟨rfl, rfl⟩ ⟨Nat.le_of_ble_eq_true rfl, Nat.le_of_ble_eq_true rfl⟩ hP hS hl.1 rfl (Nat.le_of_ble_eq_true rfl) dL_moved_123 ⟨Nat.zero_le _, Nat.zero_le _⟩ (fun H locs hP hS => ?_)
    show W p l e rmL_moved s m args below meth c H locs 0 0 _ (F0 m 126 ls [.int q_80, .int q_77])
    refine lv_icmp_ne (tgt := 133) hx hb dL_moved_126 (by decide) (fun c_83 => ?_) (fun c_83 => ?_)
    · replace h := ifn c_83 h
      exact LL_moved_133 hG N k0 a1 t0 X hr hlk r0 I0 I_81 v3 v4 q_17 q_20 q_23 h _ _ _ hP hS (lv_sub hl [3, 4, 5, 2, 1, 0] rfl)
    · replace h := ifp c_83 h
      refine lv_iconst (v := (1 : Int32)) hx hb dL_moved_129 (by decide +kernel) ?_
      refine lv_goto (tgt := 134) hx hb dL_moved_130 (by decide) ?_
      exact LL_moved_134 hG N k0 a1 t0 X hr hlk r0 I0 I_81 v3 v4 q_17 q_20 q_23 (1 : Int32) h _ _ _ hP hS (lv_sub hl [3, 4, 5, 2, 1, 0] rfl)
set_option maxHeartbeats 4000000 in
set_option maxRecDepth 100000 in
theorem LL_moved_74 (hG : Apart g NT) (N : Nat) (k0 : Nat) (a1 : Int32) (t0 : tag k0 = 5) (X : Cx g p s m args c cL_moved RL 12) (hr : meth.sig.returnType = (some .boolean)) (hlk : meth.locks = false) (r0 : Int32) (I0 : Mem) : ∀ (I : Mem) (v3 : Int32) (v4 : Int32) (s0 : Int32), fL_moved_74 N k0 a1 I v3 v4 s0 = some (r0, I0) → ∀ (H : Heap) (locs : List Loc) (ls : Array Slot), Wp g I H → va_S (gA g) s.heap H locs → lv_has ls 12 [(0, .ref (ga g k0)), (3, .int v3), (4, .int v4)] → W p l e rmL_moved s m args below meth c H locs 0 0 (MQ below (Qg g (some (.int r0)) I0) args s 0 0 (gA g)) (F0 m 74 ls [.int s0]) := by
  have hx := X.hx
  have hb := X.hb
  intro I v3 v4 s0 h H locs ls hP hS hl
  unfold fL_moved_74 at h
  refine lv_iload hx hb dL_moved_74 (lv_at hl 2 rfl) ?_
  refine lv_if_ge (tgt := 85) hx hb dL_moved_76 (by decide) (fun c_16 => ?_) (fun c_16 => ?_)
  · replace h := ifp c_16 h
    refine lv_iload hx hb dL_moved_85 (lv_at hl 2 rfl) ?_
    exact LL_moved_87 hG N k0 a1 t0 X hr hlk r0 I0 I v3 v4 v4 s0 h _ _ _ hP hS (lv_sub hl [0, 1, 2] rfl)
  · replace h := ifn c_16 h
    refine lv_iload hx hb dL_moved_79 (lv_at hl 2 rfl) ?_
    refine lv_ineg hx hb dL_moved_81 ?_
    refine lv_goto (tgt := 87) hx hb dL_moved_82 (by decide) ?_
    exact LL_moved_87 hG N k0 a1 t0 X hr hlk r0 I0 I v3 v4 (-v4) s0 h _ _ _ hP hS (lv_sub hl [0, 1, 2] rfl)
set_option maxHeartbeats 4000000 in
set_option maxRecDepth 100000 in
theorem ccL_moved (l : Launch) (g : GG) (hG : Apart g NT) (N : Nat) (I : Mem) (k0 : Nat) (a1 : Int32) (t0 : tag k0 = 5) (r0 : Int32) (I0 : Mem) (h : fL_moved N I k0 a1 = some (r0, I0)) : Mc l g yL_moved cL_moved 12 (some .boolean) rmL_moved I [.ref (ga g k0), .int a1] (some (.int r0)) I0 := by
  refine Mc.of hG (by decide +kernel) (Nat.le_of_ble_eq_true rfl) ?_
  intro p e s m args below meth c ls X hr hlk hP hS hl
  have X : Cx g p s m args c cL_moved RL 12 := X
  have hx := X.hx
  have hb := X.hb
  have hl : lv_has ls 12 [(0, .ref (ga g k0)), (1, .int a1)] := hl
  have locs : List Loc := []
  unfold fL_moved at h
  refine lv_aload_n hx hb dL_moved_0 rfl (lv_at hl 0 rfl) ?_
  obtain ⟨q_1, I_2, hc_3, h⟩ := clP_e h
  refine r_callV (As := []) [] X (c6_queueLength l g hG N _ _ t0 _ _ hc_3) cal_X6_queueLength (im_X6_queueLength) (se_X6_queueLength) k_184 (tag_lt t0 (by decide)) (by rw [lay, t0]; rfl) rfl rfl ⟨rfl, rfl⟩ ⟨Nat.le_of_ble_eq_true rfl, Nat.le_of_ble_eq_true rfl⟩ hP hS hl.1 rfl (Nat.le_of_ble_eq_true rfl) dL_moved_1 ⟨Nat.zero_le _, Nat.zero_le _⟩ (fun H locs hP hS => ?_)
  show W p l e rmL_moved s m args below meth c H locs 0 0 _ (F0 m 4 ls [.int q_1])
  refine lv_istore_n (lv' := [(2, .int q_1), (0, .ref (ga g k0)), (1, .int a1)]) hx hb dL_moved_4 rfl hl (by decide) rfl (fun ls hl => ?_)
  refine lv_aload_n hx hb dL_moved_5 rfl (lv_at hl 1 rfl) ?_
  obtain ⟨q_4, I_5, hc_6, h⟩ := clP_e h
  refine r_callV (As := []) [] X (c6_rampIndex l g hG N _ _ t0 _ _ hc_6) cal_X6_rampIndex (im_X6_rampIndex) (se_X6_rampIndex) k_477 (tag_lt t0 (by decide)) (by rw [lay, t0]; rfl) rfl rfl ⟨rfl, rfl⟩ ⟨Nat.le_of_ble_eq_true rfl, Nat.le_of_ble_eq_true rfl⟩ hP hS hl.1 rfl (Nat.le_of_ble_eq_true rfl) dL_moved_6 ⟨Nat.zero_le _, Nat.zero_le _⟩ (fun H locs hP hS => ?_)
  show W p l e rmL_moved s m args below meth c H locs 0 0 _ (F0 m 9 ls [.int q_4])
  refine lv_bipush (v := (-9 : Int32)) hx hb dL_moved_9 (by decide +kernel) ?_
  refine lv_icmp_ne (tgt := 42) hx hb dL_moved_11 (by decide) (fun c_7 => ?_) (fun c_7 => ?_)
  · replace h := ifn c_7 h
    refine lv_iconst (v := (1 : Int32)) hx hb dL_moved_42 (by decide +kernel) ?_
    exact r_zret X hr hlk hP hS rfl dL_moved_43 h
  · replace h := ifp c_7 h
    refine lv_iload_n hx hb dL_moved_14 rfl (lv_at hl 0 rfl) ?_
    refine lv_if_gt (tgt := 42) hx hb dL_moved_15 (by decide) (fun c_8 => ?_) (fun c_8 => ?_)
    · replace h := ifp c_8 h
      refine lv_iconst (v := (1 : Int32)) hx hb dL_moved_42 (by decide +kernel) ?_
      exact r_zret X hr hlk hP hS rfl dL_moved_43 h
    · replace h := ifn c_8 h
      refine lv_aload_n hx hb dL_moved_18 rfl (lv_at hl 1 rfl) ?_
      refine lv_iload_n hx hb dL_moved_19 rfl (lv_at hl 2 rfl) ?_
      refine lv_bipush (v := (61 : Int32)) hx hb dL_moved_20 (by decide +kernel) ?_
      refine lv_irem hx hb dL_moved_22 (by decide) ?_
      refine lv_bipush (v := (30 : Int32)) hx hb dL_moved_23 (by decide +kernel) ?_
      refine lv_isub hx hb dL_moved_25 ?_
      refine lv_iload_n hx hb dL_moved_26 rfl (lv_at hl 2 rfl) ?_
      refine lv_bipush (v := (61 : Int32)) hx hb dL_moved_27 (by decide +kernel) ?_
      refine lv_idiv hx hb dL_moved_29 (by decide) ?_
      refine lv_bipush (v := (41 : Int32)) hx hb dL_moved_30 (by decide +kernel) ?_
      refine lv_irem hx hb dL_moved_32 (by decide) ?_
      refine lv_bipush (v := (20 : Int32)) hx hb dL_moved_33 (by decide +kernel) ?_
      refine lv_isub hx hb dL_moved_35 ?_
      obtain ⟨q_9, I_10, hc_11, h⟩ := clP_e h
      refine r_callV (As := [.int ((a1 - a1 / (61 : Int32) * (61 : Int32)) - (30 : Int32)), .int (((a1 / (61 : Int32)) - (a1 / (61 : Int32)) / (41 : Int32) * (41 : Int32)) - (20 : Int32))]) [] X (c6_addMove l g hG N _ _ _ _ t0 _ _ hc_11) cal_X6_addMove (im_X6_addMove) (se_X6_addMove) k_328 (tag_lt t0 (by decide)) (by rw [lay, t0]; rfl) rfl rfl ⟨rfl, rfl⟩ ⟨Nat.le_of_ble_eq_true rfl, Nat.le_of_ble_eq_true rfl⟩ hP hS hl.1 rfl (Nat.le_of_ble_eq_true rfl) dL_moved_36 ⟨Nat.zero_le _, Nat.zero_le _⟩ (fun H locs hP hS => ?_)
      show W p l e rmL_moved s m args below meth c H locs 0 0 _ (F0 m 39 ls [.int q_9])
      refine lv_if_ge (tgt := 44) hx hb dL_moved_39 (by decide) (fun c_12 => ?_) (fun c_12 => ?_)
      · replace h := ifp c_12 h
        refine lv_iload_n hx hb dL_moved_44 rfl (lv_at hl 2 rfl) ?_
        refine lv_bipush (v := (61 : Int32)) hx hb dL_moved_45 (by decide +kernel) ?_
        refine lv_irem hx hb dL_moved_47 (by decide) ?_
        refine lv_bipush (v := (30 : Int32)) hx hb dL_moved_48 (by decide +kernel) ?_
        refine lv_isub hx hb dL_moved_50 ?_
        obtain ⟨x_13, ex_13, h⟩ := letM_e h
        refine r_nmi ex_13 ?_
        refine lv_istore_n (lv' := [(3, .int x_13), (2, .int q_1), (0, .ref (ga g k0)), (1, .int a1)]) hx hb dL_moved_51 rfl hl (by decide) rfl (fun ls hl => ?_)
        refine lv_iload_n hx hb dL_moved_52 rfl (lv_at hl 3 rfl) ?_
        refine lv_bipush (v := (61 : Int32)) hx hb dL_moved_53 (by decide +kernel) ?_
        refine lv_idiv hx hb dL_moved_55 (by decide) ?_
        refine lv_bipush (v := (41 : Int32)) hx hb dL_moved_56 (by decide +kernel) ?_
        refine lv_irem hx hb dL_moved_58 (by decide) ?_
        refine lv_bipush (v := (20 : Int32)) hx hb dL_moved_59 (by decide +kernel) ?_
        refine lv_isub hx hb dL_moved_61 ?_
        obtain ⟨x_14, ex_14, h⟩ := letM_e h
        refine r_nmi ex_14 ?_
        refine lv_istore (lv' := [(4, .int x_14), (3, .int x_13), (2, .int q_1), (0, .ref (ga g k0)), (1, .int a1)]) hx hb dL_moved_62 hl (by decide) rfl (fun ls hl => ?_)
        refine lv_iload_n hx hb dL_moved_64 rfl (lv_at hl 1 rfl) ?_
        refine lv_if_ge (tgt := 73) hx hb dL_moved_65 (by decide) (fun c_15 => ?_) (fun c_15 => ?_)
        · replace h := ifp c_15 h
          refine lv_iload_n hx hb dL_moved_73 rfl (lv_at hl 1 rfl) ?_
          exact LL_moved_74 hG N k0 a1 t0 X hr hlk r0 I0 I_10 x_13 x_14 x_13 h _ _ _ hP hS (lv_sub hl [3, 1, 0] rfl)
        · replace h := ifn c_15 h
          refine lv_iload_n hx hb dL_moved_68 rfl (lv_at hl 1 rfl) ?_
          refine lv_ineg hx hb dL_moved_69 ?_
          refine lv_goto (tgt := 74) hx hb dL_moved_70 (by decide) ?_
          exact LL_moved_74 hG N k0 a1 t0 X hr hlk r0 I0 I_10 x_13 x_14 (-x_13) h _ _ _ hP hS (lv_sub hl [3, 1, 0] rfl)
      · replace h := ifn c_12 h
        refine lv_iconst (v := (1 : Int32)) hx hb dL_moved_42 (by decide +kernel) ?_
        exact r_zret X hr hlk hP hS rfl dL_moved_43 h
end WALKS
