/-! CALLS THAT FAIL change nothing: errors -/
theorem er_0 {g : GS} (hG : OkG g) : Do (fun N I k => f6_append N I k (256 : Int32)) g (-2 : Int32) g := by
  refine (d_append hG (256 : Int32)).to ?_
  unfold spApp
  rw [if_neg (by decide), l_m2]
theorem er_1 {g : GS} (hG : OkG g) : Do (fun N I k => f6_append N I k (-1 : Int32)) g (-2 : Int32) g := by
  refine (d_append hG (-1 : Int32)).to ?_
  unfold spApp
  rw [if_neg (by decide), l_m2]
theorem er_2 {g : GS} (hG : OkG g) : Do (fun N I k => f6_position N I k (2 : Int32)) g (-1 : Int32) g := by
  refine (d_position hG (2 : Int32)).eqr ?_
  unfold spPos
  rw [if_neg (by decide), l_m1]
theorem er_3 {g : GS} (hG : OkG g) : Do (fun N I k => f6_position N I k (-1 : Int32)) g (-1 : Int32) g := by
  refine (d_position hG (-1 : Int32)).eqr ?_
  unfold spPos
  rw [if_neg (by decide), l_m1]
theorem er_4 {g : GS} (hG : OkG g) : Do (fun N I k => f6_itemAt N I k (zI (nS (sG g) : Int))) g (-1 : Int32) g := by
  refine (d_itemAt hG (zI (nS (sG g) : Int))).eqr ?_
  have h8 := hG.S.b.2.2.2.2
  rw [zI_t (by omega) (by omega)]
  unfold spItem
  rw [if_neg (by omega), l_m1]
theorem er_5 {g : GS} (hG : OkG g) : Do (fun N I k => f6_itemAt N I k (-1 : Int32)) g (-1 : Int32) g := by
  refine (d_itemAt hG (-1 : Int32)).eqr ?_
  unfold spItem
  rw [if_neg (fun c => absurd c.1 (by decide)), l_m1]
theorem er_6 {g : GS} (hG : OkG g) : Do (fun N I k => f6_interval N I k (1000 : Int32)) g (-2 : Int32) g := by
  refine (d_interval hG (1000 : Int32)).eqr ?_
  unfold spInt
  rw [if_neg (by decide), l_m2]
theorem er_7 {g : GS} (hG : OkG g) : Do (fun N I k => f6_interval N I k (-1 : Int32)) g (-2 : Int32) g := by
  refine (d_interval hG (-1 : Int32)).eqr ?_
  unfold spInt
  rw [if_neg (by decide), l_m2]
theorem er_8 {g : GS} (hG : OkG g) : Do (fun N I k => f6_approximateInterval N I k (1000 : Int32)) g (-2 : Int32) g := by
  refine (d_approximateInterval hG (1000 : Int32)).eqr ?_
  unfold spApx
  rw [if_neg (by decide), l_m2]
theorem er_9 {g : GS} (hG : OkG g) : Do (fun N I k => f6_setAcceleration N I k (0 : Int32)) g (-2 : Int32) g := by
  refine (d_setAcceleration hG (0 : Int32)).to ?_
  unfold spSetA
  rw [if_neg (by decide), l_m2]
theorem er_10 {g : GS} (hG : OkG g) : Do (fun N I k => f6_setAcceleration N I k (1000 : Int32)) g (-2 : Int32) g := by
  refine (d_setAcceleration hG (1000 : Int32)).to ?_
  unfold spSetA
  rw [if_neg (by decide), l_m2]
theorem er_11 {g : GS} (hG : OkG g) : Do (fun N I k => f6_setSpeedLimit N I k (0 : Int32)) g (-2 : Int32) g := by
  refine (d_setSpeedLimit hG (0 : Int32)).to ?_
  unfold spSetV
  rw [if_neg (by decide), l_m2]
theorem er_12 {g : GS} (hG : OkG g) : Do (fun N I k => f6_setSpeedLimit N I k (1000 : Int32)) g (-2 : Int32) g := by
  refine (d_setSpeedLimit hG (1000 : Int32)).to ?_
  unfold spSetV
  rw [if_neg (by decide), l_m2]
theorem er_13 {g : GS} (hG : OkG g) : Do (fun N I k => f6_addMove N I k (0 : Int32) (0 : Int32)) g (-2 : Int32) g := by
  refine (d_addMove hG (0 : Int32) (0 : Int32)).to ?_
  unfold spMove
  rw [if_neg (by decide), l_m2]
theorem er_14 {g : GS} (hG : OkG g) : Do (fun N I k => f6_addMove N I k (1000 : Int32) (1 : Int32)) g (-2 : Int32) g := by
  refine (d_addMove hG (1000 : Int32) (1 : Int32)).to ?_
  unfold spMove
  rw [if_neg (by decide), l_m2]
theorem er_15 {g : GS} (hG : OkG g) : Do (fun N I k => f6_addMove N I k (1 : Int32) (-1000 : Int32)) g (-2 : Int32) g := by
  refine (d_addMove hG (1 : Int32) (-1000 : Int32)).to ?_
  unfold spMove
  rw [if_neg (by decide), l_m2]
theorem er_16 {g : GS} (hG : OkG g) : Do (fun N I k => f6_addWait N I k (0 : Int32)) g (-2 : Int32) g := by
  refine (d_addWait hG (0 : Int32)).to ?_
  unfold spWait
  rw [if_neg (by decide), l_m2]
theorem er_17 {g : GS} (hG : OkG g) : Do (fun N I k => f6_addWait N I k (10000 : Int32)) g (-2 : Int32) g := by
  refine (d_addWait hG (10000 : Int32)).to ?_
  unfold spWait
  rw [if_neg (by decide), l_m2]
theorem er_18 {g : GS} (hG : OkG g) : Do (fun N I k => f6_run N I k (0 : Int32)) g (-2 : Int32) g := by
  refine (d_run hG (0 : Int32)).to ?_
  unfold spRun
  rw [if_neg (by decide), l_m2]
theorem er_19 {g : GS} (hG : OkG g) : Do (fun N I k => f6_run N I k (100000 : Int32)) g (-2 : Int32) g := by
  refine (d_run hG (100000 : Int32)).to ?_
  unfold spRun
  rw [if_neg (by decide), l_m2]
theorem er_20 {g : GS} (hG : OkG g) : Do (fun N I k => f6_removeItem N I k (zI (nS (sG g) : Int))) g (-1 : Int32) g := by
  refine (d_removeItem hG (zI (nS (sG g) : Int))).to ?_
  have h8 := hG.S.b.2.2.2.2
  rw [zI_t (by omega) (by omega)]
  unfold spRem
  rw [if_neg (by omega), l_m1]
theorem er_21 {g : GS} (hG : OkG g) : Do (fun N I k => f6_moveTicks N I k (0 : Int32)) g (-2 : Int32) g := by
  refine (d_moveTicks hG (0 : Int32)).eqr ?_
  unfold spMoveT
  rw [if_neg (by decide), l_m2]
theorem er_22 {g : GS} (hG : OkG g) : Do (fun N I k => f6_moveTicks N I k (1000 : Int32)) g (-2 : Int32) g := by
  refine (d_moveTicks hG (1000 : Int32)).eqr ?_
  unfold spMoveT
  rw [if_neg (by decide), l_m2]
theorem er_23 {g : GS} (hG : OkG g) : Do (fun N I k => f6_positionAfter N I k (2 : Int32) (-1 : Int32)) g (-1 : Int32) g := by
  refine (d_positionAfter hG (2 : Int32) (-1 : Int32)).eqr ?_
  unfold spAfter
  rw [if_neg (by decide), l_m1]
theorem er_24 {g : GS} (hG : OkG g) : Do (fun N I k => f6_positionAfter N I k (0 : Int32) (-1 : Int32)) g (-2 : Int32) g := by
  refine (d_positionAfter hG (0 : Int32) (-1 : Int32)).eqr ?_
  unfold spAfter
  rw [if_pos (by decide), if_neg (by decide), l_m2]
theorem er_25 {g : GS} (hG : OkG g) : Do (fun N I k => f6_positionAfter N I k (1 : Int32) (100000 : Int32)) g (-2 : Int32) g := by
  refine (d_positionAfter hG (1 : Int32) (100000 : Int32)).eqr ?_
  unfold spAfter
  rw [if_pos (by decide), if_neg (by decide), l_m2]
theorem er_26 {g : GS} (hG : OkG g) : Do (fun N I k => f6_leastAcceleration N I k (0 : Int32) (1 : Int32)) g (-2 : Int32) g := by
  refine (d_leastAcceleration hG (0 : Int32) (1 : Int32)).eqr ?_
  unfold spLeast
  rw [if_neg (by decide), l_m2]
theorem er_27 {g : GS} (hG : OkG g) : Do (fun N I k => f6_leastAcceleration N I k (1 : Int32) (0 : Int32)) g (-2 : Int32) g := by
  refine (d_leastAcceleration hG (1 : Int32) (0 : Int32)).eqr ?_
  unfold spLeast
  rw [if_neg (by decide), l_m2]
theorem er_28 {g : GS} (hG : OkG g) : Do (fun N I k => f6_greatestLength N I k (0 : Int32)) g (-2 : Int32) g := by
  refine (d_greatestLength hG (0 : Int32)).eqr ?_
  unfold spGreat
  rw [if_neg (by decide), l_m2]
theorem er_29 {g : GS} (hG : OkG g) : Do (fun N I k => f6_greatestLength N I k (100000 : Int32)) g (-2 : Int32) g := by
  refine (d_greatestLength hG (100000 : Int32)).eqr ?_
  unfold spGreat
  rw [if_neg (by decide), l_m2]
theorem er_30 {g : GS} (hG : OkG g) : Do (fun N I k => f6_runScript N I k (0 : Int32) (0 : Int64)) g (-2 : Int32) g := by
  refine (d_runScript hG (0 : Int32) (0 : Int64)).eqr ?_
  unfold spScript
  rw [if_neg (by decide), l_m2]
theorem er_31 {g : GS} (hG : OkG g) : Do (fun N I k => f6_runScript N I k (5 : Int32) (0 : Int64)) g (-2 : Int32) g := by
  refine (d_runScript hG (5 : Int32) (0 : Int64)).eqr ?_
  unfold spScript
  rw [if_neg (fun c => absurd c.2.1 (by decide)), l_m2]
theorem er_32 {g : GS} (hG : OkG g) : Do (fun N I k => f6_runScript N I k (1 : Int32) (10000 : Int64)) g (-2 : Int32) g := by
  refine (d_runScript hG (1 : Int32) (10000 : Int64)).eqr ?_
  unfold spScript
  rw [if_neg (by decide), l_m2]
theorem er_33 {g : GS} (hG : OkG g) : Do (fun N I k => f6_runScript N I k (1 : Int32) (-1 : Int64)) g (-2 : Int32) g := by
  refine (d_runScript hG (1 : Int32) (-1 : Int64)).eqr ?_
  unfold spScript
  rw [if_neg (by decide), l_m2]
theorem er_34 {g : GS} (hG : OkG g) : Do (fun N I k => f6_randomSpeeds N I k (1 : Int64) (0 : Int32)) g (-2 : Int32) g := by
  refine (d_randomSpeeds hG (1 : Int64) (0 : Int32)).eqr ?_
  unfold spRnd
  rw [if_neg (by decide), l_m2]
theorem er_35 {g : GS} (hG : OkG g) : Do (fun N I k => f6_randomSpeeds N I k (1 : Int64) (501 : Int32)) g (-2 : Int32) g := by
  refine (d_randomSpeeds hG (1 : Int64) (501 : Int32)).eqr ?_
  unfold spRnd
  rw [if_neg (by decide), l_m2]
theorem er_36 {g : GS} (hG : OkG g) : Do (fun N I k => f6_save N I k (2 : Int32)) g (-1 : Int32) g := by
  refine (d_save hG (2 : Int32)).to ?_
  unfold spSave
  rw [if_neg (by decide), l_m1]
theorem er_37 {g : GS} (hG : OkG g) : Do (fun N I k => f6_restore N I k (-1 : Int32)) g (-1 : Int32) g := by
  refine (d_restore hG (-1 : Int32)).to ?_
  unfold spRest
  rw [if_neg (by decide), l_m1]
theorem moving_n {s : Sg} (h : OkS s) (c : sM s ≠ 0) : 0 < nS s := by
  obtain ⟨a, v, x, y, t, n, d, m, i, l⟩ := s
  exact (h.2.2.2.2.2.2.2 (Nat.pos_of_ne_zero c)).1
theorem w_err519 {g : GS} (hG : OkG g) : Do (fun N I k => fL_errors_519 N k I (zI (nS (sG g) : Int)) (1 : Int32)) g (1 : Int32) g := by
  have h8 := hG.S.b.2.2.2.2
  unfold fL_errors_519
  refine Do.neg (by decide) ?_
  by_cases c : nS (sG g) = 8
  · rw [c]
    refine Do.neg (by decide) ?_
    refine Do.bind ((d_addMove hG (1 : Int32) (0 : Int32)).to (r := (-4 : Int32)) (g' := g) ?_) ?_
    · unfold spMove spAdd
      rw [if_pos (by decide), if_pos c, l_m4]
    refine Do.pos rfl ?_
    refine Do.bind ((d_addWait hG (1 : Int32)).to (r := (-4 : Int32)) (g' := g) ?_) ?_
    · unfold spWait spAdd
      rw [if_pos (by decide), if_pos c, l_m4]
    refine Do.pos rfl ?_
    exact Do.ret _ _
  · refine Do.pos ?_ (Do.ret _ _)
    rw [l_8, z_lt (by omega) (by omega) (by omega) (by omega)]
    omega
theorem w_err423 {g : GS} (hG : OkG g) : Do (fun N I k => fL_errors_423 N k I (zI (nS (sG g) : Int)) (1 : Int32)) g (1 : Int32) g := by
  have h8 := hG.S.b.2.2.2.2
  unfold fL_errors_423
  refine Do.bind (d_rampIndex hG) ?_
  by_cases c : sM (sG g) = 0
  · refine Do.pos ?_ ?_
    · unfold spRamp
      rw [if_pos c, l_m9]
    refine Do.neg (by decide) ?_
    refine Do.bind ((d_stop hG).to (r := (-3 : Int32)) (g' := g) ?_) ?_
    · unfold spStop
      rw [if_pos c, l_m3]
    refine Do.pos rfl ?_
    by_cases cn : nS (sG g) = 0
    · refine Do.neg ?_ ?_
      · rw [cn]; decide
      refine Do.bind ((d_step hG).to (r := (-3 : Int32)) (g' := g) ?_) ?_
      · unfold spStep
        rw [if_pos cn, l_m3]
      refine Do.pos rfl ?_
      refine Do.bind ((d_run hG (5 : Int32)).to (r := (-3 : Int32)) (g' := g) ?_) ?_
      · unfold spRun
        rw [if_pos (by decide), if_pos cn, l_m3]
      refine Do.pos rfl ?_
      refine Do.bind ((d_ticksLeft hG).eqr (r' := (0 : Int32)) ?_) ?_
      · unfold spLeft
        rw [runS_0 (Or.inl cn)]
        exact Int32.sub_self _
      refine Do.pos rfl ?_
      exact w_err519 hG
    · refine Do.pos ?_ ?_
      · rw [l_0, z_lt (by omega) (by omega) (by omega) (by omega)]
        omega
      exact w_err519 hG
  · have hb := m_bd hG.S
    have hn := moving_n hG.S c
    refine Do.neg ?_ ?_
    · unfold spRamp
      rw [if_neg c, l_m9, z_eq (by omega) (by omega) (by omega) (by omega)]
      omega
    refine Do.neg (by decide) ?_
    refine Do.bind ((d_setAcceleration hG (5 : Int32)).to (r := (-3 : Int32)) (g' := g) ?_) ?_
    · unfold spSetA
      rw [if_pos (by decide), if_pos c, l_m3]
    refine Do.pos rfl ?_
    refine Do.bind ((d_removeItem hG (0 : Int32)).to (r := (-3 : Int32)) (g' := g) ?_) ?_
    · rw [show (0 : Int32).toInt = 0 from rfl]
      unfold spRem
      rw [if_pos (by omega), if_pos ⟨rfl, c⟩, l_m3]
    refine Do.pos rfl ?_
    refine Do.neg ?_ ?_
    · rw [l_0, z_le (by omega) (by omega) (by omega) (by omega)]
      omega
    exact w_err519 hG
theorem w_errors {g : GS} (hG : OkG g) : Do (fun N I k => fL_errors N I k) g (1 : Int32) g := by
  unfold fL_errors
  refine Do.bind (d_queueLength hG) ?_
  refine Do.bind (er_0 hG) ?_
  refine Do.pos rfl ?_
  refine Do.bind (er_1 hG) ?_
  refine Do.pos rfl ?_
  refine Do.bind (er_2 hG) ?_
  refine Do.pos rfl ?_
  refine Do.bind (er_3 hG) ?_
  refine Do.pos rfl ?_
  refine Do.bind (er_4 hG) ?_
  refine Do.pos rfl ?_
  refine Do.bind (er_5 hG) ?_
  refine Do.pos rfl ?_
  refine Do.bind (er_6 hG) ?_
  refine Do.pos rfl ?_
  refine Do.bind (er_7 hG) ?_
  refine Do.pos rfl ?_
  refine Do.bind (er_8 hG) ?_
  refine Do.pos rfl ?_
  refine Do.bind (er_9 hG) ?_
  refine Do.pos rfl ?_
  refine Do.bind (er_10 hG) ?_
  refine Do.pos rfl ?_
  refine Do.bind (er_11 hG) ?_
  refine Do.pos rfl ?_
  refine Do.bind (er_12 hG) ?_
  refine Do.pos rfl ?_
  refine Do.bind (er_13 hG) ?_
  refine Do.pos rfl ?_
  refine Do.bind (er_14 hG) ?_
  refine Do.pos rfl ?_
  refine Do.bind (er_15 hG) ?_
  refine Do.pos rfl ?_
  refine Do.bind (er_16 hG) ?_
  refine Do.pos rfl ?_
  refine Do.bind (er_17 hG) ?_
  refine Do.pos rfl ?_
  refine Do.bind (er_18 hG) ?_
  refine Do.pos rfl ?_
  refine Do.bind (er_19 hG) ?_
  refine Do.pos rfl ?_
  refine Do.bind (er_20 hG) ?_
  refine Do.pos rfl ?_
  refine Do.bind (er_21 hG) ?_
  refine Do.pos rfl ?_
  refine Do.bind (er_22 hG) ?_
  refine Do.pos rfl ?_
  refine Do.bind (er_23 hG) ?_
  refine Do.pos rfl ?_
  refine Do.bind (er_24 hG) ?_
  refine Do.pos rfl ?_
  refine Do.bind (er_25 hG) ?_
  refine Do.pos rfl ?_
  refine Do.bind (er_26 hG) ?_
  refine Do.pos rfl ?_
  refine Do.bind (er_27 hG) ?_
  refine Do.pos rfl ?_
  refine Do.bind (er_28 hG) ?_
  refine Do.pos rfl ?_
  refine Do.bind (er_29 hG) ?_
  refine Do.pos rfl ?_
  refine Do.bind (er_30 hG) ?_
  refine Do.pos rfl ?_
  refine Do.bind (er_31 hG) ?_
  refine Do.pos rfl ?_
  refine Do.bind (er_32 hG) ?_
  refine Do.pos rfl ?_
  refine Do.bind (er_33 hG) ?_
  refine Do.pos rfl ?_
  refine Do.bind (er_34 hG) ?_
  refine Do.pos rfl ?_
  refine Do.bind (er_35 hG) ?_
  refine Do.pos rfl ?_
  refine Do.bind (er_36 hG) ?_
  refine Do.pos rfl ?_
  refine Do.bind (er_37 hG) ?_
  refine Do.pos rfl ?_
  exact w_err423 hG
