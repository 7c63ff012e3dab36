/-! both objects, call by call -/
theorem s_append {N : Nat} {I : Mem} {g : GS} {n : Nat} (hN : 8100 ≤ N) (hn : n < 100000) (hI : Inv I g n) (w0 : Int32) : Two (f6_append N I 0 w0) (fun J => f7_append N J 81 w0) n := by
  obtain ⟨z0, rfl, h1, h2⟩ := zI_of w0
  exact two hI (gd_app hI.2.2) (c_app hI.2.2.1 hI.1 h1 h2) (fun J hJ => m_app hI.2.2.1 hJ h1 h2)
theorem s_clearText {N : Nat} {I : Mem} {g : GS} {n : Nat} (hN : 8100 ≤ N) (hn : n < 100000) (hI : Inv I g n) : Two (f6_clearText N I 0) (fun J => f7_clearText N J 81) n := by
  exact two hI (gd_clr hI.2.2) (c_clr N hI.1) (fun J hJ => m_clr N hJ)
theorem s_errorPosition {N : Nat} {I : Mem} {g : GS} {n : Nat} (hN : 8100 ≤ N) (hn : n < 100000) (hI : Inv I g n) : Two (f6_errorPosition N I 0) (fun J => f7_errorPosition N J 81) n := by
  exact two hI hI.2.2.up (c_err hN hI.2.2.1 hI.1) (fun J hJ => m_err hN hI.2.2.1 hJ)
theorem s_load {N : Nat} {I : Mem} {g : GS} {n : Nat} (hN : 8100 ≤ N) (hn : n < 100000) (hI : Inv I g n) : Two (f6_load N I 0) (fun J => f7_load N J 81) n := by
  exact two hI (gd_load (rd_bd hN hI.2.2.1 hI.1) hI.2.2) (c_load hN hI.2.2.1 hI.1) (fun J hJ => m_load hN hI.2.2.1 (rd_q hN hI.2.2.1 hI.1) hJ)
theorem s_position {N : Nat} {I : Mem} {g : GS} {n : Nat} (hN : 8100 ≤ N) (hn : n < 100000) (hI : Inv I g n) (w0 : Int32) : Two (f6_position N I 0 w0) (fun J => f7_position N J 81 w0) n := by
  obtain ⟨z0, rfl, h1, h2⟩ := zI_of w0
  exact two hI hI.2.2.up (nowC hI.1 (c_pos hI.1 h1 h2)) (fun J hJ => nowM hJ (m_pos hI.2.2.1 hJ h1 h2))
theorem s_clock {N : Nat} {I : Mem} {g : GS} {n : Nat} (hN : 8100 ≤ N) (hn : n < 100000) (hI : Inv I g n) : Two (f6_clock N I 0) (fun J => f7_clock N J 81) n := by
  exact two hI hI.2.2.up (nowC hI.1 (c_clock hI.1)) (fun J hJ => nowM hJ (m_clock N hJ))
theorem s_queueLength {N : Nat} {I : Mem} {g : GS} {n : Nat} (hN : 8100 ≤ N) (hn : n < 100000) (hI : Inv I g n) : Two (f6_queueLength N I 0) (fun J => f7_queueLength N J 81) n := by
  exact two hI hI.2.2.up (nowC hI.1 (c_queue hI.1)) (fun J hJ => nowM hJ (m_queue N hJ))
theorem s_itemAt {N : Nat} {I : Mem} {g : GS} {n : Nat} (hN : 8100 ≤ N) (hn : n < 100000) (hI : Inv I g n) (w0 : Int32) : Two (f6_itemAt N I 0 w0) (fun J => f7_itemAt N J 81 w0) n := by
  obtain ⟨z0, rfl, h1, h2⟩ := zI_of w0
  exact two hI hI.2.2.up (nowC hI.1 (c_item hI.2.2.1 hI.1 h1 h2)) (fun J hJ => nowM hJ (m_item hI.2.2.1 hJ h1 h2))
theorem s_rampIndex {N : Nat} {I : Mem} {g : GS} {n : Nat} (hN : 8100 ≤ N) (hn : n < 100000) (hI : Inv I g n) : Two (f6_rampIndex N I 0) (fun J => f7_rampIndex N J 81) n := by
  exact two hI hI.2.2.up (nowC hI.1 (c_rampI hI.2.2.1 hI.1)) (fun J hJ => nowM hJ (m_ramp N hJ))
theorem s_topIndex {N : Nat} {I : Mem} {g : GS} {n : Nat} (hN : 8100 ≤ N) (hn : n < 100000) (hI : Inv I g n) : Two (f6_topIndex N I 0) (fun J => f7_topIndex N J 81) n := by
  exact two hI hI.2.2.up (c_top hN rfl hI.2.2.1 hI.1) (fun J hJ => m_top hN hI.2.2.1 hJ)
theorem s_interval {N : Nat} {I : Mem} {g : GS} {n : Nat} (hN : 8100 ≤ N) (hn : n < 100000) (hI : Inv I g n) (w0 : Int32) : Two (f6_interval N I 0 w0) (fun J => f7_interval N J 81 w0) n := by
  obtain ⟨z0, rfl, h1, h2⟩ := zI_of w0
  exact two hI hI.2.2.up (c_int hN rfl hI.2.2.1 hI.1 h1 h2) (fun J hJ => m_int hN hI.2.2.1 hJ h1 h2)
theorem s_approximateInterval {N : Nat} {I : Mem} {g : GS} {n : Nat} (hN : 8100 ≤ N) (hn : n < 100000) (hI : Inv I g n) (w0 : Int32) : Two (f6_approximateInterval N I 0 w0) (fun J => f7_approximateInterval N J 81 w0) n := by
  obtain ⟨z0, rfl, h1, h2⟩ := zI_of w0
  exact two hI hI.2.2.up (c_apx hN rfl hI.2.2.1 hI.1 h1 h2) (fun J hJ => m_apx hN hI.2.2.1 hJ h1 h2)
theorem s_setAcceleration {N : Nat} {I : Mem} {g : GS} {n : Nat} (hN : 8100 ≤ N) (hn : n < 100000) (hI : Inv I g n) (w0 : Int32) : Two (f6_setAcceleration N I 0 w0) (fun J => f7_setAcceleration N J 81 w0) n := by
  obtain ⟨z0, rfl, h1, h2⟩ := zI_of w0
  exact two hI (gd_setA hI.2.2 hn) (c_setA hN rfl hI.2.2.1 hI.1 h1 h2) (fun J hJ => m_setA hN hI.2.2.1 hJ h1 h2)
theorem s_setSpeedLimit {N : Nat} {I : Mem} {g : GS} {n : Nat} (hN : 8100 ≤ N) (hn : n < 100000) (hI : Inv I g n) (w0 : Int32) : Two (f6_setSpeedLimit N I 0 w0) (fun J => f7_setSpeedLimit N J 81 w0) n := by
  obtain ⟨z0, rfl, h1, h2⟩ := zI_of w0
  exact two hI (gd_setV hI.2.2 hn) (c_setV hN rfl hI.2.2.1 hI.1 h1 h2) (fun J hJ => m_setV hN hI.2.2.1 hJ h1 h2)
theorem s_addMove {N : Nat} {I : Mem} {g : GS} {n : Nat} (hN : 8100 ≤ N) (hn : n < 100000) (hI : Inv I g n) (w0 : Int32) (w1 : Int32) : Two (f6_addMove N I 0 w0 w1) (fun J => f7_addMove N J 81 w0 w1) n := by
  obtain ⟨z0, rfl, h1, h2⟩ := zI_of w0
  obtain ⟨z1, rfl, h3, h4⟩ := zI_of w1
  exact two hI (gd_move hI.2.2 hn) (c_move hN rfl hI.2.2.1 hI.1 h1 h2 h3 h4) (fun J hJ => m_move hN hI.2.2.1 hJ h1 h2 h3 h4)
theorem s_addWait {N : Nat} {I : Mem} {g : GS} {n : Nat} (hN : 8100 ≤ N) (hn : n < 100000) (hI : Inv I g n) (w0 : Int32) : Two (f6_addWait N I 0 w0) (fun J => f7_addWait N J 81 w0) n := by
  obtain ⟨z0, rfl, h1, h2⟩ := zI_of w0
  exact two hI (gd_wait hI.2.2 hn) (c_wait hN rfl hI.2.2.1 hI.1 h1 h2) (fun J hJ => m_wait hN hI.2.2.1 hJ h1 h2)
theorem s_step {N : Nat} {I : Mem} {g : GS} {n : Nat} (hN : 8100 ≤ N) (hn : n < 100000) (hI : Inv I g n) : Two (f6_step N I 0) (fun J => f7_step N J 81) n := by
  exact two hI (gd_step hI.2.2 hn) (c_step hN rfl hI.2.2.1 hI.1) (fun J hJ => m_step hN hI.2.2.1 hJ)
theorem s_run {N : Nat} {I : Mem} {g : GS} {n : Nat} (hN : 8100 ≤ N) (hn : n < 100000) (hI : Inv I g n) (w0 : Int32) : Two (f6_run N I 0 w0) (fun J => f7_run N J 81 w0) n := by
  obtain ⟨z0, rfl, h1, h2⟩ := zI_of w0
  exact two hI (gd_run hI.2.2 hn) (c_run hN rfl hI.2.2.1 hI.1 h1 h2) (fun J hJ => m_run hN hI.2.2.1 hJ h1 h2)
theorem s_stop {N : Nat} {I : Mem} {g : GS} {n : Nat} (hN : 8100 ≤ N) (hn : n < 100000) (hI : Inv I g n) : Two (f6_stop N I 0) (fun J => f7_stop N J 81) n := by
  exact two hI (gd_stop hI.2.2 hn) (c_stop hN rfl hI.2.2.1 hI.1) (fun J hJ => m_stop hN hI.2.2.1 hJ)
theorem s_removeItem {N : Nat} {I : Mem} {g : GS} {n : Nat} (hN : 8100 ≤ N) (hn : n < 100000) (hI : Inv I g n) (w0 : Int32) : Two (f6_removeItem N I 0 w0) (fun J => f7_removeItem N J 81 w0) n := by
  obtain ⟨z0, rfl, h1, h2⟩ := zI_of w0
  exact two hI (gd_rem hI.2.2 hn) (c_rem hN rfl hI.2.2.1 hI.1 h1 h2) (fun J hJ => m_rem hN hI.2.2.1 hJ h1 h2)
theorem s_undo {N : Nat} {I : Mem} {g : GS} {n : Nat} (hN : 8100 ≤ N) (hn : n < 100000) (hI : Inv I g n) : Two (f6_undo N I 0) (fun J => f7_undo N J 81) n := by
  exact two hI (gd_undo hI.2.2) (c_undo hN rfl hI.2.2.1 hI.1) (fun J hJ => m_undo hN hI.2.2.1 hJ)
theorem s_ticksLeft {N : Nat} {I : Mem} {g : GS} {n : Nat} (hN : 8100 ≤ N) (hn : n < 100000) (hI : Inv I g n) : Two (f6_ticksLeft N I 0) (fun J => f7_ticksLeft N J 81) n := by
  exact two hI hI.2.2.up (c_left hN hI.2.2.1 hI.1) (fun J hJ => m_left hN hI.2.2.1 hJ)
theorem s_moveTicks {N : Nat} {I : Mem} {g : GS} {n : Nat} (hN : 8100 ≤ N) (hn : n < 100000) (hI : Inv I g n) (w0 : Int32) : Two (f6_moveTicks N I 0 w0) (fun J => f7_moveTicks N J 81 w0) n := by
  obtain ⟨z0, rfl, h1, h2⟩ := zI_of w0
  exact two hI hI.2.2.up (c_moveT hN rfl hI.2.2.1 hI.1 h1 h2) (fun J hJ => m_moveT hN hI.2.2.1 hJ h1 h2)
theorem s_positionAfter {N : Nat} {I : Mem} {g : GS} {n : Nat} (hN : 8100 ≤ N) (hn : n < 100000) (hI : Inv I g n) (w0 : Int32) (w1 : Int32) : Two (f6_positionAfter N I 0 w0 w1) (fun J => f7_positionAfter N J 81 w0 w1) n := by
  obtain ⟨z0, rfl, h1, h2⟩ := zI_of w0
  obtain ⟨z1, rfl, h3, h4⟩ := zI_of w1
  exact two hI hI.2.2.up (c_after hN hI.2.2.1 hI.1 h1 h2 h3 h4) (fun J hJ => m_after hN hI.2.2.1 hJ h1 h2 h3 h4)
theorem s_leastAcceleration {N : Nat} {I : Mem} {g : GS} {n : Nat} (hN : 8100 ≤ N) (hn : n < 100000) (hI : Inv I g n) (w0 : Int32) (w1 : Int32) : Two (f6_leastAcceleration N I 0 w0 w1) (fun J => f7_leastAcceleration N J 81 w0 w1) n := by
  obtain ⟨z0, rfl, h1, h2⟩ := zI_of w0
  obtain ⟨z1, rfl, h3, h4⟩ := zI_of w1
  exact two hI hI.2.2.up (nowC hI.1 (c_least hN hI.2.2.1 hI.1 h1 h2 h3 h4)) (fun J hJ => m_least hN hI.2.2.1 hJ h1 h2 h3 h4)
theorem s_greatestLength {N : Nat} {I : Mem} {g : GS} {n : Nat} (hN : 8100 ≤ N) (hn : n < 100000) (hI : Inv I g n) (w0 : Int32) : Two (f6_greatestLength N I 0 w0) (fun J => f7_greatestLength N J 81 w0) n := by
  obtain ⟨z0, rfl, h1, h2⟩ := zI_of w0
  exact two hI hI.2.2.up (c_great hN rfl hI.2.2.1 hI.1 h1 h2) (fun J hJ => m_great hN hI.2.2.1 hJ h1 h2)
theorem s_runScript {N : Nat} {I : Mem} {g : GS} {n : Nat} (hN : 8100 ≤ N) (hn : n < 100000) (hI : Inv I g n) (w0 : Int32) (w1 : Int64) : Two (f6_runScript N I 0 w0 w1) (fun J => f7_runScript N J 81 w0 w1) n := by
  obtain ⟨z0, rfl, h1, h2⟩ := zI_of w0
  obtain ⟨z1, rfl, h3, h4⟩ := yI_of w1
  exact two hI hI.2.2.up (c_script hN hI.2.2.1 hI.1 h1 h2 h3 h4) (fun J hJ => m_script hN hI.2.2.1 hJ h1 h2 h3 h4)
theorem s_randomSpeeds {N : Nat} {I : Mem} {g : GS} {n : Nat} (hN : 8100 ≤ N) (hn : n < 100000) (hI : Inv I g n) (x : Int64) (w1 : Int32) : Two (f6_randomSpeeds N I 0 x w1) (fun J => f7_randomSpeeds N J 81 x w1) n := by
  obtain ⟨z1, rfl, h1, h2⟩ := zI_of w1
  exact two hI hI.2.2.up (c_rnd x hN hI.2.2.1 hI.1 h1 h2) (fun J hJ => m_rnd x hN hI.2.2.1 hJ h1 h2)
theorem s_save {N : Nat} {I : Mem} {g : GS} {n : Nat} (hN : 8100 ≤ N) (hn : n < 100000) (hI : Inv I g n) (w0 : Int32) : Two (f6_save N I 0 w0) (fun J => f7_save N J 81 w0) n := by
  obtain ⟨z0, rfl, h1, h2⟩ := zI_of w0
  exact two hI (gd_save hI.2.2) (c_save hN rfl hI.2.2.1 hI.1 h1 h2) (fun J hJ => m_save hN hI.2.2.1 hJ h1 h2)
theorem s_restore {N : Nat} {I : Mem} {g : GS} {n : Nat} (hN : 8100 ≤ N) (hn : n < 100000) (hI : Inv I g n) (w0 : Int32) : Two (f6_restore N I 0 w0) (fun J => f7_restore N J 81 w0) n := by
  obtain ⟨z0, rfl, h1, h2⟩ := zI_of w0
  exact two hI (gd_rest hI.2.2) (c_rest hN rfl hI.2.2.1 hI.1 h1 h2) (fun J hJ => m_rest hN hI.2.2.1 hJ h1 h2)
