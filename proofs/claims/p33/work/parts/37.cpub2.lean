/-! THE CLASS' PUBLIC METHODS, actions -/
theorem c_add {N : Nat} {I : Mem} {k : Nat} {g : GS} {q : Itm} (hN : 8100 ≤ N) (hk : k = 0 ∨ k = 81) (hG : OkG g) (h : CInv I k g) (hn : nS (sG g) ≠ 8) : ∃ I2 I1, f0_remember N I (k+11) (k+3) = some I2 ∧ f5_addItem N I2 (k+3) (zI q.1) (zI q.2.1) (zI q.2.2) = some I1 ∧ I1 (k+3) 5 = zI ((nS (sG g) + 1 : Nat) : Int) ∧ CInv I1 k (actG g (addI (sG g) q)) ∧ ∀ x, (x < k ∨ k + 81 ≤ x) → I1 x = I x := by
  have hb := hG.S.b
  obtain ⟨I2, p1, p2, p3⟩ := e0_remember (N := N) (by omega) hk hG h
  have hS := p2.now
  rw [sG_rm] at hS
  obtain ⟨I1, q1, q2, q3⟩ := e5_addItem N (q := q) hG.S (by omega) hS
  refine ⟨I2, I1, p1, q1, ?_, p2.act q3 q2, fun x hx => by rw [q3 x (by omega), p3 x hx]⟩
  rw [q2.n]
  generalize sG g = s
  obtain ⟨a, v, x, y, t, n, d, r⟩ := s
  rfl
theorem c_move_25 {N : Nat} {I : Mem} {k : Nat} {g : GS} {z w : Int} (hN : 8100 ≤ N) (hk : k = 0 ∨ k = 81) (hG : OkG g) (h : CInv I k g) : ∃ I1, f6_addMove_25 N k (zI z) (zI w) I = some ((spAdd g (z, w, 0)).1, I1) ∧ CInv I1 k (spAdd g (z, w, 0)).2 ∧ ∀ x, (x < k ∨ k + 81 ≤ x) → I1 x = I x := by
  have hb := hG.S.b
  have e1 := e5_isFull N h.now.n hb.2.2.2.2
  unfold f6_addMove_25 spAdd
  by_cases c : nS (sG g) = 8
  · rw [if_pos c] at e1 ⊢
    refine ⟨I, ?_, h, fun _ _ => rfl⟩
    simp (disch := omega) only [e1, letM_s, clP_s, clM_s, l_m89910, l_m999, l_m9, l_m4, l_m3, l_m2, l_m1, l_0, l_1, l_2, l_3, l_4, l_5, l_6, l_7, l_8, l_9, l_10, l_11, l_12, l_13, l_14, l_18, l_31, l_32, l_33, l_43, l_45, l_48, l_57, l_64, l_66, l_80, l_97, l_100, l_109, l_118, l_119, l_200, l_255, l_462, l_500, l_676, l_999, l_1000, l_1001, l_9999, l_10000, l_99999, l_100000, l_447214, l_1000000000, m_m999, m_m9, m_0, m_1, m_2, m_4, m_9, m_255, m_500, m_999, m_9999, m_10000, m_99999, m_200000000, m_4294967295, m_1442695040888963407, m_6364136223846793005, z_add, z_sub, z_mul, z_neg, y_add, y_sub, y_mul, y_neg, z_toL, y_toI, cmp_lt, cmp_gt, cmp_le, cmp_ge, z_lt, z_le, z_eq, y_lt, y_le, y_eq, if_pos, if_neg, ite_true, ite_false]
  · rw [if_neg c] at e1 ⊢
    obtain ⟨I2, I1, p1, p2, p3, p4, p5⟩ := c_add (q := (z, w, 0)) hN hk hG h c
    refine ⟨I1, ?_, p4, p5⟩
    have p2' : f5_addItem N I2 (k+3) (zI z) (zI w) (zI 0) = some I1 := p2
    simp (disch := omega) only [e1, p1, p2', p3, letM_s, clP_s, clM_s, l_m89910, l_m999, l_m9, l_m4, l_m3, l_m2, l_m1, l_0, l_1, l_2, l_3, l_4, l_5, l_6, l_7, l_8, l_9, l_10, l_11, l_12, l_13, l_14, l_18, l_31, l_32, l_33, l_43, l_45, l_48, l_57, l_64, l_66, l_80, l_97, l_100, l_109, l_118, l_119, l_200, l_255, l_462, l_500, l_676, l_999, l_1000, l_1001, l_9999, l_10000, l_99999, l_100000, l_447214, l_1000000000, m_m999, m_m9, m_0, m_1, m_2, m_4, m_9, m_255, m_500, m_999, m_9999, m_10000, m_99999, m_200000000, m_4294967295, m_1442695040888963407, m_6364136223846793005, z_add, z_sub, z_mul, z_neg, y_add, y_sub, y_mul, y_neg, z_toL, y_toI, cmp_lt, cmp_gt, cmp_le, cmp_ge, z_lt, z_le, z_eq, y_lt, y_le, y_eq, if_pos, if_neg, ite_true, ite_false]
theorem c_move {N : Nat} {I : Mem} {k : Nat} {g : GS} {z w : Int} (hN : 8100 ≤ N) (hk : k = 0 ∨ k = 81) (hG : OkG g) (h : CInv I k g) (h1 : -2147483648 ≤ z) (h2 : z < 2147483648) (h3 : -2147483648 ≤ w) (h4 : w < 2147483648) : ∃ I1, f6_addMove N I k (zI z) (zI w) = some ((spMove g z w).1, I1) ∧ CInv I1 k (spMove g z w).2 ∧ ∀ x, (x < k ∨ k + 81 ≤ x) → I1 x = I x := by
  have e1 := c_dist N I h1 h2
  have e2 := c_dist N I h3 h4
  unfold f6_addMove spMove
  by_cases c1 : -999 ≤ z ∧ z ≤ 999
  · rw [if_pos c1] at e1
    by_cases c2 : -999 ≤ w ∧ w ≤ 999
    · rw [if_pos c2] at e2
      obtain ⟨I1, p1, p2, p3⟩ := c_move_25 (z := z) (w := w) hN hk hG h
      by_cases c3 : z = 0
      · by_cases c4 : w = 0
        · rw [if_neg (fun q => q.2.2.2.2 ⟨c3, c4⟩)]
          refine ⟨I, ?_, h, fun _ _ => rfl⟩
          simp (disch := omega) only [e1, e2, letM_s, clP_s, clM_s, l_m89910, l_m999, l_m9, l_m4, l_m3, l_m2, l_m1, l_0, l_1, l_2, l_3, l_4, l_5, l_6, l_7, l_8, l_9, l_10, l_11, l_12, l_13, l_14, l_18, l_31, l_32, l_33, l_43, l_45, l_48, l_57, l_64, l_66, l_80, l_97, l_100, l_109, l_118, l_119, l_200, l_255, l_462, l_500, l_676, l_999, l_1000, l_1001, l_9999, l_10000, l_99999, l_100000, l_447214, l_1000000000, m_m999, m_m9, m_0, m_1, m_2, m_4, m_9, m_255, m_500, m_999, m_9999, m_10000, m_99999, m_200000000, m_4294967295, m_1442695040888963407, m_6364136223846793005, z_add, z_sub, z_mul, z_neg, y_add, y_sub, y_mul, y_neg, z_toL, y_toI, cmp_lt, cmp_gt, cmp_le, cmp_ge, z_lt, z_le, z_eq, y_lt, y_le, y_eq, if_pos, if_neg, ite_true, ite_false]
        · rw [if_pos ⟨c1.1, c1.2, c2.1, c2.2, fun q => c4 q.2⟩]
          refine ⟨I1, ?_, p2, p3⟩
          simp (disch := omega) only [e1, e2, letM_s, clP_s, clM_s, l_m89910, l_m999, l_m9, l_m4, l_m3, l_m2, l_m1, l_0, l_1, l_2, l_3, l_4, l_5, l_6, l_7, l_8, l_9, l_10, l_11, l_12, l_13, l_14, l_18, l_31, l_32, l_33, l_43, l_45, l_48, l_57, l_64, l_66, l_80, l_97, l_100, l_109, l_118, l_119, l_200, l_255, l_462, l_500, l_676, l_999, l_1000, l_1001, l_9999, l_10000, l_99999, l_100000, l_447214, l_1000000000, m_m999, m_m9, m_0, m_1, m_2, m_4, m_9, m_255, m_500, m_999, m_9999, m_10000, m_99999, m_200000000, m_4294967295, m_1442695040888963407, m_6364136223846793005, z_add, z_sub, z_mul, z_neg, y_add, y_sub, y_mul, y_neg, z_toL, y_toI, cmp_lt, cmp_gt, cmp_le, cmp_ge, z_lt, z_le, z_eq, y_lt, y_le, y_eq, if_pos, if_neg, ite_true, ite_false, p1]
      · rw [if_pos ⟨c1.1, c1.2, c2.1, c2.2, fun q => c3 q.1⟩]
        refine ⟨I1, ?_, p2, p3⟩
        simp (disch := omega) only [e1, e2, letM_s, clP_s, clM_s, l_m89910, l_m999, l_m9, l_m4, l_m3, l_m2, l_m1, l_0, l_1, l_2, l_3, l_4, l_5, l_6, l_7, l_8, l_9, l_10, l_11, l_12, l_13, l_14, l_18, l_31, l_32, l_33, l_43, l_45, l_48, l_57, l_64, l_66, l_80, l_97, l_100, l_109, l_118, l_119, l_200, l_255, l_462, l_500, l_676, l_999, l_1000, l_1001, l_9999, l_10000, l_99999, l_100000, l_447214, l_1000000000, m_m999, m_m9, m_0, m_1, m_2, m_4, m_9, m_255, m_500, m_999, m_9999, m_10000, m_99999, m_200000000, m_4294967295, m_1442695040888963407, m_6364136223846793005, z_add, z_sub, z_mul, z_neg, y_add, y_sub, y_mul, y_neg, z_toL, y_toI, cmp_lt, cmp_gt, cmp_le, cmp_ge, z_lt, z_le, z_eq, y_lt, y_le, y_eq, if_pos, if_neg, ite_true, ite_false, p1]
    · rw [if_neg c2] at e2
      rw [if_neg (fun q => c2 ⟨q.2.2.1, q.2.2.2.1⟩)]
      refine ⟨I, ?_, h, fun _ _ => rfl⟩
      simp (disch := omega) only [e1, e2, letM_s, clP_s, clM_s, l_m89910, l_m999, l_m9, l_m4, l_m3, l_m2, l_m1, l_0, l_1, l_2, l_3, l_4, l_5, l_6, l_7, l_8, l_9, l_10, l_11, l_12, l_13, l_14, l_18, l_31, l_32, l_33, l_43, l_45, l_48, l_57, l_64, l_66, l_80, l_97, l_100, l_109, l_118, l_119, l_200, l_255, l_462, l_500, l_676, l_999, l_1000, l_1001, l_9999, l_10000, l_99999, l_100000, l_447214, l_1000000000, m_m999, m_m9, m_0, m_1, m_2, m_4, m_9, m_255, m_500, m_999, m_9999, m_10000, m_99999, m_200000000, m_4294967295, m_1442695040888963407, m_6364136223846793005, z_add, z_sub, z_mul, z_neg, y_add, y_sub, y_mul, y_neg, z_toL, y_toI, cmp_lt, cmp_gt, cmp_le, cmp_ge, z_lt, z_le, z_eq, y_lt, y_le, y_eq, if_pos, if_neg, ite_true, ite_false]
  · rw [if_neg c1] at e1
    rw [if_neg (fun q => c1 ⟨q.1, q.2.1⟩)]
    refine ⟨I, ?_, h, fun _ _ => rfl⟩
    simp (disch := omega) only [e1, letM_s, clP_s, clM_s, l_m89910, l_m999, l_m9, l_m4, l_m3, l_m2, l_m1, l_0, l_1, l_2, l_3, l_4, l_5, l_6, l_7, l_8, l_9, l_10, l_11, l_12, l_13, l_14, l_18, l_31, l_32, l_33, l_43, l_45, l_48, l_57, l_64, l_66, l_80, l_97, l_100, l_109, l_118, l_119, l_200, l_255, l_462, l_500, l_676, l_999, l_1000, l_1001, l_9999, l_10000, l_99999, l_100000, l_447214, l_1000000000, m_m999, m_m9, m_0, m_1, m_2, m_4, m_9, m_255, m_500, m_999, m_9999, m_10000, m_99999, m_200000000, m_4294967295, m_1442695040888963407, m_6364136223846793005, z_add, z_sub, z_mul, z_neg, y_add, y_sub, y_mul, y_neg, z_toL, y_toI, cmp_lt, cmp_gt, cmp_le, cmp_ge, z_lt, z_le, z_eq, y_lt, y_le, y_eq, if_pos, if_neg, ite_true, ite_false]
theorem c_wait {N : Nat} {I : Mem} {k : Nat} {g : GS} {z : Int} (hN : 8100 ≤ N) (hk : k = 0 ∨ k = 81) (hG : OkG g) (h : CInv I k g) (h1 : -2147483648 ≤ z) (h2 : z < 2147483648) : ∃ I1, f6_addWait N I k (zI z) = some ((spWait g z).1, I1) ∧ CInv I1 k (spWait g z).2 ∧ ∀ x, (x < k ∨ k + 81 ≤ x) → I1 x = I x := by
  have hb := hG.S.b
  have e1 := c_bit N I (w := 9999) h1 h2 (by omega) (by omega)
  have e2 := e5_isFull N h.now.n hb.2.2.2.2
  unfold f6_addWait spWait spAdd
  by_cases c1 : 1 ≤ z ∧ z ≤ 9999
  · rw [if_pos c1] at e1 ⊢
    by_cases c : nS (sG g) = 8
    · rw [if_pos c] at e2 ⊢
      refine ⟨I, ?_, h, fun _ _ => rfl⟩
      simp (disch := omega) only [e1, e2, letM_s, clP_s, clM_s, l_m89910, l_m999, l_m9, l_m4, l_m3, l_m2, l_m1, l_0, l_1, l_2, l_3, l_4, l_5, l_6, l_7, l_8, l_9, l_10, l_11, l_12, l_13, l_14, l_18, l_31, l_32, l_33, l_43, l_45, l_48, l_57, l_64, l_66, l_80, l_97, l_100, l_109, l_118, l_119, l_200, l_255, l_462, l_500, l_676, l_999, l_1000, l_1001, l_9999, l_10000, l_99999, l_100000, l_447214, l_1000000000, m_m999, m_m9, m_0, m_1, m_2, m_4, m_9, m_255, m_500, m_999, m_9999, m_10000, m_99999, m_200000000, m_4294967295, m_1442695040888963407, m_6364136223846793005, z_add, z_sub, z_mul, z_neg, y_add, y_sub, y_mul, y_neg, z_toL, y_toI, cmp_lt, cmp_gt, cmp_le, cmp_ge, z_lt, z_le, z_eq, y_lt, y_le, y_eq, if_pos, if_neg, ite_true, ite_false]
    · rw [if_neg c] at e2 ⊢
      obtain ⟨I2, I1, p1, p2, p3, p4, p5⟩ := c_add (q := (0, 0, z)) hN hk hG h c
      refine ⟨I1, ?_, p4, p5⟩
      have p2' : f5_addItem N I2 (k+3) (zI 0) (zI 0) (zI z) = some I1 := p2
      simp (disch := omega) only [e1, e2, p1, p2', p3, letM_s, clP_s, clM_s, l_m89910, l_m999, l_m9, l_m4, l_m3, l_m2, l_m1, l_0, l_1, l_2, l_3, l_4, l_5, l_6, l_7, l_8, l_9, l_10, l_11, l_12, l_13, l_14, l_18, l_31, l_32, l_33, l_43, l_45, l_48, l_57, l_64, l_66, l_80, l_97, l_100, l_109, l_118, l_119, l_200, l_255, l_462, l_500, l_676, l_999, l_1000, l_1001, l_9999, l_10000, l_99999, l_100000, l_447214, l_1000000000, m_m999, m_m9, m_0, m_1, m_2, m_4, m_9, m_255, m_500, m_999, m_9999, m_10000, m_99999, m_200000000, m_4294967295, m_1442695040888963407, m_6364136223846793005, z_add, z_sub, z_mul, z_neg, y_add, y_sub, y_mul, y_neg, z_toL, y_toI, cmp_lt, cmp_gt, cmp_le, cmp_ge, z_lt, z_le, z_eq, y_lt, y_le, y_eq, if_pos, if_neg, ite_true, ite_false]
  · rw [if_neg c1] at e1 ⊢
    refine ⟨I, ?_, h, fun _ _ => rfl⟩
    simp (disch := omega) only [e1, letM_s, clP_s, clM_s, l_m89910, l_m999, l_m9, l_m4, l_m3, l_m2, l_m1, l_0, l_1, l_2, l_3, l_4, l_5, l_6, l_7, l_8, l_9, l_10, l_11, l_12, l_13, l_14, l_18, l_31, l_32, l_33, l_43, l_45, l_48, l_57, l_64, l_66, l_80, l_97, l_100, l_109, l_118, l_119, l_200, l_255, l_462, l_500, l_676, l_999, l_1000, l_1001, l_9999, l_10000, l_99999, l_100000, l_447214, l_1000000000, m_m999, m_m9, m_0, m_1, m_2, m_4, m_9, m_255, m_500, m_999, m_9999, m_10000, m_99999, m_200000000, m_4294967295, m_1442695040888963407, m_6364136223846793005, z_add, z_sub, z_mul, z_neg, y_add, y_sub, y_mul, y_neg, z_toL, y_toI, cmp_lt, cmp_gt, cmp_le, cmp_ge, z_lt, z_le, z_eq, y_lt, y_le, y_eq, if_pos, if_neg, ite_true, ite_false]
/-- a run as an action -/
theorem c_adv {N : Nat} {I : Mem} {k f : Nat} {K : Int} {g : GS} (hN : 8100 ≤ N) (hk : k = 0 ∨ k = 81) (hG : OkG g) (h : CInv I k g) (hf : f ≤ 1000000000) (hK : 0 ≤ K) (hK2 : K ≤ 1000000000) : ∃ I2 I1, f0_remember N I (k+11) (k+3) = some I2 ∧ I2 (k+3) 4 = sT (sG g) ∧ f5_advance N I2 (k+3) (k+79) (zI (f : Int)) (zI K) = some (zI ((runS f K (sG g)).1 : Int), I1) ∧ I1 (k+3) 4 = sT (runS f K (sG g)).2 ∧ CInv I1 k (actG g (runS f K (sG g)).2) ∧ ∀ x, (x < k ∨ k + 81 ≤ x) → I1 x = I x := by
  obtain ⟨I2, p1, p2, p3⟩ := e0_remember (N := N) (by omega) hk hG h
  have hS := p2.now
  rw [sG_rm] at hS
  obtain ⟨I1, q1, q2, q3, q4⟩ := e5_advance (N := N) (k := k + 3) (k1 := k + 79) (by omega) (by omega) hf hK hK2 hG.S hS p2.R
  exact ⟨I2, I1, p1, hS.t, q1, q2.t, p2.set (fun x a b c => q4 x (by omega) b c) q2 q3, fun x hx => by rw [q4 x (by omega) (by omega) (by omega), p3 x hx]⟩
theorem run1 {s : Sg} (hO : OkS s) (hn : nS s ≠ 0) : runS 1 1000000000 s = (1, stepS s) := by
  have hb := tkS_bd hO (Nat.pos_of_ne_zero hn)
  rw [runS, if_neg (fun q => q.elim hn (fun e => by omega))]
  rfl
theorem c_step {N : Nat} {I : Mem} {k : Nat} {g : GS} (hN : 8100 ≤ N) (hk : k = 0 ∨ k = 81) (hG : OkG g) (h : CInv I k g) : ∃ I1, f6_step N I k = some ((spStep g).1, I1) ∧ CInv I1 k (spStep g).2 ∧ ∀ x, (x < k ∨ k + 81 ≤ x) → I1 x = I x := by
  have hb := hG.S.b
  have hn := h.now.n
  unfold f6_step spStep
  by_cases c : nS (sG g) = 0
  · rw [if_pos c]
    rw [c] at hn
    have hn' : I (k+3) 5 = zI 0 := hn
    refine ⟨I, ?_, h, fun _ _ => rfl⟩
    rw [hn', l_0]
    simp (disch := omega) only [z_eq, if_pos, if_true]
    rfl
  · rw [if_neg c]
    obtain ⟨I2, I1, p1, p2, p3, p4, p5, p6⟩ := c_adv (f := 1) (K := 1000000000) hN hk hG h (by omega) (by omega) (by omega)
    have e1 := run1 hG.S c
    have e2 := sT_step (s := sG g)
    rw [e1] at p3 p4 p5
    refine ⟨I1, ?_, p5, p6⟩
    have p3' : f5_advance N I2 (k+3) (k+79) (zI 1) (zI 1000000000) = some (zI 1, I1) := p3
    rw [hn]
    simp (disch := omega) only [p1, p2, p3', p4, e2, letM_s, clP_s, clM_s, l_m89910, l_m999, l_m9, l_m4, l_m3, l_m2, l_m1, l_0, l_1, l_2, l_3, l_4, l_5, l_6, l_7, l_8, l_9, l_10, l_11, l_12, l_13, l_14, l_18, l_31, l_32, l_33, l_43, l_45, l_48, l_57, l_64, l_66, l_80, l_97, l_100, l_109, l_118, l_119, l_200, l_255, l_462, l_500, l_676, l_999, l_1000, l_1001, l_9999, l_10000, l_99999, l_100000, l_447214, l_1000000000, m_m999, m_m9, m_0, m_1, m_2, m_4, m_9, m_255, m_500, m_999, m_9999, m_10000, m_99999, m_200000000, m_4294967295, m_1442695040888963407, m_6364136223846793005, z_add, z_sub, z_mul, z_neg, y_add, y_sub, y_mul, y_neg, z_toL, y_toI, cmp_lt, cmp_gt, cmp_le, cmp_ge, z_lt, z_le, z_eq, y_lt, y_le, y_eq, if_pos, if_neg, ite_true, ite_false]
    rw [Int32.add_comm, Int32.add_sub_cancel]
theorem c_run {N : Nat} {I : Mem} {k : Nat} {g : GS} {z : Int} (hN : 8100 ≤ N) (hk : k = 0 ∨ k = 81) (hG : OkG g) (h : CInv I k g) (h1 : -2147483648 ≤ z) (h2 : z < 2147483648) : ∃ I1, f6_run N I k (zI z) = some ((spRun g z).1, I1) ∧ CInv I1 k (spRun g z).2 ∧ ∀ x, (x < k ∨ k + 81 ≤ x) → I1 x = I x := by
  have hb := hG.S.b
  have hn := h.now.n
  have e1 := c_bit N I (w := 99999) h1 h2 (by omega) (by omega)
  unfold f6_run spRun
  by_cases c1 : 1 ≤ z ∧ z ≤ 99999
  · rw [if_pos c1] at e1 ⊢
    by_cases c : nS (sG g) = 0
    · rw [if_pos c]
      rw [c] at hn
      have hn' : I (k+3) 5 = zI 0 := hn
      refine ⟨I, ?_, h, fun _ _ => rfl⟩
      simp (disch := omega) only [e1, hn', letM_s, clP_s, clM_s, l_m89910, l_m999, l_m9, l_m4, l_m3, l_m2, l_m1, l_0, l_1, l_2, l_3, l_4, l_5, l_6, l_7, l_8, l_9, l_10, l_11, l_12, l_13, l_14, l_18, l_31, l_32, l_33, l_43, l_45, l_48, l_57, l_64, l_66, l_80, l_97, l_100, l_109, l_118, l_119, l_200, l_255, l_462, l_500, l_676, l_999, l_1000, l_1001, l_9999, l_10000, l_99999, l_100000, l_447214, l_1000000000, m_m999, m_m9, m_0, m_1, m_2, m_4, m_9, m_255, m_500, m_999, m_9999, m_10000, m_99999, m_200000000, m_4294967295, m_1442695040888963407, m_6364136223846793005, z_add, z_sub, z_mul, z_neg, y_add, y_sub, y_mul, y_neg, z_toL, y_toI, cmp_lt, cmp_gt, cmp_le, cmp_ge, z_lt, z_le, z_eq, y_lt, y_le, y_eq, if_pos, if_neg, ite_true, ite_false]
    · rw [if_neg c]
      have hm := mu_le hG.S
      obtain ⟨I2, I1, p1, p2, p3, p4, p5, p6⟩ := c_adv (f := 1000000000) (K := z) hN hk hG h (by omega) (by omega) (by omega)
      rw [runS_fuel 1000000000 8000 z (sG g) hG.S (by omega) (by omega)] at p3 p4 p5
      refine ⟨I1, ?_, p5, p6⟩
      have p3' : f5_advance N I2 (k+3) (k+79) (zI 1000000000) (zI z) = _ := p3
      simp (disch := omega) only [e1, hn, p1, p3', letM_s, clP_s, clM_s, l_m89910, l_m999, l_m9, l_m4, l_m3, l_m2, l_m1, l_0, l_1, l_2, l_3, l_4, l_5, l_6, l_7, l_8, l_9, l_10, l_11, l_12, l_13, l_14, l_18, l_31, l_32, l_33, l_43, l_45, l_48, l_57, l_64, l_66, l_80, l_97, l_100, l_109, l_118, l_119, l_200, l_255, l_462, l_500, l_676, l_999, l_1000, l_1001, l_9999, l_10000, l_99999, l_100000, l_447214, l_1000000000, m_m999, m_m9, m_0, m_1, m_2, m_4, m_9, m_255, m_500, m_999, m_9999, m_10000, m_99999, m_200000000, m_4294967295, m_1442695040888963407, m_6364136223846793005, z_add, z_sub, z_mul, z_neg, y_add, y_sub, y_mul, y_neg, z_toL, y_toI, cmp_lt, cmp_gt, cmp_le, cmp_ge, z_lt, z_le, z_eq, y_lt, y_le, y_eq, if_pos, if_neg, ite_true, ite_false]
  · rw [if_neg c1] at e1 ⊢
    refine ⟨I, ?_, h, fun _ _ => rfl⟩
    simp (disch := omega) only [e1, letM_s, clP_s, clM_s, l_m89910, l_m999, l_m9, l_m4, l_m3, l_m2, l_m1, l_0, l_1, l_2, l_3, l_4, l_5, l_6, l_7, l_8, l_9, l_10, l_11, l_12, l_13, l_14, l_18, l_31, l_32, l_33, l_43, l_45, l_48, l_57, l_64, l_66, l_80, l_97, l_100, l_109, l_118, l_119, l_200, l_255, l_462, l_500, l_676, l_999, l_1000, l_1001, l_9999, l_10000, l_99999, l_100000, l_447214, l_1000000000, m_m999, m_m9, m_0, m_1, m_2, m_4, m_9, m_255, m_500, m_999, m_9999, m_10000, m_99999, m_200000000, m_4294967295, m_1442695040888963407, m_6364136223846793005, z_add, z_sub, z_mul, z_neg, y_add, y_sub, y_mul, y_neg, z_toL, y_toI, cmp_lt, cmp_gt, cmp_le, cmp_ge, z_lt, z_le, z_eq, y_lt, y_le, y_eq, if_pos, if_neg, ite_true, ite_false]
theorem c_stop {N : Nat} {I : Mem} {k : Nat} {g : GS} (hN : 8100 ≤ N) (hk : k = 0 ∨ k = 81) (hG : OkG g) (h : CInv I k g) : ∃ I1, f6_stop N I k = some ((spStop g).1, I1) ∧ CInv I1 k (spStop g).2 ∧ ∀ x, (x < k ∨ k + 81 ≤ x) → I1 x = I x := by
  have e2 := e5_isMoving N h.now.m (m_bd hG.S).1
  unfold f6_stop spStop
  by_cases c : sM (sG g) = 0
  · rw [if_pos c] at e2 ⊢
    refine ⟨I, ?_, h, fun _ _ => rfl⟩
    simp (disch := omega) only [e2, letM_s, clP_s, clM_s, l_m89910, l_m999, l_m9, l_m4, l_m3, l_m2, l_m1, l_0, l_1, l_2, l_3, l_4, l_5, l_6, l_7, l_8, l_9, l_10, l_11, l_12, l_13, l_14, l_18, l_31, l_32, l_33, l_43, l_45, l_48, l_57, l_64, l_66, l_80, l_97, l_100, l_109, l_118, l_119, l_200, l_255, l_462, l_500, l_676, l_999, l_1000, l_1001, l_9999, l_10000, l_99999, l_100000, l_447214, l_1000000000, m_m999, m_m9, m_0, m_1, m_2, m_4, m_9, m_255, m_500, m_999, m_9999, m_10000, m_99999, m_200000000, m_4294967295, m_1442695040888963407, m_6364136223846793005, z_add, z_sub, z_mul, z_neg, y_add, y_sub, y_mul, y_neg, z_toL, y_toI, cmp_lt, cmp_gt, cmp_le, cmp_ge, z_lt, z_le, z_eq, y_lt, y_le, y_eq, if_pos, if_neg, ite_true, ite_false]
  · rw [if_neg c] at e2 ⊢
    obtain ⟨I2, p1, p2, p3⟩ := e0_remember (N := N) (by omega) hk hG h
    have hS := p2.now
    rw [sG_rm] at hS
    obtain ⟨I1, q1, q2, q3⟩ := e5_halt (N := N) (by omega) hG.S c hS
    refine ⟨I1, ?_, p2.act q3 q2, fun x hx => by rw [q3 x (by omega), p3 x hx]⟩
    simp (disch := omega) only [e2, p1, q1, letM_s, clP_s, clM_s, l_m89910, l_m999, l_m9, l_m4, l_m3, l_m2, l_m1, l_0, l_1, l_2, l_3, l_4, l_5, l_6, l_7, l_8, l_9, l_10, l_11, l_12, l_13, l_14, l_18, l_31, l_32, l_33, l_43, l_45, l_48, l_57, l_64, l_66, l_80, l_97, l_100, l_109, l_118, l_119, l_200, l_255, l_462, l_500, l_676, l_999, l_1000, l_1001, l_9999, l_10000, l_99999, l_100000, l_447214, l_1000000000, m_m999, m_m9, m_0, m_1, m_2, m_4, m_9, m_255, m_500, m_999, m_9999, m_10000, m_99999, m_200000000, m_4294967295, m_1442695040888963407, m_6364136223846793005, z_add, z_sub, z_mul, z_neg, y_add, y_sub, y_mul, y_neg, z_toL, y_toI, cmp_lt, cmp_gt, cmp_le, cmp_ge, z_lt, z_le, z_eq, y_lt, y_le, y_eq, if_pos, if_neg, ite_true, ite_false]
theorem drpS_eq {s : Sg} {j : Nat} (hO : OkS s) (hm : j = 0 → sM s = 0) : drpS s j = remI s j := by
  obtain ⟨a, v, x, y, t, n, d, m, i, l⟩ := s
  have hm : j = 0 → m = 0 := hm
  have h7 : m = 0 → i = 0 ∧ l = 0 := hO.2.2.2.2.2.2.1
  show (a, v, x, y, t, n - 1, dropD d j, if j = 0 then 0 else m, if j = 0 then 0 else i, if j = 0 then 0 else l) = (a, v, x, y, t, n - 1, dropD d j, m, i, l)
  by_cases c : j = 0
  · rw [if_pos c, if_pos c, if_pos c, hm c, (h7 (hm c)).1, (h7 (hm c)).2]
  · rw [if_neg c, if_neg c, if_neg c]
theorem c_rem {N : Nat} {I : Mem} {k : Nat} {g : GS} {z : Int} (hN : 8100 ≤ N) (hk : k = 0 ∨ k = 81) (hG : OkG g) (h : CInv I k g) (h1 : -2147483648 ≤ z) (h2 : z < 2147483648) : ∃ I1, f6_removeItem N I k (zI z) = some ((spRem g z).1, I1) ∧ CInv I1 k (spRem g z).2 ∧ ∀ x, (x < k ∨ k + 81 ≤ x) → I1 x = I x := by
  have hb := hG.S.b
  have e1 := e5_hasItem N (i := z) h.now.n hb.2.2.2.2 h1 h2
  have e2 := e5_isMoving N h.now.m (m_bd hG.S).1
  unfold f6_removeItem spRem
  by_cases c1 : 0 ≤ z ∧ z < nS (sG g)
  · rw [if_pos c1] at e1 ⊢
    have h30 : ¬ (z = 0 ∧ sM (sG g) ≠ 0) → ∃ I1, f6_removeItem_30 N k (zI z) I = some (zI ((nS (sG g) - 1 : Nat) : Int), I1) ∧ CInv I1 k (actG g (remI (sG g) z.toNat)) ∧ ∀ x, (x < k ∨ k + 81 ≤ x) → I1 x = I x := by
      intro hne
      obtain ⟨I2, p1, p2, p3⟩ := e0_remember (N := N) (by omega) hk hG h
      have hS := p2.now
      rw [sG_rm] at hS
      obtain ⟨I1, q1, q2, q3, q4⟩ := e5_drop (N := N) (j := z.toNat) (by omega) hb.2.2.2.2 (by omega) hS
      rw [drpS_eq hG.S (fun q => Classical.byContradiction fun w => hne ⟨by omega, w⟩)] at q2
      rw [show (z.toNat : Int) = z by omega] at q1
      refine ⟨I1, ?_, p2.act q4 q2, fun x hx => by rw [q4 x (by omega), p3 x hx]⟩
      have hn : I1 (k+3) 5 = zI ((nS (sG g) - 1 : Nat) : Int) := by
        rw [q2.n]
        generalize sG g = s
        obtain ⟨a, v, x, y, t, n, d, r⟩ := s
        rfl
      unfold f6_removeItem_30
      simp only [p1, clM_s, q1, hn]
    by_cases c2 : z = 0
    · by_cases c3 : sM (sG g) = 0
      · rw [if_neg (fun q => q.2 c3)]
        obtain ⟨I1, p1, p2⟩ := h30 (fun q => q.2 c3)
        rw [if_pos c3] at e2
        refine ⟨I1, ?_, p2⟩
        simp (disch := omega) only [e1, e2, letM_s, clP_s, clM_s, l_m89910, l_m999, l_m9, l_m4, l_m3, l_m2, l_m1, l_0, l_1, l_2, l_3, l_4, l_5, l_6, l_7, l_8, l_9, l_10, l_11, l_12, l_13, l_14, l_18, l_31, l_32, l_33, l_43, l_45, l_48, l_57, l_64, l_66, l_80, l_97, l_100, l_109, l_118, l_119, l_200, l_255, l_462, l_500, l_676, l_999, l_1000, l_1001, l_9999, l_10000, l_99999, l_100000, l_447214, l_1000000000, m_m999, m_m9, m_0, m_1, m_2, m_4, m_9, m_255, m_500, m_999, m_9999, m_10000, m_99999, m_200000000, m_4294967295, m_1442695040888963407, m_6364136223846793005, z_add, z_sub, z_mul, z_neg, y_add, y_sub, y_mul, y_neg, z_toL, y_toI, cmp_lt, cmp_gt, cmp_le, cmp_ge, z_lt, z_le, z_eq, y_lt, y_le, y_eq, if_pos, if_neg, ite_true, ite_false, p1]
      · rw [if_pos ⟨c2, c3⟩]
        rw [if_neg c3] at e2
        refine ⟨I, ?_, h, fun _ _ => rfl⟩
        simp (disch := omega) only [e1, e2, letM_s, clP_s, clM_s, l_m89910, l_m999, l_m9, l_m4, l_m3, l_m2, l_m1, l_0, l_1, l_2, l_3, l_4, l_5, l_6, l_7, l_8, l_9, l_10, l_11, l_12, l_13, l_14, l_18, l_31, l_32, l_33, l_43, l_45, l_48, l_57, l_64, l_66, l_80, l_97, l_100, l_109, l_118, l_119, l_200, l_255, l_462, l_500, l_676, l_999, l_1000, l_1001, l_9999, l_10000, l_99999, l_100000, l_447214, l_1000000000, m_m999, m_m9, m_0, m_1, m_2, m_4, m_9, m_255, m_500, m_999, m_9999, m_10000, m_99999, m_200000000, m_4294967295, m_1442695040888963407, m_6364136223846793005, z_add, z_sub, z_mul, z_neg, y_add, y_sub, y_mul, y_neg, z_toL, y_toI, cmp_lt, cmp_gt, cmp_le, cmp_ge, z_lt, z_le, z_eq, y_lt, y_le, y_eq, if_pos, if_neg, ite_true, ite_false]
    · rw [if_neg (fun q => c2 q.1)]
      obtain ⟨I1, p1, p2⟩ := h30 (fun q => c2 q.1)
      refine ⟨I1, ?_, p2⟩
      simp (disch := omega) only [e1, letM_s, clP_s, clM_s, l_m89910, l_m999, l_m9, l_m4, l_m3, l_m2, l_m1, l_0, l_1, l_2, l_3, l_4, l_5, l_6, l_7, l_8, l_9, l_10, l_11, l_12, l_13, l_14, l_18, l_31, l_32, l_33, l_43, l_45, l_48, l_57, l_64, l_66, l_80, l_97, l_100, l_109, l_118, l_119, l_200, l_255, l_462, l_500, l_676, l_999, l_1000, l_1001, l_9999, l_10000, l_99999, l_100000, l_447214, l_1000000000, m_m999, m_m9, m_0, m_1, m_2, m_4, m_9, m_255, m_500, m_999, m_9999, m_10000, m_99999, m_200000000, m_4294967295, m_1442695040888963407, m_6364136223846793005, z_add, z_sub, z_mul, z_neg, y_add, y_sub, y_mul, y_neg, z_toL, y_toI, cmp_lt, cmp_gt, cmp_le, cmp_ge, z_lt, z_le, z_eq, y_lt, y_le, y_eq, if_pos, if_neg, ite_true, ite_false, p1]
  · rw [if_neg c1] at e1 ⊢
    refine ⟨I, ?_, h, fun _ _ => rfl⟩
    simp (disch := omega) only [e1, letM_s, clP_s, clM_s, l_m89910, l_m999, l_m9, l_m4, l_m3, l_m2, l_m1, l_0, l_1, l_2, l_3, l_4, l_5, l_6, l_7, l_8, l_9, l_10, l_11, l_12, l_13, l_14, l_18, l_31, l_32, l_33, l_43, l_45, l_48, l_57, l_64, l_66, l_80, l_97, l_100, l_109, l_118, l_119, l_200, l_255, l_462, l_500, l_676, l_999, l_1000, l_1001, l_9999, l_10000, l_99999, l_100000, l_447214, l_1000000000, m_m999, m_m9, m_0, m_1, m_2, m_4, m_9, m_255, m_500, m_999, m_9999, m_10000, m_99999, m_200000000, m_4294967295, m_1442695040888963407, m_6364136223846793005, z_add, z_sub, z_mul, z_neg, y_add, y_sub, y_mul, y_neg, z_toL, y_toI, cmp_lt, cmp_gt, cmp_le, cmp_ge, z_lt, z_le, z_eq, y_lt, y_le, y_eq, if_pos, if_neg, ite_true, ite_false]
theorem c_undo {N : Nat} {I : Mem} {k : Nat} {g : GS} (hN : 8100 ≤ N) (hk : k = 0 ∨ k = 81) (hG : OkG g) (h : CInv I k g) : ∃ I1, f6_undo N I k = some ((spUndo g).1, I1) ∧ CInv I1 k (spUndo g).2 ∧ ∀ x, (x < k ∨ k + 81 ≤ x) → I1 x = I x := by
  obtain ⟨I1, p1, p2, p3⟩ := e0_takeBack (N := N) (by omega) hk hG h
  unfold f6_undo spUndo
  by_cases c : nHc g = 0
  · rw [if_pos c] at p1 p2 ⊢
    refine ⟨I1, ?_, p2, p3⟩
    simp (disch := omega) only [p1, letM_s, clP_s, clM_s, l_m89910, l_m999, l_m9, l_m4, l_m3, l_m2, l_m1, l_0, l_1, l_2, l_3, l_4, l_5, l_6, l_7, l_8, l_9, l_10, l_11, l_12, l_13, l_14, l_18, l_31, l_32, l_33, l_43, l_45, l_48, l_57, l_64, l_66, l_80, l_97, l_100, l_109, l_118, l_119, l_200, l_255, l_462, l_500, l_676, l_999, l_1000, l_1001, l_9999, l_10000, l_99999, l_100000, l_447214, l_1000000000, m_m999, m_m9, m_0, m_1, m_2, m_4, m_9, m_255, m_500, m_999, m_9999, m_10000, m_99999, m_200000000, m_4294967295, m_1442695040888963407, m_6364136223846793005, z_add, z_sub, z_mul, z_neg, y_add, y_sub, y_mul, y_neg, z_toL, y_toI, cmp_lt, cmp_gt, cmp_le, cmp_ge, z_lt, z_le, z_eq, y_lt, y_le, y_eq, if_pos, if_neg, ite_true, ite_false]
  · rw [if_neg c] at p1 p2 ⊢
    refine ⟨I1, ?_, p2, p3⟩
    have hc : I1 (k+11) 2 = zI ((nHc g - 1 : Nat) : Int) := by
      obtain ⟨tl, tx, s, hc, he, hh, sv⟩ := g
      exact p2.2.2.2.2.1
    simp (disch := omega) only [p1, hc, letM_s, clP_s, clM_s, l_m89910, l_m999, l_m9, l_m4, l_m3, l_m2, l_m1, l_0, l_1, l_2, l_3, l_4, l_5, l_6, l_7, l_8, l_9, l_10, l_11, l_12, l_13, l_14, l_18, l_31, l_32, l_33, l_43, l_45, l_48, l_57, l_64, l_66, l_80, l_97, l_100, l_109, l_118, l_119, l_200, l_255, l_462, l_500, l_676, l_999, l_1000, l_1001, l_9999, l_10000, l_99999, l_100000, l_447214, l_1000000000, m_m999, m_m9, m_0, m_1, m_2, m_4, m_9, m_255, m_500, m_999, m_9999, m_10000, m_99999, m_200000000, m_4294967295, m_1442695040888963407, m_6364136223846793005, z_add, z_sub, z_mul, z_neg, y_add, y_sub, y_mul, y_neg, z_toL, y_toI, cmp_lt, cmp_gt, cmp_le, cmp_ge, z_lt, z_le, z_eq, y_lt, y_le, y_eq, if_pos, if_neg, ite_true, ite_false]
