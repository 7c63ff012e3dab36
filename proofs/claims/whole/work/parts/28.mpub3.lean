/-! the reference's answers: undo, slots, predictions, scripts, random speeds -/
theorem e7_undo_38 {N : Nat} {k p : Nat} (hp : p < 14) : ∀ (e i cnt : Nat) (I : Mem), i + e = 33 → e < cnt → I k 8 = zI (p : Int) → ∃ I1, f7_undo_38 N k cnt I (zI (i : Int)) = some (I k 7, I1) ∧ (∀ j, i ≤ j → j < 33 → I1 (k+2) j = I (k+5) (33 * p + j)) ∧ (∀ j, j < i → I1 (k+2) j = I (k+2) j) ∧ ∀ x, x ≠ k+2 → I1 x = I x := by
  intro e
  induction e with
  | zero =>
    intro i cnt I h1 h2 h3
    obtain ⟨cnt, rfl⟩ : ∃ x, cnt = x + 1 := ⟨cnt - 1, by omega⟩
    refine ⟨I, ?_, fun j a b => by omega, fun _ _ => rfl, fun _ _ => rfl⟩
    rw [f7_undo_38]
    simp (disch := omega) only [letM_s, clP_s, clM_s, l_m89910, l_m999, l_m9, l_m4, l_m3, l_m2, l_m1, l_0, l_1, l_2, l_3, l_4, l_5, l_6, l_7, l_8, l_9, l_10, l_11, l_12, l_13, l_14, l_18, l_31, l_32, l_33, l_43, l_45, l_48, l_57, l_64, l_66, l_80, l_97, l_100, l_109, l_118, l_119, l_200, l_255, l_462, l_500, l_676, l_999, l_1000, l_1001, l_9999, l_10000, l_99999, l_100000, l_447214, l_1000000000, m_m999, m_m9, m_0, m_1, m_2, m_4, m_9, m_255, m_500, m_999, m_9999, m_10000, m_99999, m_200000000, m_4294967295, m_1442695040888963407, m_6364136223846793005, z_add, z_sub, z_mul, z_neg, y_add, y_sub, y_mul, y_neg, z_toL, y_toI, cmp_lt, cmp_gt, cmp_le, cmp_ge, z_lt, z_le, z_eq, y_lt, y_le, y_eq, if_pos, if_neg, ite_true, ite_false]
  | succ e ih =>
    intro i cnt I h1 h2 h3
    obtain ⟨cnt, rfl⟩ : ∃ x, cnt = x + 1 := ⟨cnt - 1, by omega⟩
    obtain ⟨I1, q1, q2, q3, q4⟩ := ih (i + 1) cnt (st I (k+2) i (I (k+5) (33 * p + i))) (by omega) (by omega) (by rw [st_k (by omega)]; exact h3)
    have n1 : (zI (i : Int)).toNatClampNeg = i := by rw [z_nat (by omega) (by omega)]; rfl
    have n2 : (zI (33 * (p : Int) + (i : Int))).toNatClampNeg = 33 * p + i := by rw [z_nat (by omega) (by omega)]; omega
    rw [show st I (k+2) i (I (k+5) (33 * p + i)) k 7 = I k 7 by rw [st_k (by omega)]] at q1
    refine ⟨I1, ?_, fun j a b => ?_, fun j hj => by rw [q3 j (by omega), st_j (by omega)], fun x hx => by rw [q4 x hx, st_k hx]⟩
    · rw [← q1, f7_undo_38, h3]
      simp (disch := omega) only [l_33, l_0, l_1, n1, z_mul, z_add, n2, z_le, z_lt, if_neg, letM_s]
      rfl
    · by_cases c : j = i
      · subst c; rw [q3 _ (by omega), st_s]
      · rw [q2 j (by omega) b, st_k (by omega)]
theorem m_undo {N : Nat} {I : Mem} {k : Nat} {g : GS} (hN : 8100 ≤ N) (hG : OkG g) (h : MInv I k g) : ∃ I1, f7_undo N I k = some ((spUndo g).1, I1) ∧ MInv I1 k (spUndo g).2 ∧ ∀ x, x < k → I1 x = I x := by
  obtain ⟨tl, tx, s, hc, he, hh, sv⟩ := g
  obtain ⟨g1, g2, g3, g4, g5, g6, g7, g8⟩ := hG
  obtain ⟨h1, h2, h3, h4, h5, h6, h7, h8⟩ := id h
  unfold f7_undo spUndo
  by_cases c : hc = 0
  · have c' : nHc (tl, tx, s, hc, he, hh, sv) = 0 := c
    rw [if_pos c']
    refine ⟨I, ?_, h, fun _ _ => rfl⟩
    rw [h4, c]
    simp (disch := omega) only [letM_s, clP_s, clM_s, l_m89910, l_m999, l_m9, l_m4, l_m3, l_m2, l_m1, l_0, l_1, l_2, l_3, l_4, l_5, l_6, l_7, l_8, l_9, l_10, l_11, l_12, l_13, l_14, l_18, l_31, l_32, l_33, l_43, l_45, l_48, l_57, l_64, l_66, l_80, l_97, l_100, l_109, l_118, l_119, l_200, l_255, l_462, l_500, l_676, l_999, l_1000, l_1001, l_9999, l_10000, l_99999, l_100000, l_447214, l_1000000000, m_m999, m_m9, m_0, m_1, m_2, m_4, m_9, m_255, m_500, m_999, m_9999, m_10000, m_99999, m_200000000, m_4294967295, m_1442695040888963407, m_6364136223846793005, z_add, z_sub, z_mul, z_neg, y_add, y_sub, y_mul, y_neg, z_toL, y_toI, cmp_lt, cmp_gt, cmp_le, cmp_ge, z_lt, z_le, z_eq, y_lt, y_le, y_eq, if_pos, if_neg, ite_true, ite_false, show ((0 : Nat) : Int) = 0 from rfl]
  · have c' : ¬ nHc (tl, tx, s, hc, he, hh, sv) = 0 := c
    rw [if_neg c']
    obtain ⟨I2, hI2⟩ : ∃ I2, I2 = st (st I k 7 (zI ((hc - 1 : Nat) : Int))) k 8 (zI (((he - 1) % 14 : Nat) : Int)) := ⟨_, rfl⟩
    have e27 : I2 k 7 = zI ((hc - 1 : Nat) : Int) := by rw [hI2, st_j (by omega), st_s]
    have e28 : I2 k 8 = zI (((he - 1) % 14 : Nat) : Int) := by rw [hI2, st_s]
    have hval : zI (((he % 14 : Nat) : Int) + 14 - 1) - zI (((he % 14 : Nat) : Int) + 14 - 1) / zI 14 * zI 14 = zI (((he - 1) % 14 : Nat) : Int) := by
      rw [z_div (by omega) (by omega) (by omega) (by omega), z_mul, z_sub, Int.tdiv_eq_ediv_of_nonneg (by omega)]
      congr 1
      omega
    obtain ⟨I1, q1, q2, q3, q4⟩ := e7_undo_38 (N := N) (k := k) (p := (he - 1) % 14) (Nat.mod_lt _ (by omega)) 33 0 N I2 (by omega) (by omega) e28
    have fx : ∀ x, x ≠ k → x ≠ k + 2 → I1 x = I x := fun x a b => by rw [q4 x b, hI2, st_k a, st_k a]
    have fk : ∀ j, j ≠ 7 → j ≠ 8 → I1 k j = I k j := fun j a b => by rw [q4 k (by omega), hI2, st_j b, st_j a]
    refine ⟨I1, ?_, ⟨by rw [fk 1 (by omega) (by omega)]; exact h1, fun j hj => by rw [fx (k+1) (by omega) (by omega)]; exact h2 j hj, ?_, by rw [q4 k (by omega)]; exact e27, by rw [q4 k (by omega)]; exact e28, fun i hi => ?_, fun b hb => by rw [fx (k+7) (by omega) (by omega), fx (k+6) (by omega) (by omega)]; exact h7 b hb, ⟨?_, fun a v a1 a2 a3 a4 => ?_⟩⟩, fun x hx => fx x (by omega) (by omega)⟩
    · rw [e27] at q1
      have q1' : f7_undo_38 N k N I2 (zI 0) = some (zI ((hc - 1 : Nat) : Int), I1) := q1
      rw [h4]
      have e78 : st I k 7 (zI ((hc : Int) - 1)) k 8 = zI ((he % 14 : Nat) : Int) := by rw [st_j (by omega)]; exact h5
      have hcc : (hc : Int) - 1 = ((hc - 1 : Nat) : Int) := by omega
      simp (disch := omega) only [letM_s, clP_s, clM_s, l_m89910, l_m999, l_m9, l_m4, l_m3, l_m2, l_m1, l_0, l_1, l_2, l_3, l_4, l_5, l_6, l_7, l_8, l_9, l_10, l_11, l_12, l_13, l_14, l_18, l_31, l_32, l_33, l_43, l_45, l_48, l_57, l_64, l_66, l_80, l_97, l_100, l_109, l_118, l_119, l_200, l_255, l_462, l_500, l_676, l_999, l_1000, l_1001, l_9999, l_10000, l_99999, l_100000, l_447214, l_1000000000, m_m999, m_m9, m_0, m_1, m_2, m_4, m_9, m_255, m_500, m_999, m_9999, m_10000, m_99999, m_200000000, m_4294967295, m_1442695040888963407, m_6364136223846793005, z_add, z_sub, z_mul, z_neg, y_add, y_sub, y_mul, y_neg, z_toL, y_toI, cmp_lt, cmp_gt, cmp_le, cmp_ge, z_lt, z_le, z_eq, y_lt, y_le, y_eq, if_pos, if_neg, ite_true, ite_false, e78, hval]
      rw [hcc, ← hI2, q1']
      rfl
    · refine (h6 0 (by omega)).eq (g7 0 (by omega)) (fun j hj => ?_)
      rw [Nat.sub_zero]
      rw [q2 j (Nat.zero_le _) hj, hI2, st_k (by omega), st_k (by omega)]
    · refine (h6 (i + 1) (by omega)).eq (g7 (i + 1) (by omega)) (fun j hj => ?_)
      rw [fx (k+5) (by omega) (by omega), show he - 1 - 1 - i = he - 1 - (i + 1) by omega]
    · rw [fk 13 (by omega) (by omega), fk 12 (by omega) (by omega), fx (k+8) (by omega) (by omega)]; exact h8.1
    · rw [fk 14 (by omega) (by omega), fk 15 (by omega) (by omega), fk 16 (by omega) (by omega)]; exact h8.2 a v a1 a2 a3 a4
theorem e7_save_21 {N : Nat} {k b : Nat} (hb : b < 2) : ∀ (e i cnt : Nat) (I : Mem), i + e = 33 → e < cnt → ∃ I1, f7_save_21 N k (zI (b : Int)) cnt I (zI (i : Int)) = some (I (k+2) 5, I1) ∧ (∀ j, i ≤ j → j < 33 → I1 (k+6) (33 * b + j) = I (k+2) j) ∧ (∀ j, (j < 33 * b + i ∨ 33 * b + 33 ≤ j) → I1 (k+6) j = I (k+6) j) ∧ ∀ x, x ≠ k+6 → I1 x = I x := by
  intro e
  induction e with
  | zero =>
    intro i cnt I h1 h2
    obtain ⟨cnt, rfl⟩ : ∃ x, cnt = x + 1 := ⟨cnt - 1, by omega⟩
    refine ⟨I, ?_, fun j a b => by omega, fun _ _ => rfl, fun _ _ => rfl⟩
    rw [f7_save_21]
    simp (disch := omega) only [letM_s, clP_s, clM_s, l_m89910, l_m999, l_m9, l_m4, l_m3, l_m2, l_m1, l_0, l_1, l_2, l_3, l_4, l_5, l_6, l_7, l_8, l_9, l_10, l_11, l_12, l_13, l_14, l_18, l_31, l_32, l_33, l_43, l_45, l_48, l_57, l_64, l_66, l_80, l_97, l_100, l_109, l_118, l_119, l_200, l_255, l_462, l_500, l_676, l_999, l_1000, l_1001, l_9999, l_10000, l_99999, l_100000, l_447214, l_1000000000, m_m999, m_m9, m_0, m_1, m_2, m_4, m_9, m_255, m_500, m_999, m_9999, m_10000, m_99999, m_200000000, m_4294967295, m_1442695040888963407, m_6364136223846793005, z_add, z_sub, z_mul, z_neg, y_add, y_sub, y_mul, y_neg, z_toL, y_toI, cmp_lt, cmp_gt, cmp_le, cmp_ge, z_lt, z_le, z_eq, y_lt, y_le, y_eq, if_pos, if_neg, ite_true, ite_false]
  | succ e ih =>
    intro i cnt I h1 h2
    obtain ⟨cnt, rfl⟩ : ∃ x, cnt = x + 1 := ⟨cnt - 1, by omega⟩
    obtain ⟨I1, q1, q2, q3, q4⟩ := ih (i + 1) cnt (st I (k+6) (33 * b + i) (I (k+2) i)) (by omega) (by omega)
    have n1 : (zI (i : Int)).toNatClampNeg = i := by rw [z_nat (by omega) (by omega)]; rfl
    have n2 : (zI (33 * (b : Int) + (i : Int))).toNatClampNeg = 33 * b + i := by rw [z_nat (by omega) (by omega)]; omega
    rw [show st I (k+6) (33 * b + i) (I (k+2) i) (k+2) 5 = I (k+2) 5 by rw [st_k (by omega)]] at q1
    refine ⟨I1, ?_, fun j a b' => ?_, fun j hj => by rw [q3 j (by omega), st_j (by omega)], fun x hx => by rw [q4 x hx, st_k hx]⟩
    · rw [← q1, f7_save_21]
      simp (disch := omega) only [l_33, l_0, l_1, n1, z_mul, z_add, n2, z_le, z_lt, if_neg, letM_s]
      rfl
    · by_cases c : j = i
      · subst c; rw [q3 _ (by omega), st_s]
      · rw [q2 j (by omega) b', st_k (by omega)]
theorem m_save {N : Nat} {I : Mem} {k : Nat} {g : GS} {z : Int} (hN : 8100 ≤ N) (hG : OkG g) (h : MInv I k g) (hz1 : -2147483648 ≤ z) (hz2 : z < 2147483648) : ∃ I1, f7_save N I k (zI z) = some ((spSave g z).1, I1) ∧ MInv I1 k (spSave g z).2 ∧ ∀ x, x < k → I1 x = I x := by
  have e := in_lit N I 0 1 hz1 hz2 (by omega) (by omega) (by omega) (by omega)
  have hn := n5_of h.now
  have hO := hG.S
  unfold f7_save spSave
  by_cases c : z = 0 ∨ z = 1
  · rw [if_pos c]
    obtain ⟨b, rfl⟩ := Int.eq_ofNat_of_zero_le (show 0 ≤ z by omega)
    have hb : b < 2 := by omega
    have n1 : (zI (b : Int)).toNatClampNeg = b := by rw [z_nat (by omega) (by omega)]; rfl
    obtain ⟨I1, q1, q2, q3, q4⟩ := e7_save_21 (N := N) (k := k) hb 33 0 N (st I (k+7) b (zI 1)) (by omega) (by omega)
    have q1' : f7_save_21 N k (zI (b : Int)) N (st I (k+7) b (zI 1)) (zI 0) = some (zI (nS (sG g) : Int), I1) := by
      rw [← hn, show I (k+2) 5 = st I (k+7) b (zI 1) (k+2) 5 by rw [st_k (by omega)]]; exact q1
    have fx : ∀ x, x ≠ k + 6 → x ≠ k + 7 → I1 x = I x := fun x a b => by rw [q4 x a, st_k b]
    refine ⟨I1, ?_, ?_, fun x hx => fx x (by omega) (by omega)⟩
    · by_cases c0 : b = 0
      · subst c0
        simp (disch := omega) only [e, n1, q1', letM_s, clP_s, clM_s, l_m89910, l_m999, l_m9, l_m4, l_m3, l_m2, l_m1, l_0, l_1, l_2, l_3, l_4, l_5, l_6, l_7, l_8, l_9, l_10, l_11, l_12, l_13, l_14, l_18, l_31, l_32, l_33, l_43, l_45, l_48, l_57, l_64, l_66, l_80, l_97, l_100, l_109, l_118, l_119, l_200, l_255, l_462, l_500, l_676, l_999, l_1000, l_1001, l_9999, l_10000, l_99999, l_100000, l_447214, l_1000000000, m_m999, m_m9, m_0, m_1, m_2, m_4, m_9, m_255, m_500, m_999, m_9999, m_10000, m_99999, m_200000000, m_4294967295, m_1442695040888963407, m_6364136223846793005, z_add, z_sub, z_mul, z_neg, y_add, y_sub, y_mul, y_neg, z_toL, y_toI, cmp_lt, cmp_gt, cmp_le, cmp_ge, z_lt, z_le, z_eq, y_lt, y_le, y_eq, if_pos, if_neg, ite_true, ite_false]
      · have : b = 1 := by omega
        subst this
        simp (disch := omega) only [e, n1, q1', letM_s, clP_s, clM_s, l_m89910, l_m999, l_m9, l_m4, l_m3, l_m2, l_m1, l_0, l_1, l_2, l_3, l_4, l_5, l_6, l_7, l_8, l_9, l_10, l_11, l_12, l_13, l_14, l_18, l_31, l_32, l_33, l_43, l_45, l_48, l_57, l_64, l_66, l_80, l_97, l_100, l_109, l_118, l_119, l_200, l_255, l_462, l_500, l_676, l_999, l_1000, l_1001, l_9999, l_10000, l_99999, l_100000, l_447214, l_1000000000, m_m999, m_m9, m_0, m_1, m_2, m_4, m_9, m_255, m_500, m_999, m_9999, m_10000, m_99999, m_200000000, m_4294967295, m_1442695040888963407, m_6364136223846793005, z_add, z_sub, z_mul, z_neg, y_add, y_sub, y_mul, y_neg, z_toL, y_toI, cmp_lt, cmp_gt, cmp_le, cmp_ge, z_lt, z_le, z_eq, y_lt, y_le, y_eq, if_pos, if_neg, ite_true, ite_false]
    · obtain ⟨tl, tx, s, hc, he, hh, sv⟩ := g
      obtain ⟨h1, h2, h3, h4, h5, h6, h7, h8⟩ := h
      refine ⟨by rw [fx k (by omega) (by omega)]; exact h1, fun j hj => by rw [fx (k+1) (by omega) (by omega)]; exact h2 j hj, by rw [fx (k+2) (by omega) (by omega)]; exact h3, by rw [fx k (by omega) (by omega)]; exact h4, by rw [fx k (by omega) (by omega)]; exact h5, fun i hi => by rw [fx (k+5) (by omega) (by omega)]; exact h6 i hi, fun b' hb' => ?_, h8.row (fx k (by omega) (by omega)) (fx (k+8) (by omega) (by omega))⟩
      rw [Int.toNat_natCast]
      show ((if b' = b then some s else sv b') = none → _) ∧ ∀ z, (if b' = b then some s else sv b') = some z → _
      by_cases cb : b' = b
      · subst cb
        rw [if_pos rfl]
        refine ⟨fun q => (by cases q), fun z hz => ?_⟩
        cases hz
        refine ⟨by rw [q4 (k+7) (by omega), st_s], h3.eq hO (fun j hj => ?_)⟩
        rw [q2 j (Nat.zero_le _) hj, st_k (by omega)]
      · rw [if_neg cb]
        have e7 : I1 (k+7) b' = I (k+7) b' := by rw [q4 (k+7) (by omega), st_j cb]
        refine ⟨fun q => by rw [e7]; exact (h7 b' hb').1 q, fun z hz => ⟨by rw [e7]; exact ((h7 b' hb').2 z hz).1, ?_⟩⟩
        refine ((h7 b' hb').2 z hz).2.eq (hG.2.2.2.2.2.2.2 b' z hz) (fun j hj => ?_)
        rw [q3 _ (by omega), st_k (by omega)]
  · rw [if_neg c]
    refine ⟨I, ?_, h, fun _ _ => rfl⟩
    simp (disch := omega) only [e, letM_s, clP_s, clM_s, l_m89910, l_m999, l_m9, l_m4, l_m3, l_m2, l_m1, l_0, l_1, l_2, l_3, l_4, l_5, l_6, l_7, l_8, l_9, l_10, l_11, l_12, l_13, l_14, l_18, l_31, l_32, l_33, l_43, l_45, l_48, l_57, l_64, l_66, l_80, l_97, l_100, l_109, l_118, l_119, l_200, l_255, l_462, l_500, l_676, l_999, l_1000, l_1001, l_9999, l_10000, l_99999, l_100000, l_447214, l_1000000000, m_m999, m_m9, m_0, m_1, m_2, m_4, m_9, m_255, m_500, m_999, m_9999, m_10000, m_99999, m_200000000, m_4294967295, m_1442695040888963407, m_6364136223846793005, z_add, z_sub, z_mul, z_neg, y_add, y_sub, y_mul, y_neg, z_toL, y_toI, cmp_lt, cmp_gt, cmp_le, cmp_ge, z_lt, z_le, z_eq, y_lt, y_le, y_eq, if_pos, if_neg, ite_true, ite_false]
theorem e7_rest_26 {N : Nat} {k b : Nat} (hb : b < 2) : ∀ (e i cnt : Nat) (I : Mem), i + e = 33 → e < cnt → ∃ I1, f7_restore_26 N k (zI (b : Int)) cnt I (zI (i : Int)) = some (I1 (k+2) 5, st I1 k 7 (zI 0)) ∧ (∀ j, i ≤ j → j < 33 → I1 (k+2) j = I (k+6) (33 * b + j)) ∧ (∀ j, j < i → I1 (k+2) j = I (k+2) j) ∧ ∀ x, x ≠ k+2 → I1 x = I x := by
  intro e
  induction e with
  | zero =>
    intro i cnt I h1 h2
    obtain ⟨cnt, rfl⟩ : ∃ x, cnt = x + 1 := ⟨cnt - 1, by omega⟩
    refine ⟨I, ?_, fun j a b => by omega, fun _ _ => rfl, fun _ _ => rfl⟩
    rw [f7_restore_26]
    simp (disch := omega) only [letM_s, clP_s, clM_s, l_m89910, l_m999, l_m9, l_m4, l_m3, l_m2, l_m1, l_0, l_1, l_2, l_3, l_4, l_5, l_6, l_7, l_8, l_9, l_10, l_11, l_12, l_13, l_14, l_18, l_31, l_32, l_33, l_43, l_45, l_48, l_57, l_64, l_66, l_80, l_97, l_100, l_109, l_118, l_119, l_200, l_255, l_462, l_500, l_676, l_999, l_1000, l_1001, l_9999, l_10000, l_99999, l_100000, l_447214, l_1000000000, m_m999, m_m9, m_0, m_1, m_2, m_4, m_9, m_255, m_500, m_999, m_9999, m_10000, m_99999, m_200000000, m_4294967295, m_1442695040888963407, m_6364136223846793005, z_add, z_sub, z_mul, z_neg, y_add, y_sub, y_mul, y_neg, z_toL, y_toI, cmp_lt, cmp_gt, cmp_le, cmp_ge, z_lt, z_le, z_eq, y_lt, y_le, y_eq, if_pos, if_neg, ite_true, ite_false]
    rw [st_k (by omega)]
  | succ e ih =>
    intro i cnt I h1 h2
    obtain ⟨cnt, rfl⟩ : ∃ x, cnt = x + 1 := ⟨cnt - 1, by omega⟩
    obtain ⟨I1, q1, q2, q3, q4⟩ := ih (i + 1) cnt (st I (k+2) i (I (k+6) (33 * b + i))) (by omega) (by omega)
    have n1 : (zI (i : Int)).toNatClampNeg = i := by rw [z_nat (by omega) (by omega)]; rfl
    have n2 : (zI (33 * (b : Int) + (i : Int))).toNatClampNeg = 33 * b + i := by rw [z_nat (by omega) (by omega)]; omega
    refine ⟨I1, ?_, fun j a b' => ?_, fun j hj => by rw [q3 j (by omega), st_j (by omega)], fun x hx => by rw [q4 x hx, st_k hx]⟩
    · rw [← q1, f7_restore_26]
      simp (disch := omega) only [l_33, l_0, l_1, n1, z_mul, z_add, n2, z_le, z_lt, if_neg, letM_s]
      rfl
    · by_cases c : j = i
      · subst c; rw [q3 _ (by omega), st_s]
      · rw [q2 j (by omega) b', st_k (by omega)]
theorem m_rest {N : Nat} {I : Mem} {k : Nat} {g : GS} {z : Int} (hN : 8100 ≤ N) (hG : OkG g) (h : MInv I k g) (hz1 : -2147483648 ≤ z) (hz2 : z < 2147483648) : ∃ I1, f7_restore N I k (zI z) = some ((spRest g z).1, I1) ∧ MInv I1 k (spRest g z).2 ∧ ∀ x, x < k → I1 x = I x := by
  have e := in_lit N I 0 1 hz1 hz2 (by omega) (by omega) (by omega) (by omega)
  unfold f7_restore spRest
  by_cases c : z = 0 ∨ z = 1
  · rw [if_pos c]
    obtain ⟨b, rfl⟩ := Int.eq_ofNat_of_zero_le (show 0 ≤ z by omega)
    have hb : b < 2 := by omega
    rw [Int.toNat_natCast]
    have n1 : (zI (b : Int)).toNatClampNeg = b := by rw [z_nat (by omega) (by omega)]; rfl
    obtain ⟨tl, tx, s, hc, he, hh, sv⟩ := g
    obtain ⟨h1, h2, h3, h4, h5, h6, h7, h8⟩ := id h
    show ∃ I1, _ = some ((match sv b with | none => (zI (-3), ((tl, tx, s, hc, he, hh, sv) : GS)) | some s0 => (zI (nS s0 : Int), resG (tl, tx, s, hc, he, hh, sv) s0)).1, I1) ∧ MInv I1 k (match sv b with | none => (zI (-3), ((tl, tx, s, hc, he, hh, sv) : GS)) | some s0 => (zI (nS s0 : Int), resG (tl, tx, s, hc, he, hh, sv) s0)).2 ∧ _
    cases hs : sv b with
    | none =>
      have e7 := (h7 b hb).1 hs
      refine ⟨I, ?_, h, fun _ _ => rfl⟩
      simp (disch := omega) only [e, n1, e7, letM_s, clP_s, clM_s, l_m89910, l_m999, l_m9, l_m4, l_m3, l_m2, l_m1, l_0, l_1, l_2, l_3, l_4, l_5, l_6, l_7, l_8, l_9, l_10, l_11, l_12, l_13, l_14, l_18, l_31, l_32, l_33, l_43, l_45, l_48, l_57, l_64, l_66, l_80, l_97, l_100, l_109, l_118, l_119, l_200, l_255, l_462, l_500, l_676, l_999, l_1000, l_1001, l_9999, l_10000, l_99999, l_100000, l_447214, l_1000000000, m_m999, m_m9, m_0, m_1, m_2, m_4, m_9, m_255, m_500, m_999, m_9999, m_10000, m_99999, m_200000000, m_4294967295, m_1442695040888963407, m_6364136223846793005, z_add, z_sub, z_mul, z_neg, y_add, y_sub, y_mul, y_neg, z_toL, y_toI, cmp_lt, cmp_gt, cmp_le, cmp_ge, z_lt, z_le, z_eq, y_lt, y_le, y_eq, if_pos, if_neg, ite_true, ite_false]
    | some z =>
      obtain ⟨e7, hz⟩ := (h7 b hb).2 z hs
      obtain ⟨I1, q1, q2, q3, q4⟩ := e7_rest_26 (N := N) (k := k) hb 33 0 N I (by omega) (by omega)
      have hOz := hG.2.2.2.2.2.2.2 b z hs
      have hRz : RowR (I1 (k+2)) z := hz.eq hOz (fun j hj => q2 j (Nat.zero_le _) hj)
      have hn := n5_of hRz
      rw [hn] at q1
      have q1' : f7_restore_26 N k (zI (b : Int)) N I (zI 0) = some (zI (nS z : Int), st I1 k 7 (zI 0)) := q1
      have fk : ∀ j, j ≠ 7 → st I1 k 7 (zI 0) k j = I k j := fun j a => by rw [st_j a, q4 k (by omega)]
      have fx : ∀ x, x ≠ k → x ≠ k + 2 → st I1 k 7 (zI 0) x = I x := fun x a b => by rw [st_k a, q4 x b]
      refine ⟨st I1 k 7 (zI 0), ?_, ⟨by rw [fk 1 (by omega)]; exact h1, fun j hj => by rw [fx (k+1) (by omega) (by omega)]; exact h2 j hj, by rw [st_k (by omega)]; exact hRz, by rw [st_s]; rfl, by rw [fk 8 (by omega)]; exact h5, fun i hi => by omega, fun b' hb' => by rw [fx (k+7) (by omega) (by omega), fx (k+6) (by omega) (by omega)]; exact h7 b' hb', ⟨?_, fun a v a1 a2 a3 a4 => ?_⟩⟩, fun x hx => fx x (by omega) (by omega)⟩
      · simp (disch := omega) only [e, n1, e7, q1', letM_s, clP_s, clM_s, l_m89910, l_m999, l_m9, l_m4, l_m3, l_m2, l_m1, l_0, l_1, l_2, l_3, l_4, l_5, l_6, l_7, l_8, l_9, l_10, l_11, l_12, l_13, l_14, l_18, l_31, l_32, l_33, l_43, l_45, l_48, l_57, l_64, l_66, l_80, l_97, l_100, l_109, l_118, l_119, l_200, l_255, l_462, l_500, l_676, l_999, l_1000, l_1001, l_9999, l_10000, l_99999, l_100000, l_447214, l_1000000000, m_m999, m_m9, m_0, m_1, m_2, m_4, m_9, m_255, m_500, m_999, m_9999, m_10000, m_99999, m_200000000, m_4294967295, m_1442695040888963407, m_6364136223846793005, z_add, z_sub, z_mul, z_neg, y_add, y_sub, y_mul, y_neg, z_toL, y_toI, cmp_lt, cmp_gt, cmp_le, cmp_ge, z_lt, z_le, z_eq, y_lt, y_le, y_eq, if_pos, if_neg, ite_true, ite_false]
      · rw [fk 13 (by omega), fk 12 (by omega), fx (k+8) (by omega) (by omega)]; exact h8.1
      · rw [fk 14 (by omega), fk 15 (by omega), fk 16 (by omega)]; exact h8.2 a v a1 a2 a3 a4
  · rw [if_neg c]
    refine ⟨I, ?_, h, fun _ _ => rfl⟩
    simp (disch := omega) only [e, letM_s, clP_s, clM_s, l_m89910, l_m999, l_m9, l_m4, l_m3, l_m2, l_m1, l_0, l_1, l_2, l_3, l_4, l_5, l_6, l_7, l_8, l_9, l_10, l_11, l_12, l_13, l_14, l_18, l_31, l_32, l_33, l_43, l_45, l_48, l_57, l_64, l_66, l_80, l_97, l_100, l_109, l_118, l_119, l_200, l_255, l_462, l_500, l_676, l_999, l_1000, l_1001, l_9999, l_10000, l_99999, l_100000, l_447214, l_1000000000, m_m999, m_m9, m_0, m_1, m_2, m_4, m_9, m_255, m_500, m_999, m_9999, m_10000, m_99999, m_200000000, m_4294967295, m_1442695040888963407, m_6364136223846793005, z_add, z_sub, z_mul, z_neg, y_add, y_sub, y_mul, y_neg, z_toL, y_toI, cmp_lt, cmp_gt, cmp_le, cmp_ge, z_lt, z_le, z_eq, y_lt, y_le, y_eq, if_pos, if_neg, ite_true, ite_false]
/-! predictions -/
theorem runS_free {f : Nat} {K : Int} {s : Sg} (hO : OkS s) (hn : ¬ nS s = 0) (hK : 20000 * (mu s : Int) ≤ K) : runS (f+1) K s = ((runS f (K - (tkS s : Int)) (stepS s)).1 + 1, (runS f (K - (tkS s : Int)) (stepS s)).2) ∧ 20000 * (mu (stepS s) : Int) ≤ K - (tkS s : Int) := by
  have hb := tkS_bd hO (Nat.pos_of_ne_zero hn)
  have hm := mu_step hO (Nat.pos_of_ne_zero hn)
  constructor
  · rw [runS, if_neg (fun q => q.elim hn (fun w => by omega))]
  · omega
theorem sT_step {s : Sg} : sT (stepS s) = sT s + zI (tkS s : Int) := by
  obtain ⟨a, v, x, y, t, n, d, m, i, l⟩ := s
  show sT (stepS (a, v, x, y, t, n, d, m, i, l)) = t + zI (tkI a v (d 0).2.2 m i l : Int)
  simp only [stepS]
  by_cases c : 0 < (d 0).2.2
  · simp only [if_pos c]
  · simp only [if_neg c]
    by_cases c2 : (if m = 0 then lenI (d 0) else l) - 1 = 0
    · simp only [if_pos c2]
    · simp only [if_neg c2]
theorem sum_assoc (v t q u : Int32) : v + q + (u - (t + q)) = v + (u - t) := by
  obtain ⟨a, rfl, -, -⟩ := zI_of v
  obtain ⟨b, rfl, -, -⟩ := zI_of t
  obtain ⟨c, rfl, -, -⟩ := zI_of q
  obtain ⟨d, rfl, -, -⟩ := zI_of u
  simp only [z_add, z_sub]
  congr 1
  omega
theorem e7_left_13 {N : Nat} {k : Nat} (hN : 8100 ≤ N) : ∀ (f cnt : Nat) (v : Int32) (K : Int) (I : Mem) (s : Sg), mu s ≤ f → f < cnt → 20000 * (mu s : Int) ≤ K → McC I k → OkS s → RowR (I (k+3)) s →
    ∃ I1, f7_ticksLeft_13 N k cnt I v = some (v + (sT (runS f K s).2 - sT s), I1) ∧ McC I1 k ∧ Cr I I1 k (k+3) := by
  have zz : ∀ v t : Int32, v = v + (t - t) := fun v t => by
    obtain ⟨a, rfl, -, -⟩ := zI_of v
    obtain ⟨b, rfl, -, -⟩ := zI_of t
    simp only [z_add, z_sub]
    congr 1
    omega
  intro f
  induction f with
  | zero =>
    intro cnt v K I s h1 h2 h3 hC hO hR
    obtain ⟨cnt, rfl⟩ : ∃ x, cnt = x + 1 := ⟨cnt - 1, by omega⟩
    have hn : nS s = 0 := by
      rcases Nat.eq_zero_or_pos (nS s) with q | q
      · exact q
      · have := mu_step hO q; omega
    refine ⟨I, ?_, hC, Cr.rf⟩
    rw [f7_ticksLeft_13, n5_of hR, hn]
    show _ = some (v + (sT s - sT s), I)
    rw [← zz v (sT s)]
    simp (disch := omega) only [letM_s, clP_s, clM_s, l_m89910, l_m999, l_m9, l_m4, l_m3, l_m2, l_m1, l_0, l_1, l_2, l_3, l_4, l_5, l_6, l_7, l_8, l_9, l_10, l_11, l_12, l_13, l_14, l_18, l_31, l_32, l_33, l_43, l_45, l_48, l_57, l_64, l_66, l_80, l_97, l_100, l_109, l_118, l_119, l_200, l_255, l_462, l_500, l_676, l_999, l_1000, l_1001, l_9999, l_10000, l_99999, l_100000, l_447214, l_1000000000, m_m999, m_m9, m_0, m_1, m_2, m_4, m_9, m_255, m_500, m_999, m_9999, m_10000, m_99999, m_200000000, m_4294967295, m_1442695040888963407, m_6364136223846793005, z_add, z_sub, z_mul, z_neg, y_add, y_sub, y_mul, y_neg, z_toL, y_toI, cmp_lt, cmp_gt, cmp_le, cmp_ge, z_lt, z_le, z_eq, y_lt, y_le, y_eq, if_pos, if_neg, ite_true, ite_false, show ((0 : Nat) : Int) = 0 from rfl]
  | succ f ih =>
    intro cnt v K I s h1 h2 h3 hC hO hR
    obtain ⟨cnt, rfl⟩ : ∃ x, cnt = x + 1 := ⟨cnt - 1, by omega⟩
    have hn8 := n8_of hO
    by_cases hn : nS s = 0
    · refine ⟨I, ?_, hC, Cr.rf⟩
      rw [f7_ticksLeft_13, n5_of hR, hn, runS, if_pos (Or.inl hn)]
      show _ = some (v + (sT s - sT s), I)
      rw [← zz v (sT s)]
      simp (disch := omega) only [letM_s, clP_s, clM_s, l_m89910, l_m999, l_m9, l_m4, l_m3, l_m2, l_m1, l_0, l_1, l_2, l_3, l_4, l_5, l_6, l_7, l_8, l_9, l_10, l_11, l_12, l_13, l_14, l_18, l_31, l_32, l_33, l_43, l_45, l_48, l_57, l_64, l_66, l_80, l_97, l_100, l_109, l_118, l_119, l_200, l_255, l_462, l_500, l_676, l_999, l_1000, l_1001, l_9999, l_10000, l_99999, l_100000, l_447214, l_1000000000, m_m999, m_m9, m_0, m_1, m_2, m_4, m_9, m_255, m_500, m_999, m_9999, m_10000, m_99999, m_200000000, m_4294967295, m_1442695040888963407, m_6364136223846793005, z_add, z_sub, z_mul, z_neg, y_add, y_sub, y_mul, y_neg, z_toL, y_toI, cmp_lt, cmp_gt, cmp_le, cmp_ge, z_lt, z_le, z_eq, y_lt, y_le, y_eq, if_pos, if_neg, ite_true, ite_false, show ((0 : Nat) : Int) = 0 from rfl]
    · obtain ⟨hr, hK⟩ := runS_free (f := f) hO hn h3
      obtain ⟨I1, s1, s2, s3, s4⟩ := e7_stepIn (N := N) (by omega) (by omega) (by omega) hC (Nat.pos_of_ne_zero hn) hO hR
      have hms := mu_step hO (Nat.pos_of_ne_zero hn)
      obtain ⟨I2, t1, t2, t3⟩ := ih cnt (v + zI (tkS s : Int)) (K - (tkS s : Int)) I1 (stepS s) (by omega) (by omega) hK s3 (OkS_step hO (Nat.pos_of_ne_zero hn)) s2
      refine ⟨I2, ?_, t2, s4.tr t3⟩
      rw [hr, f7_ticksLeft_13, n5_of hR]
      simp (disch := omega) only [s1, letM_s, clP_s, clM_s, l_m89910, l_m999, l_m9, l_m4, l_m3, l_m2, l_m1, l_0, l_1, l_2, l_3, l_4, l_5, l_6, l_7, l_8, l_9, l_10, l_11, l_12, l_13, l_14, l_18, l_31, l_32, l_33, l_43, l_45, l_48, l_57, l_64, l_66, l_80, l_97, l_100, l_109, l_118, l_119, l_200, l_255, l_462, l_500, l_676, l_999, l_1000, l_1001, l_9999, l_10000, l_99999, l_100000, l_447214, l_1000000000, m_m999, m_m9, m_0, m_1, m_2, m_4, m_9, m_255, m_500, m_999, m_9999, m_10000, m_99999, m_200000000, m_4294967295, m_1442695040888963407, m_6364136223846793005, z_add, z_sub, z_mul, z_neg, y_add, y_sub, y_mul, y_neg, z_toL, y_toI, cmp_lt, cmp_gt, cmp_le, cmp_ge, z_lt, z_le, z_eq, y_lt, y_le, y_eq, if_pos, if_neg, ite_true, ite_false]
      rw [t1, sT_step, sum_assoc]
theorem mu_BIG {s : Sg} (hO : OkS s) : 20000 * (mu s : Int) ≤ BIG := by have := mu_le hO; unfold BIG; omega
theorem copy_tr {N : Nat} {I : Mem} {k : Nat} {g : GS} (hN : 100 ≤ N) (hG : OkG g) (h : MInv I k g) : ∃ I1, f7_copy N I (k+2) (k+3) = some I1 ∧ RowR (I1 (k+3)) (sG g) ∧ MInv I1 k g ∧ ∀ x, x < k → I1 x = I x := by
  obtain ⟨I1, q1, q2, q3⟩ := e7_copy (N := N) (I := I) (k0 := k+2) (k1 := k+3) hN (by omega)
  refine ⟨I1, q1, h.now.eq hG.S q2, h.tr (cr_of q3 (by omega)) (h.C.row (q3 k (by omega)) (q3 (k+8) (by omega))), fun x hx => q3 x (by omega)⟩
theorem m_left {N : Nat} {I : Mem} {k : Nat} {g : GS} (hN : 8100 ≤ N) (hG : OkG g) (h : MInv I k g) : ∃ I1, f7_ticksLeft N I k = some ((spLeft g).1, I1) ∧ MInv I1 k g ∧ ∀ x, x < k → I1 x = I x := by
  obtain ⟨I1, q1, q2, q3, q4⟩ := copy_tr (N := N) (by omega) hG h
  have hm := mu_le hG.S
  obtain ⟨I2, t1, t2, t3⟩ := e7_left_13 (N := N) (k := k) hN 8000 N (zI 0) BIG I1 (sG g) (by omega) (by omega) (mu_BIG hG.S) q3.C hG.S q2
  refine ⟨I2, ?_, q3.tr t3 t2, fun x hx => by rw [fm_cr t3 (by omega) x hx, q4 x hx]⟩
  unfold f7_ticksLeft spLeft
  rw [q1]
  simp only [clM_s, l_0]
  rw [t1]
  have : ∀ u : Int32, zI 0 + u = u := fun u => by
    obtain ⟨b, rfl, -, -⟩ := zI_of u
    rw [z_add]
    congr 1
    omega
  rw [this]
theorem m_moveT {N : Nat} {I : Mem} {k : Nat} {g : GS} {z : Int} (hN : 8100 ≤ N) (hG : OkG g) (h : MInv I k g) (h1 : -2147483648 ≤ z) (h2 : z < 2147483648) : ∃ I1, f7_moveTicks N I k (zI z) = some ((spMoveT g z).1, I1) ∧ MInv I1 k g ∧ ∀ x, x < k → I1 x = I x := by
  have hO := hG.S
  have hR := h.now
  obtain ⟨tl, tx, ⟨a, v, x, y, t, n, d, m, i, l⟩, hc, he, hh, sv⟩ := g
  obtain ⟨o1, o2, o3, o4, -⟩ := hO
  have e := in_lit N I 1 999 h1 h2 (by omega) (by omega) (by omega) (by omega)
  unfold f7_moveTicks spMoveT
  by_cases c : 1 ≤ z ∧ z ≤ 999
  · obtain ⟨q, rfl⟩ := Int.eq_ofNat_of_zero_le (show 0 ≤ z by omega)
    obtain ⟨I1, q1, q2, q3⟩ := e7_ticksOf (N := N) (len := q) (by omega) o1 o2 o3 o4 (by omega) (by omega) h.C
    refine ⟨I1, ?_, h.cs q3 q2, fm_cs q3⟩
    have r0 : I (k+2) 0 = zI (a : Int) := hR.1
    have r1 : I (k+2) 1 = zI (v : Int) := hR.2.1
    simp (disch := omega) only [e, r0, r1, q1, letM_s, clP_s, clM_s, l_m89910, l_m999, l_m9, l_m4, l_m3, l_m2, l_m1, l_0, l_1, l_2, l_3, l_4, l_5, l_6, l_7, l_8, l_9, l_10, l_11, l_12, l_13, l_14, l_18, l_31, l_32, l_33, l_43, l_45, l_48, l_57, l_64, l_66, l_80, l_97, l_100, l_109, l_118, l_119, l_200, l_255, l_462, l_500, l_676, l_999, l_1000, l_1001, l_9999, l_10000, l_99999, l_100000, l_447214, l_1000000000, m_m999, m_m9, m_0, m_1, m_2, m_4, m_9, m_255, m_500, m_999, m_9999, m_10000, m_99999, m_200000000, m_4294967295, m_1442695040888963407, m_6364136223846793005, z_add, z_sub, z_mul, z_neg, y_add, y_sub, y_mul, y_neg, z_toL, y_toI, cmp_lt, cmp_gt, cmp_le, cmp_ge, z_lt, z_le, z_eq, y_lt, y_le, y_eq, if_pos, if_neg, ite_true, ite_false]
    rfl
  · refine ⟨I, ?_, h, fun _ _ => rfl⟩
    simp (disch := omega) only [e, letM_s, clP_s, clM_s, l_m89910, l_m999, l_m9, l_m4, l_m3, l_m2, l_m1, l_0, l_1, l_2, l_3, l_4, l_5, l_6, l_7, l_8, l_9, l_10, l_11, l_12, l_13, l_14, l_18, l_31, l_32, l_33, l_43, l_45, l_48, l_57, l_64, l_66, l_80, l_97, l_100, l_109, l_118, l_119, l_200, l_255, l_462, l_500, l_676, l_999, l_1000, l_1001, l_9999, l_10000, l_99999, l_100000, l_447214, l_1000000000, m_m999, m_m9, m_0, m_1, m_2, m_4, m_9, m_255, m_500, m_999, m_9999, m_10000, m_99999, m_200000000, m_4294967295, m_1442695040888963407, m_6364136223846793005, z_add, z_sub, z_mul, z_neg, y_add, y_sub, y_mul, y_neg, z_toL, y_toI, cmp_lt, cmp_gt, cmp_le, cmp_ge, z_lt, z_le, z_eq, y_lt, y_le, y_eq, if_pos, if_neg, ite_true, ite_false, if_neg c]
theorem m_after {N : Nat} {I : Mem} {k : Nat} {g : GS} {z w : Int} (hN : 8100 ≤ N) (hG : OkG g) (h : MInv I k g) (h1 : -2147483648 ≤ z) (h2 : z < 2147483648) (h3 : -2147483648 ≤ w) (h4 : w < 2147483648) : ∃ I1, f7_positionAfter N I k (zI z) (zI w) = some ((spAfter g z w).1, I1) ∧ MInv I1 k g ∧ ∀ x, x < k → I1 x = I x := by
  have e := in_lit N I 0 1 h1 h2 (by omega) (by omega) (by omega) (by omega)
  have e' := in_lit N I 0 99999 h3 h4 (by omega) (by omega) (by omega) (by omega)
  unfold f7_positionAfter spAfter
  by_cases c : z = 0 ∨ z = 1
  · rw [if_pos c]
    by_cases c1 : 0 ≤ w ∧ w ≤ 99999
    · rw [if_pos c1]
      obtain ⟨I1, q1, q2, q3, q4⟩ := copy_tr (N := N) (by omega) hG h
      obtain ⟨I2, s1, s2, s3, s4⟩ := e7_run (N := N) (I := I1) (k := k) (row := k + 3) (K := w) hN (by omega) (by omega) (by omega) (by omega) q3.C hG.S q2
      refine ⟨I2, ?_, q3.tr s4 s3, fun x hx => by rw [fm_cr s4 (by omega) x hx, q4 x hx]⟩
      generalize (runS 8000 w (sG g)).2 = s at *
      obtain ⟨a, v, x, y, t, n, d, m, i, l⟩ := s
      have r2 : I2 (k+3) 2 = x := s2.2.2.1
      have r3 : I2 (k+3) 3 = y := s2.2.2.2.1
      have n2 : (zI (2 + 0)).toNatClampNeg = 2 := by rw [z_nat (by omega) (by omega)]; rfl
      have n3 : (zI (2 + 1)).toNatClampNeg = 3 := by rw [z_nat (by omega) (by omega)]; rfl
      unfold shownX
      by_cases c0 : z = 0
      · subst c0
        simp (disch := omega) only [e, e', q1, s1, n2, r2, letM_s, clP_s, clM_s, l_m89910, l_m999, l_m9, l_m4, l_m3, l_m2, l_m1, l_0, l_1, l_2, l_3, l_4, l_5, l_6, l_7, l_8, l_9, l_10, l_11, l_12, l_13, l_14, l_18, l_31, l_32, l_33, l_43, l_45, l_48, l_57, l_64, l_66, l_80, l_97, l_100, l_109, l_118, l_119, l_200, l_255, l_462, l_500, l_676, l_999, l_1000, l_1001, l_9999, l_10000, l_99999, l_100000, l_447214, l_1000000000, m_m999, m_m9, m_0, m_1, m_2, m_4, m_9, m_255, m_500, m_999, m_9999, m_10000, m_99999, m_200000000, m_4294967295, m_1442695040888963407, m_6364136223846793005, z_add, z_sub, z_mul, z_neg, y_add, y_sub, y_mul, y_neg, z_toL, y_toI, cmp_lt, cmp_gt, cmp_le, cmp_ge, z_lt, z_le, z_eq, y_lt, y_le, y_eq, if_pos, if_neg, ite_true, ite_false]
      · have c0' : z = 1 := by omega
        subst c0'
        simp (disch := omega) only [e, e', q1, s1, n3, r3, letM_s, clP_s, clM_s, l_m89910, l_m999, l_m9, l_m4, l_m3, l_m2, l_m1, l_0, l_1, l_2, l_3, l_4, l_5, l_6, l_7, l_8, l_9, l_10, l_11, l_12, l_13, l_14, l_18, l_31, l_32, l_33, l_43, l_45, l_48, l_57, l_64, l_66, l_80, l_97, l_100, l_109, l_118, l_119, l_200, l_255, l_462, l_500, l_676, l_999, l_1000, l_1001, l_9999, l_10000, l_99999, l_100000, l_447214, l_1000000000, m_m999, m_m9, m_0, m_1, m_2, m_4, m_9, m_255, m_500, m_999, m_9999, m_10000, m_99999, m_200000000, m_4294967295, m_1442695040888963407, m_6364136223846793005, z_add, z_sub, z_mul, z_neg, y_add, y_sub, y_mul, y_neg, z_toL, y_toI, cmp_lt, cmp_gt, cmp_le, cmp_ge, z_lt, z_le, z_eq, y_lt, y_le, y_eq, if_pos, if_neg, ite_true, ite_false]
    · rw [if_neg c1]
      refine ⟨I, ?_, h, fun _ _ => rfl⟩
      simp (disch := omega) only [e, e', letM_s, clP_s, clM_s, l_m89910, l_m999, l_m9, l_m4, l_m3, l_m2, l_m1, l_0, l_1, l_2, l_3, l_4, l_5, l_6, l_7, l_8, l_9, l_10, l_11, l_12, l_13, l_14, l_18, l_31, l_32, l_33, l_43, l_45, l_48, l_57, l_64, l_66, l_80, l_97, l_100, l_109, l_118, l_119, l_200, l_255, l_462, l_500, l_676, l_999, l_1000, l_1001, l_9999, l_10000, l_99999, l_100000, l_447214, l_1000000000, m_m999, m_m9, m_0, m_1, m_2, m_4, m_9, m_255, m_500, m_999, m_9999, m_10000, m_99999, m_200000000, m_4294967295, m_1442695040888963407, m_6364136223846793005, z_add, z_sub, z_mul, z_neg, y_add, y_sub, y_mul, y_neg, z_toL, y_toI, cmp_lt, cmp_gt, cmp_le, cmp_ge, z_lt, z_le, z_eq, y_lt, y_le, y_eq, if_pos, if_neg, ite_true, ite_false]
  · rw [if_neg c]
    refine ⟨I, ?_, h, fun _ _ => rfl⟩
    simp (disch := omega) only [e, letM_s, clP_s, clM_s, l_m89910, l_m999, l_m9, l_m4, l_m3, l_m2, l_m1, l_0, l_1, l_2, l_3, l_4, l_5, l_6, l_7, l_8, l_9, l_10, l_11, l_12, l_13, l_14, l_18, l_31, l_32, l_33, l_43, l_45, l_48, l_57, l_64, l_66, l_80, l_97, l_100, l_109, l_118, l_119, l_200, l_255, l_462, l_500, l_676, l_999, l_1000, l_1001, l_9999, l_10000, l_99999, l_100000, l_447214, l_1000000000, m_m999, m_m9, m_0, m_1, m_2, m_4, m_9, m_255, m_500, m_999, m_9999, m_10000, m_99999, m_200000000, m_4294967295, m_1442695040888963407, m_6364136223846793005, z_add, z_sub, z_mul, z_neg, y_add, y_sub, y_mul, y_neg, z_toL, y_toI, cmp_lt, cmp_gt, cmp_le, cmp_ge, z_lt, z_le, z_eq, y_lt, y_le, y_eq, if_pos, if_neg, ite_true, ite_false]
theorem mv_bd9 {a c len : Nat} (ha : 1 ≤ a) (hc : c ≤ 10000) (hl : len ≤ 999) : mv a c len ≤ 446765787 := Nat.le_trans (mv_bd ha hc len hl) (Nat.mul_le_mul_right 447213 hl)
theorem e7_least_29 {N : Nat} {k len : Nat} {w : Int} {g : GS} (hN : 8100 ≤ N) (hG : OkG g) (hl : 1 ≤ len) (hl2 : len ≤ 999) (hw1 : 1 ≤ w) (hw2 : w ≤ 99999) : ∀ (e a cnt : Nat) (I : Mem), a + e = 1000 → 1 ≤ a → e < cnt → MInv I k g →
    ∃ I1, f7_leastAcceleration_29 N k (zI (len : Int)) (zI w) cnt I (zI (a : Int)) = some (zI (lstA (sV (sG g)) len w e a), I1) ∧ MInv I1 k g ∧ ∀ x, x < k → I1 x = I x := by
  have ho : 1 ≤ sV (sG g) ∧ sV (sG g) ≤ 999 := by
    have hO := hG.S
    obtain ⟨tl, tx, ⟨a, v, x, y, t, n, d, m, i, l⟩, hc, he, hh, sv⟩ := g
    exact ⟨hO.2.2.1, hO.2.2.2.1⟩
  intro e
  induction e with
  | zero =>
    intro a cnt I h1 h2 h3 h
    obtain ⟨cnt, rfl⟩ : ∃ x, cnt = x + 1 := ⟨cnt - 1, by omega⟩
    refine ⟨I, ?_, h, fun _ _ => rfl⟩
    rw [f7_leastAcceleration_29]
    simp (disch := omega) only [letM_s, clP_s, clM_s, l_m89910, l_m999, l_m9, l_m4, l_m3, l_m2, l_m1, l_0, l_1, l_2, l_3, l_4, l_5, l_6, l_7, l_8, l_9, l_10, l_11, l_12, l_13, l_14, l_18, l_31, l_32, l_33, l_43, l_45, l_48, l_57, l_64, l_66, l_80, l_97, l_100, l_109, l_118, l_119, l_200, l_255, l_462, l_500, l_676, l_999, l_1000, l_1001, l_9999, l_10000, l_99999, l_100000, l_447214, l_1000000000, m_m999, m_m9, m_0, m_1, m_2, m_4, m_9, m_255, m_500, m_999, m_9999, m_10000, m_99999, m_200000000, m_4294967295, m_1442695040888963407, m_6364136223846793005, z_add, z_sub, z_mul, z_neg, y_add, y_sub, y_mul, y_neg, z_toL, y_toI, cmp_lt, cmp_gt, cmp_le, cmp_ge, z_lt, z_le, z_eq, y_lt, y_le, y_eq, if_pos, if_neg, ite_true, ite_false]
    rfl
  | succ e ih =>
    intro a cnt I h1 h2 h3 h
    obtain ⟨cnt, rfl⟩ : ∃ x, cnt = x + 1 := ⟨cnt - 1, by omega⟩
    have r1 : I (k+2) 1 = zI (sV (sG g) : Int) := by
      have hR := h.now
      obtain ⟨tl, tx, ⟨a, v, x, y, t, n, d, m, i, l⟩, hc, he, hh, sv⟩ := g
      exact hR.2.1
    obtain ⟨I1, q1, q2, q3⟩ := e7_ticksOf (N := N) (a := a) (v := sV (sG g)) (len := len) (by omega) h2 (by omega) ho.1 ho.2 hl hl2 h.C
    have hb := mv_bd9 (len := len) (c := cr (sV (sG g))) h2 (cr_bd ho.1 ho.2).2 hl2
    unfold lstA
    by_cases c : (mv a (cr (sV (sG g))) len : Int) ≤ w
    · rw [if_pos c]
      refine ⟨I1, ?_, h.cs q3 q2, fm_cs q3⟩
      rw [f7_leastAcceleration_29, r1]
      simp (disch := omega) only [q1, letM_s, clP_s, clM_s, l_m89910, l_m999, l_m9, l_m4, l_m3, l_m2, l_m1, l_0, l_1, l_2, l_3, l_4, l_5, l_6, l_7, l_8, l_9, l_10, l_11, l_12, l_13, l_14, l_18, l_31, l_32, l_33, l_43, l_45, l_48, l_57, l_64, l_66, l_80, l_97, l_100, l_109, l_118, l_119, l_200, l_255, l_462, l_500, l_676, l_999, l_1000, l_1001, l_9999, l_10000, l_99999, l_100000, l_447214, l_1000000000, m_m999, m_m9, m_0, m_1, m_2, m_4, m_9, m_255, m_500, m_999, m_9999, m_10000, m_99999, m_200000000, m_4294967295, m_1442695040888963407, m_6364136223846793005, z_add, z_sub, z_mul, z_neg, y_add, y_sub, y_mul, y_neg, z_toL, y_toI, cmp_lt, cmp_gt, cmp_le, cmp_ge, z_lt, z_le, z_eq, y_lt, y_le, y_eq, if_pos, if_neg, ite_true, ite_false]
    · rw [if_neg c]
      obtain ⟨I2, t1, t2, t3⟩ := ih (a + 1) cnt I1 (by omega) (by omega) (by omega) (h.cs q3 q2)
      refine ⟨I2, ?_, t2, fun x hx => by rw [t3 x hx, fm_cs q3 x hx]⟩
      rw [← t1, f7_leastAcceleration_29, r1]
      simp (disch := omega) only [q1, letM_s, clP_s, clM_s, l_m89910, l_m999, l_m9, l_m4, l_m3, l_m2, l_m1, l_0, l_1, l_2, l_3, l_4, l_5, l_6, l_7, l_8, l_9, l_10, l_11, l_12, l_13, l_14, l_18, l_31, l_32, l_33, l_43, l_45, l_48, l_57, l_64, l_66, l_80, l_97, l_100, l_109, l_118, l_119, l_200, l_255, l_462, l_500, l_676, l_999, l_1000, l_1001, l_9999, l_10000, l_99999, l_100000, l_447214, l_1000000000, m_m999, m_m9, m_0, m_1, m_2, m_4, m_9, m_255, m_500, m_999, m_9999, m_10000, m_99999, m_200000000, m_4294967295, m_1442695040888963407, m_6364136223846793005, z_add, z_sub, z_mul, z_neg, y_add, y_sub, y_mul, y_neg, z_toL, y_toI, cmp_lt, cmp_gt, cmp_le, cmp_ge, z_lt, z_le, z_eq, y_lt, y_le, y_eq, if_pos, if_neg, ite_true, ite_false]
      rfl
theorem m_least {N : Nat} {I : Mem} {k : Nat} {g : GS} {z w : Int} (hN : 8100 ≤ N) (hG : OkG g) (h : MInv I k g) (h1 : -2147483648 ≤ z) (h2 : z < 2147483648) (h3 : -2147483648 ≤ w) (h4 : w < 2147483648) : ∃ I1, f7_leastAcceleration N I k (zI z) (zI w) = some ((spLeast g z w).1, I1) ∧ MInv I1 k g ∧ ∀ x, x < k → I1 x = I x := by
  have e := in_lit N I 1 999 h1 h2 (by omega) (by omega) (by omega) (by omega)
  have e' := in_lit N I 1 99999 h3 h4 (by omega) (by omega) (by omega) (by omega)
  unfold f7_leastAcceleration spLeast
  by_cases c : 1 ≤ z ∧ z ≤ 999 ∧ 1 ≤ w ∧ w ≤ 99999
  · rw [if_pos c]
    obtain ⟨q, rfl⟩ := Int.eq_ofNat_of_zero_le (show 0 ≤ z by omega)
    obtain ⟨I1, t1, t2, t3⟩ := e7_least_29 (N := N) (k := k) (len := q) (w := w) hN hG (by omega) (by omega) (by omega) (by omega) 999 1 N I (by omega) (by omega) (by omega) h
    have t1' : f7_leastAcceleration_29 N k (zI (q : Int)) (zI w) N I (zI 1) = _ := t1
    refine ⟨I1, ?_, t2, t3⟩
    simp (disch := omega) only [e, e', t1', letM_s, clP_s, clM_s, l_m89910, l_m999, l_m9, l_m4, l_m3, l_m2, l_m1, l_0, l_1, l_2, l_3, l_4, l_5, l_6, l_7, l_8, l_9, l_10, l_11, l_12, l_13, l_14, l_18, l_31, l_32, l_33, l_43, l_45, l_48, l_57, l_64, l_66, l_80, l_97, l_100, l_109, l_118, l_119, l_200, l_255, l_462, l_500, l_676, l_999, l_1000, l_1001, l_9999, l_10000, l_99999, l_100000, l_447214, l_1000000000, m_m999, m_m9, m_0, m_1, m_2, m_4, m_9, m_255, m_500, m_999, m_9999, m_10000, m_99999, m_200000000, m_4294967295, m_1442695040888963407, m_6364136223846793005, z_add, z_sub, z_mul, z_neg, y_add, y_sub, y_mul, y_neg, z_toL, y_toI, cmp_lt, cmp_gt, cmp_le, cmp_ge, z_lt, z_le, z_eq, y_lt, y_le, y_eq, if_pos, if_neg, ite_true, ite_false]
    rfl
  · rw [if_neg c]
    refine ⟨I, ?_, h, fun _ _ => rfl⟩
    by_cases c1 : 1 ≤ z ∧ z ≤ 999
    · simp (disch := omega) only [e, e', letM_s, clP_s, clM_s, l_m89910, l_m999, l_m9, l_m4, l_m3, l_m2, l_m1, l_0, l_1, l_2, l_3, l_4, l_5, l_6, l_7, l_8, l_9, l_10, l_11, l_12, l_13, l_14, l_18, l_31, l_32, l_33, l_43, l_45, l_48, l_57, l_64, l_66, l_80, l_97, l_100, l_109, l_118, l_119, l_200, l_255, l_462, l_500, l_676, l_999, l_1000, l_1001, l_9999, l_10000, l_99999, l_100000, l_447214, l_1000000000, m_m999, m_m9, m_0, m_1, m_2, m_4, m_9, m_255, m_500, m_999, m_9999, m_10000, m_99999, m_200000000, m_4294967295, m_1442695040888963407, m_6364136223846793005, z_add, z_sub, z_mul, z_neg, y_add, y_sub, y_mul, y_neg, z_toL, y_toI, cmp_lt, cmp_gt, cmp_le, cmp_ge, z_lt, z_le, z_eq, y_lt, y_le, y_eq, if_pos, if_neg, ite_true, ite_false]
    · simp (disch := omega) only [e, letM_s, clP_s, clM_s, l_m89910, l_m999, l_m9, l_m4, l_m3, l_m2, l_m1, l_0, l_1, l_2, l_3, l_4, l_5, l_6, l_7, l_8, l_9, l_10, l_11, l_12, l_13, l_14, l_18, l_31, l_32, l_33, l_43, l_45, l_48, l_57, l_64, l_66, l_80, l_97, l_100, l_109, l_118, l_119, l_200, l_255, l_462, l_500, l_676, l_999, l_1000, l_1001, l_9999, l_10000, l_99999, l_100000, l_447214, l_1000000000, m_m999, m_m9, m_0, m_1, m_2, m_4, m_9, m_255, m_500, m_999, m_9999, m_10000, m_99999, m_200000000, m_4294967295, m_1442695040888963407, m_6364136223846793005, z_add, z_sub, z_mul, z_neg, y_add, y_sub, y_mul, y_neg, z_toL, y_toI, cmp_lt, cmp_gt, cmp_le, cmp_ge, z_lt, z_le, z_eq, y_lt, y_le, y_eq, if_pos, if_neg, ite_true, ite_false]
theorem e7_great_19 {N : Nat} {k : Nat} {w : Int} {g : GS} (hN : 8100 ≤ N) (hG : OkG g) (hw1 : 1 ≤ w) (hw2 : w ≤ 99999) : ∀ (l cnt : Nat) (I : Mem), l ≤ 999 → l < cnt → MInv I k g →
    ∃ I1, f7_greatestLength_19 N k (zI w) cnt I (zI (l : Int)) = some (zI (grtL (sA (sG g)) (sV (sG g)) w l), I1) ∧ MInv I1 k g ∧ ∀ x, x < k → I1 x = I x := by
  have ho : 1 ≤ sA (sG g) ∧ sA (sG g) ≤ 999 ∧ 1 ≤ sV (sG g) ∧ sV (sG g) ≤ 999 := by
    have hO := hG.S
    obtain ⟨tl, tx, ⟨a, v, x, y, t, n, d, m, i, l⟩, hc, he, hh, sv⟩ := g
    exact ⟨hO.1, hO.2.1, hO.2.2.1, hO.2.2.2.1⟩
  intro l
  induction l with
  | zero =>
    intro cnt I h1 h2 h
    obtain ⟨cnt, rfl⟩ : ∃ x, cnt = x + 1 := ⟨cnt - 1, by omega⟩
    refine ⟨I, ?_, h, fun _ _ => rfl⟩
    rw [f7_greatestLength_19]
    simp (disch := omega) only [letM_s, clP_s, clM_s, l_m89910, l_m999, l_m9, l_m4, l_m3, l_m2, l_m1, l_0, l_1, l_2, l_3, l_4, l_5, l_6, l_7, l_8, l_9, l_10, l_11, l_12, l_13, l_14, l_18, l_31, l_32, l_33, l_43, l_45, l_48, l_57, l_64, l_66, l_80, l_97, l_100, l_109, l_118, l_119, l_200, l_255, l_462, l_500, l_676, l_999, l_1000, l_1001, l_9999, l_10000, l_99999, l_100000, l_447214, l_1000000000, m_m999, m_m9, m_0, m_1, m_2, m_4, m_9, m_255, m_500, m_999, m_9999, m_10000, m_99999, m_200000000, m_4294967295, m_1442695040888963407, m_6364136223846793005, z_add, z_sub, z_mul, z_neg, y_add, y_sub, y_mul, y_neg, z_toL, y_toI, cmp_lt, cmp_gt, cmp_le, cmp_ge, z_lt, z_le, z_eq, y_lt, y_le, y_eq, if_pos, if_neg, ite_true, ite_false]
    rfl
  | succ l ih =>
    intro cnt I h1 h2 h
    obtain ⟨cnt, rfl⟩ : ∃ x, cnt = x + 1 := ⟨cnt - 1, by omega⟩
    have r1 : I (k+2) 0 = zI (sA (sG g) : Int) ∧ I (k+2) 1 = zI (sV (sG g) : Int) := by
      have hR := h.now
      obtain ⟨tl, tx, ⟨a, v, x, y, t, n, d, m, i, l⟩, hc, he, hh, sv⟩ := g
      exact ⟨hR.1, hR.2.1⟩
    obtain ⟨I1, q1, q2, q3⟩ := e7_ticksOf (N := N) (a := sA (sG g)) (v := sV (sG g)) (len := l + 1) (by omega) ho.1 ho.2.1 ho.2.2.1 ho.2.2.2 (by omega) h1 h.C
    have hb := mv_bd9 (len := l + 1) (c := cr (sV (sG g))) ho.1 (cr_bd ho.2.2.1 ho.2.2.2).2 h1
    unfold grtL
    generalize mv (sA (sG g)) (cr (sV (sG g))) (l + 1) = M at *
    by_cases c : (M : Int) ≤ w
    · rw [if_pos c]
      refine ⟨I1, ?_, h.cs q3 q2, fm_cs q3⟩
      rw [f7_greatestLength_19, r1.1, r1.2]
      simp (disch := omega) only [q1, letM_s, clP_s, clM_s, l_m89910, l_m999, l_m9, l_m4, l_m3, l_m2, l_m1, l_0, l_1, l_2, l_3, l_4, l_5, l_6, l_7, l_8, l_9, l_10, l_11, l_12, l_13, l_14, l_18, l_31, l_32, l_33, l_43, l_45, l_48, l_57, l_64, l_66, l_80, l_97, l_100, l_109, l_118, l_119, l_200, l_255, l_462, l_500, l_676, l_999, l_1000, l_1001, l_9999, l_10000, l_99999, l_100000, l_447214, l_1000000000, m_m999, m_m9, m_0, m_1, m_2, m_4, m_9, m_255, m_500, m_999, m_9999, m_10000, m_99999, m_200000000, m_4294967295, m_1442695040888963407, m_6364136223846793005, z_add, z_sub, z_mul, z_neg, y_add, y_sub, y_mul, y_neg, z_toL, y_toI, cmp_lt, cmp_gt, cmp_le, cmp_ge, z_lt, z_le, z_eq, y_lt, y_le, y_eq, if_pos, if_neg, ite_true, ite_false]
      exact congrArg (fun q => some (zI q, I1)) (show ((l + 1 : Nat) : Int) = (l : Int) + 1 by omega)
    · rw [if_neg c]
      obtain ⟨I2, t1, t2, t3⟩ := ih cnt I1 (by omega) (by omega) (h.cs q3 q2)
      refine ⟨I2, ?_, t2, fun x hx => by rw [t3 x hx, fm_cs q3 x hx]⟩
      rw [← t1, f7_greatestLength_19, r1.1, r1.2]
      simp (disch := omega) only [q1, letM_s, clP_s, clM_s, l_m89910, l_m999, l_m9, l_m4, l_m3, l_m2, l_m1, l_0, l_1, l_2, l_3, l_4, l_5, l_6, l_7, l_8, l_9, l_10, l_11, l_12, l_13, l_14, l_18, l_31, l_32, l_33, l_43, l_45, l_48, l_57, l_64, l_66, l_80, l_97, l_100, l_109, l_118, l_119, l_200, l_255, l_462, l_500, l_676, l_999, l_1000, l_1001, l_9999, l_10000, l_99999, l_100000, l_447214, l_1000000000, m_m999, m_m9, m_0, m_1, m_2, m_4, m_9, m_255, m_500, m_999, m_9999, m_10000, m_99999, m_200000000, m_4294967295, m_1442695040888963407, m_6364136223846793005, z_add, z_sub, z_mul, z_neg, y_add, y_sub, y_mul, y_neg, z_toL, y_toI, cmp_lt, cmp_gt, cmp_le, cmp_ge, z_lt, z_le, z_eq, y_lt, y_le, y_eq, if_pos, if_neg, ite_true, ite_false]
      rw [show ((l + 1 : Nat) : Int) + -1 = (l : Int) by omega]
theorem m_great {N : Nat} {I : Mem} {k : Nat} {g : GS} {z : Int} (hN : 8100 ≤ N) (hG : OkG g) (h : MInv I k g) (h1 : -2147483648 ≤ z) (h2 : z < 2147483648) : ∃ I1, f7_greatestLength N I k (zI z) = some ((spGreat g z).1, I1) ∧ MInv I1 k g ∧ ∀ x, x < k → I1 x = I x := by
  have e := in_lit N I 1 99999 h1 h2 (by omega) (by omega) (by omega) (by omega)
  unfold f7_greatestLength spGreat
  by_cases c : 1 ≤ z ∧ z ≤ 99999
  · rw [if_pos c]
    obtain ⟨I1, t1, t2, t3⟩ := e7_great_19 (N := N) (k := k) (w := z) hN hG (by omega) (by omega) 999 N I (by omega) (by omega) h
    have t1' : f7_greatestLength_19 N k (zI z) N I (zI 999) = _ := t1
    refine ⟨I1, ?_, t2, t3⟩
    simp (disch := omega) only [e, t1', letM_s, clP_s, clM_s, l_m89910, l_m999, l_m9, l_m4, l_m3, l_m2, l_m1, l_0, l_1, l_2, l_3, l_4, l_5, l_6, l_7, l_8, l_9, l_10, l_11, l_12, l_13, l_14, l_18, l_31, l_32, l_33, l_43, l_45, l_48, l_57, l_64, l_66, l_80, l_97, l_100, l_109, l_118, l_119, l_200, l_255, l_462, l_500, l_676, l_999, l_1000, l_1001, l_9999, l_10000, l_99999, l_100000, l_447214, l_1000000000, m_m999, m_m9, m_0, m_1, m_2, m_4, m_9, m_255, m_500, m_999, m_9999, m_10000, m_99999, m_200000000, m_4294967295, m_1442695040888963407, m_6364136223846793005, z_add, z_sub, z_mul, z_neg, y_add, y_sub, y_mul, y_neg, z_toL, y_toI, cmp_lt, cmp_gt, cmp_le, cmp_ge, z_lt, z_le, z_eq, y_lt, y_le, y_eq, if_pos, if_neg, ite_true, ite_false]
  · rw [if_neg c]
    refine ⟨I, ?_, h, fun _ _ => rfl⟩
    simp (disch := omega) only [e, letM_s, clP_s, clM_s, l_m89910, l_m999, l_m9, l_m4, l_m3, l_m2, l_m1, l_0, l_1, l_2, l_3, l_4, l_5, l_6, l_7, l_8, l_9, l_10, l_11, l_12, l_13, l_14, l_18, l_31, l_32, l_33, l_43, l_45, l_48, l_57, l_64, l_66, l_80, l_97, l_100, l_109, l_118, l_119, l_200, l_255, l_462, l_500, l_676, l_999, l_1000, l_1001, l_9999, l_10000, l_99999, l_100000, l_447214, l_1000000000, m_m999, m_m9, m_0, m_1, m_2, m_4, m_9, m_255, m_500, m_999, m_9999, m_10000, m_99999, m_200000000, m_4294967295, m_1442695040888963407, m_6364136223846793005, z_add, z_sub, z_mul, z_neg, y_add, y_sub, y_mul, y_neg, z_toL, y_toI, cmp_lt, cmp_gt, cmp_le, cmp_ge, z_lt, z_le, z_eq, y_lt, y_le, y_eq, if_pos, if_neg, ite_true, ite_false]
