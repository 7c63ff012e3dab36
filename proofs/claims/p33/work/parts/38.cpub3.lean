/-! THE CLASS' PUBLIC METHODS, the rest of the short ones -/
theorem c_item {N : Nat} {I : Mem} {k : Nat} {g : GS} {z : Int} (hG : OkG g) (h : CInv I k g) (h1 : -2147483648 ≤ z) (h2 : z < 2147483648) : f6_itemAt N I k (zI z) = some ((spItem g z).1, I) := by
  have hb := hG.S.b
  have e1 := e5_hasItem N (i := z) h.now.n hb.2.2.2.2 h1 h2
  unfold f6_itemAt spItem
  by_cases c1 : 0 ≤ z ∧ z < nS (sG g)
  · rw [if_pos c1] at e1 ⊢
    obtain ⟨j, rfl⟩ := Int.eq_ofNat_of_zero_le c1.1
    have hj : j < nS (sG g) := by omega
    have hd := hG.S.d hj
    have hr := h.now.d hj
    obtain ⟨-, -, -, -, w1, w2, -⟩ := id hd
    have e2 := e5_isWait N h.now.n hb.2.2.2.2 hj hr.2.2 w1 w2
    have e3 := e5_left N hG.S hj h.now
    have hw := hr.2.2
    rw [Int.toNat_natCast]
    have n1 : (zI (j : Int)).toNatClampNeg = j := by rw [z_nat (by omega) (by omega)]; rfl
    by_cases c2 : 0 < (sD (sG g) j).2.2
    · rw [if_pos c2] at e2 ⊢
      simp (disch := omega) only [e1, e2, n1, hw, letM_s, clP_s, clM_s, l_m89910, l_m999, l_m9, l_m4, l_m3, l_m2, l_m1, l_0, l_1, l_2, l_3, l_4, l_5, l_6, l_7, l_8, l_9, l_10, l_11, l_12, l_13, l_14, l_18, l_31, l_32, l_33, l_43, l_45, l_48, l_57, l_64, l_66, l_80, l_97, l_100, l_109, l_118, l_119, l_200, l_255, l_462, l_500, l_676, l_999, l_1000, l_1001, l_9999, l_10000, l_99999, l_100000, l_447214, l_1000000000, m_m999, m_m9, m_0, m_1, m_2, m_4, m_9, m_255, m_500, m_999, m_9999, m_10000, m_99999, m_200000000, m_4294967295, m_1442695040888963407, m_6364136223846793005, z_add, z_sub, z_mul, z_neg, y_add, y_sub, y_mul, y_neg, z_toL, y_toI, cmp_lt, cmp_gt, cmp_le, cmp_ge, z_lt, z_le, z_eq, y_lt, y_le, y_eq, if_pos, if_neg, ite_true, ite_false]
    · rw [if_neg c2] at e2 ⊢
      have ej : ((j : Int) = 0 ∧ sM (sG g) ≠ 0) ↔ (j = 0 ∧ sM (sG g) ≠ 0) := ⟨fun q => ⟨by omega, q.2⟩, fun q => ⟨by omega, q.2⟩⟩
      by_cases c3 : j = 0 ∧ sM (sG g) ≠ 0
      · rw [if_pos c3] at e3
        rw [if_pos (ej.mpr c3)]
        simp (disch := omega) only [e1, e2, e3, clP_s, l_0, l_1, z_eq, if_neg, if_pos]
        rfl
      · rw [if_neg c3] at e3
        rw [if_neg (fun q => c3 (ej.mp q))]
        simp (disch := omega) only [e1, e2, e3, clP_s, l_0, l_1, z_eq, if_neg, if_pos]
        rfl
  · rw [if_neg c1] at e1 ⊢
    simp (disch := omega) only [e1, letM_s, clP_s, clM_s, l_m89910, l_m999, l_m9, l_m4, l_m3, l_m2, l_m1, l_0, l_1, l_2, l_3, l_4, l_5, l_6, l_7, l_8, l_9, l_10, l_11, l_12, l_13, l_14, l_18, l_31, l_32, l_33, l_43, l_45, l_48, l_57, l_64, l_66, l_80, l_97, l_100, l_109, l_118, l_119, l_200, l_255, l_462, l_500, l_676, l_999, l_1000, l_1001, l_9999, l_10000, l_99999, l_100000, l_447214, l_1000000000, m_m999, m_m9, m_0, m_1, m_2, m_4, m_9, m_255, m_500, m_999, m_9999, m_10000, m_99999, m_200000000, m_4294967295, m_1442695040888963407, m_6364136223846793005, z_add, z_sub, z_mul, z_neg, y_add, y_sub, y_mul, y_neg, z_toL, y_toI, cmp_lt, cmp_gt, cmp_le, cmp_ge, z_lt, z_le, z_eq, y_lt, y_le, y_eq, if_pos, if_neg, ite_true, ite_false]
theorem CInv.tx {I I1 : Mem} {k tl tl' : Nat} {tx tx' : Nat → Int} {r} (h : CInv I k (tl, tx, r)) (hx : ∀ x, x ≠ k + 1 → x ≠ k + 2 → I1 x = I x) (h1 : I1 (k+1) 1 = zI (tl' : Int)) (h2 : ∀ j, j < tl' → I1 (k+2) j = zI (tx' j)) : CInv I1 k (tl', tx', r) := by
  obtain ⟨s, hc, he, hh, sv⟩ := r
  obtain ⟨-, -, h3, h4, h5, h6, h7, h8⟩ := h
  refine ⟨h1, h2, h3.fr (fun x a b => hx x (by omega) (by omega)), by rw [hx _ (by omega) (by omega)]; exact h4, by rw [hx _ (by omega) (by omega)]; exact h5, fun i hi => (h6 i hi).fr (fun x a b => hx x (by omega) (by omega)), fun b hb => ?_, h8.fr (hx _ (by omega) (by omega)) (hx _ (by omega) (by omega))⟩
  rw [hx (k+69+5*b) (by omega) (by omega)]
  exact ⟨(h7 b hb).1, fun z hz => ⟨((h7 b hb).2 z hz).1, ((h7 b hb).2 z hz).2.fr (fun x p q => hx x (by omega) (by omega))⟩⟩
theorem c_app {N : Nat} {I : Mem} {k : Nat} {g : GS} {z : Int} (hG : OkG g) (h : CInv I k g) (h1 : -2147483648 ≤ z) (h2 : z < 2147483648) : ∃ I1, f6_append N I k (zI z) = some ((spApp g z).1, I1) ∧ CInv I1 k (spApp g z).2 ∧ ∀ x, (x < k ∨ k + 81 ≤ x) → I1 x = I x := by
  obtain ⟨tl, tx, r⟩ := g
  have g1 : tl ≤ 80 := hG.1
  have ht : I (k+1) 1 = zI (tl : Int) := by obtain ⟨s, hc, he, hh, sv⟩ := r; exact h.1
  have hx : ∀ j, j < tl → I (k+2) j = zI (tx j) := by obtain ⟨s, hc, he, hh, sv⟩ := r; exact h.2.1
  show ∃ I1, _ = some ((if 0 ≤ z ∧ z ≤ 255 then (if tl = 80 then (zI (-4), (tl, tx, r)) else (zI ((tl + 1 : Nat) : Int), (tl + 1, fun j => if j = tl then z else tx j, r))) else (zI (-2), (tl, tx, r))).1, I1) ∧ CInv I1 k (if 0 ≤ z ∧ z ≤ 255 then (if tl = 80 then (zI (-4), (tl, tx, r)) else (zI ((tl + 1 : Nat) : Int), (tl + 1, fun j => if j = tl then z else tx j, r))) else (zI (-2), (tl, tx, r))).2 ∧ _
  by_cases c : 0 ≤ z ∧ z ≤ 255
  · rw [if_pos c]
    by_cases c2 : tl = 80
    · rw [if_pos c2]
      refine ⟨I, ?_, h, fun _ _ => rfl⟩
      unfold f6_append f4_add
      simp (disch := omega) only [ht, letM_s, clP_s, clM_s, l_m89910, l_m999, l_m9, l_m4, l_m3, l_m2, l_m1, l_0, l_1, l_2, l_3, l_4, l_5, l_6, l_7, l_8, l_9, l_10, l_11, l_12, l_13, l_14, l_18, l_31, l_32, l_33, l_43, l_45, l_48, l_57, l_64, l_66, l_80, l_97, l_100, l_109, l_118, l_119, l_200, l_255, l_462, l_500, l_676, l_999, l_1000, l_1001, l_9999, l_10000, l_99999, l_100000, l_447214, l_1000000000, m_m999, m_m9, m_0, m_1, m_2, m_4, m_9, m_255, m_500, m_999, m_9999, m_10000, m_99999, m_200000000, m_4294967295, m_1442695040888963407, m_6364136223846793005, z_add, z_sub, z_mul, z_neg, y_add, y_sub, y_mul, y_neg, z_toL, y_toI, cmp_lt, cmp_gt, cmp_le, cmp_ge, z_lt, z_le, z_eq, y_lt, y_le, y_eq, if_pos, if_neg, ite_true, ite_false]
    · rw [if_neg c2]
      have n1 : (zI (tl : Int)).toNatClampNeg = tl := by rw [z_nat (by omega) (by omega)]; rfl
      obtain ⟨I2, hI2⟩ : ∃ I2, I2 = st I (k+1+1) tl (zI z) := ⟨_, rfl⟩
      have s1 : I2 (k+1) 1 = zI (tl : Int) := by rw [hI2, st_k (by omega)]; exact ht
      refine ⟨st I2 (k+1) 1 (zI ((tl + 1 : Nat) : Int)), ?_, CInv.tx h (fun x a b => by rw [st_k a, hI2, st_k b]) (st_s _ _ _ _) (fun j hj => ?_), fun x hx => by rw [st_k (by omega), hI2, st_k (by omega)]⟩
      · have s2 : st I2 (k+1) 1 (zI ((tl : Int) + 1)) (k+1) 1 = zI ((tl : Int) + 1) := st_s _ _ _ _
        unfold f6_append f4_add
        simp (disch := omega) only [ht, n1, letM_s, clP_s, clM_s, l_m89910, l_m999, l_m9, l_m4, l_m3, l_m2, l_m1, l_0, l_1, l_2, l_3, l_4, l_5, l_6, l_7, l_8, l_9, l_10, l_11, l_12, l_13, l_14, l_18, l_31, l_32, l_33, l_43, l_45, l_48, l_57, l_64, l_66, l_80, l_97, l_100, l_109, l_118, l_119, l_200, l_255, l_462, l_500, l_676, l_999, l_1000, l_1001, l_9999, l_10000, l_99999, l_100000, l_447214, l_1000000000, m_m999, m_m9, m_0, m_1, m_2, m_4, m_9, m_255, m_500, m_999, m_9999, m_10000, m_99999, m_200000000, m_4294967295, m_1442695040888963407, m_6364136223846793005, z_add, z_sub, z_mul, z_neg, y_add, y_sub, y_mul, y_neg, z_toL, y_toI, cmp_lt, cmp_gt, cmp_le, cmp_ge, z_lt, z_le, z_eq, y_lt, y_le, y_eq, if_pos, if_neg, ite_true, ite_false, ← hI2, s1, s2, or_false, false_or, if_false]
        rfl
      · rw [st_k (by omega), hI2]
        show _ = zI (if j = tl then z else tx j)
        by_cases cj : j = tl
        · rw [if_pos cj, cj]; exact st_s _ _ _ _
        · rw [if_neg cj]
          have e : st I (k+1+1) tl (zI z) (k+2) j = I (k+2) j := st_j cj
          rw [e]
          exact hx j (by omega)
  · rw [if_neg c]
    refine ⟨I, ?_, h, fun _ _ => rfl⟩
    unfold f6_append
    by_cases c1 : z < 0
    · simp (disch := omega) only [letM_s, clP_s, clM_s, l_m89910, l_m999, l_m9, l_m4, l_m3, l_m2, l_m1, l_0, l_1, l_2, l_3, l_4, l_5, l_6, l_7, l_8, l_9, l_10, l_11, l_12, l_13, l_14, l_18, l_31, l_32, l_33, l_43, l_45, l_48, l_57, l_64, l_66, l_80, l_97, l_100, l_109, l_118, l_119, l_200, l_255, l_462, l_500, l_676, l_999, l_1000, l_1001, l_9999, l_10000, l_99999, l_100000, l_447214, l_1000000000, m_m999, m_m9, m_0, m_1, m_2, m_4, m_9, m_255, m_500, m_999, m_9999, m_10000, m_99999, m_200000000, m_4294967295, m_1442695040888963407, m_6364136223846793005, z_add, z_sub, z_mul, z_neg, y_add, y_sub, y_mul, y_neg, z_toL, y_toI, cmp_lt, cmp_gt, cmp_le, cmp_ge, z_lt, z_le, z_eq, y_lt, y_le, y_eq, if_pos, if_neg, ite_true, ite_false]
    · simp (disch := omega) only [letM_s, clP_s, clM_s, l_m89910, l_m999, l_m9, l_m4, l_m3, l_m2, l_m1, l_0, l_1, l_2, l_3, l_4, l_5, l_6, l_7, l_8, l_9, l_10, l_11, l_12, l_13, l_14, l_18, l_31, l_32, l_33, l_43, l_45, l_48, l_57, l_64, l_66, l_80, l_97, l_100, l_109, l_118, l_119, l_200, l_255, l_462, l_500, l_676, l_999, l_1000, l_1001, l_9999, l_10000, l_99999, l_100000, l_447214, l_1000000000, m_m999, m_m9, m_0, m_1, m_2, m_4, m_9, m_255, m_500, m_999, m_9999, m_10000, m_99999, m_200000000, m_4294967295, m_1442695040888963407, m_6364136223846793005, z_add, z_sub, z_mul, z_neg, y_add, y_sub, y_mul, y_neg, z_toL, y_toI, cmp_lt, cmp_gt, cmp_le, cmp_ge, z_lt, z_le, z_eq, y_lt, y_le, y_eq, if_pos, if_neg, ite_true, ite_false]
theorem c_clr (N : Nat) {I : Mem} {k : Nat} {g : GS} (h : CInv I k g) : ∃ I1, f6_clearText N I k = some ((spClr g).1, I1) ∧ CInv I1 k (spClr g).2 ∧ ∀ x, (x < k ∨ k + 81 ≤ x) → I1 x = I x := by
  obtain ⟨tl, tx, r⟩ := g
  have ht : I (k+1) 1 = zI (tl : Int) := by obtain ⟨s, hc, he, hh, sv⟩ := r; exact h.1
  refine ⟨st I (k+1) 1 (zI 0), ?_, CInv.tx h (fun x a b => st_k a) (st_s _ _ _ _) (fun j hj => absurd hj (Nat.not_lt_zero j)), fun x hx => st_k (by omega)⟩
  unfold f6_clearText
  rw [ht, l_0]
  rfl
theorem tag2 {k : Nat} (hk : k = 0 ∨ k = 81) : tag (k + 69) = 2 ∧ tag (k + 74) = 2 := by
  rcases hk with rfl | rfl <;> decide +kernel
theorem c_slotAt (N : Nat) (I : Mem) (k : Nat) {z : Int} (c : z = 0 ∨ z = 1) : f6_slotAt N I k (zI z) = some (k + 69 + 5 * z.toNat, I) := by
  unfold f6_slotAt
  rcases c with rfl | rfl
  · simp (disch := omega) only [letM_s, clP_s, clM_s, l_m89910, l_m999, l_m9, l_m4, l_m3, l_m2, l_m1, l_0, l_1, l_2, l_3, l_4, l_5, l_6, l_7, l_8, l_9, l_10, l_11, l_12, l_13, l_14, l_18, l_31, l_32, l_33, l_43, l_45, l_48, l_57, l_64, l_66, l_80, l_97, l_100, l_109, l_118, l_119, l_200, l_255, l_462, l_500, l_676, l_999, l_1000, l_1001, l_9999, l_10000, l_99999, l_100000, l_447214, l_1000000000, m_m999, m_m9, m_0, m_1, m_2, m_4, m_9, m_255, m_500, m_999, m_9999, m_10000, m_99999, m_200000000, m_4294967295, m_1442695040888963407, m_6364136223846793005, z_add, z_sub, z_mul, z_neg, y_add, y_sub, y_mul, y_neg, z_toL, y_toI, cmp_lt, cmp_gt, cmp_le, cmp_ge, z_lt, z_le, z_eq, y_lt, y_le, y_eq, if_pos, if_neg, ite_true, ite_false]
    rfl
  · simp (disch := omega) only [letM_s, clP_s, clM_s, l_m89910, l_m999, l_m9, l_m4, l_m3, l_m2, l_m1, l_0, l_1, l_2, l_3, l_4, l_5, l_6, l_7, l_8, l_9, l_10, l_11, l_12, l_13, l_14, l_18, l_31, l_32, l_33, l_43, l_45, l_48, l_57, l_64, l_66, l_80, l_97, l_100, l_109, l_118, l_119, l_200, l_255, l_462, l_500, l_676, l_999, l_1000, l_1001, l_9999, l_10000, l_99999, l_100000, l_447214, l_1000000000, m_m999, m_m9, m_0, m_1, m_2, m_4, m_9, m_255, m_500, m_999, m_9999, m_10000, m_99999, m_200000000, m_4294967295, m_1442695040888963407, m_6364136223846793005, z_add, z_sub, z_mul, z_neg, y_add, y_sub, y_mul, y_neg, z_toL, y_toI, cmp_lt, cmp_gt, cmp_le, cmp_ge, z_lt, z_le, z_eq, y_lt, y_le, y_eq, if_pos, if_neg, ite_true, ite_false]
    rfl
theorem c_save {N : Nat} {I : Mem} {k : Nat} {g : GS} {z : Int} (hN : 8100 ≤ N) (hk : k = 0 ∨ k = 81) (hG : OkG g) (h : CInv I k g) (h1 : -2147483648 ≤ z) (h2 : z < 2147483648) : ∃ I1, f6_save N I k (zI z) = some ((spSave g z).1, I1) ∧ CInv I1 k (spSave g z).2 ∧ ∀ x, (x < k ∨ k + 81 ≤ x) → I1 x = I x := by
  have hb := hG.S.b
  have e1 := c_slot N I h1 h2
  unfold f6_save spSave
  by_cases c : z = 0 ∨ z = 1
  · rw [if_pos c] at e1 ⊢
    have e2 := c_slotAt N I k c
    obtain ⟨b, hbz⟩ : ∃ b, b = z.toNat := ⟨_, rfl⟩
    have hb2 : b < 2 := by omega
    have t2 : tag (k + 69 + 5 * b) = 2 := by
      have := tag2 hk
      rcases (show b = 0 ∨ b = 1 by omega) with rfl | rfl
      · exact this.1
      · exact this.2
    rw [← hbz] at e2 ⊢
    obtain ⟨I2, q1, q2, q3⟩ := e5_become (N := N) (k0 := k + 69 + 5 * b + 1) (k1 := k + 3) (by omega) (by omega) hb.2.2.2.2 h.now
    have hn2 : st I2 (k+69+5*b) 1 (zI 1) (k+3) 5 = zI (nS (sG g) : Int) := by rw [st_k (by omega), q3 _ (by omega)]; exact h.now.n
    refine ⟨st I2 (k+69+5*b) 1 (zI 1), ?_, ?_, fun x hx => by rw [st_k (by omega), q3 x (by omega)]⟩
    · simp (disch := omega) only [e1, e2, t2, q1, letM_s, clP_s, clM_s, l_m89910, l_m999, l_m9, l_m4, l_m3, l_m2, l_m1, l_0, l_1, l_2, l_3, l_4, l_5, l_6, l_7, l_8, l_9, l_10, l_11, l_12, l_13, l_14, l_18, l_31, l_32, l_33, l_43, l_45, l_48, l_57, l_64, l_66, l_80, l_97, l_100, l_109, l_118, l_119, l_200, l_255, l_462, l_500, l_676, l_999, l_1000, l_1001, l_9999, l_10000, l_99999, l_100000, l_447214, l_1000000000, m_m999, m_m9, m_0, m_1, m_2, m_4, m_9, m_255, m_500, m_999, m_9999, m_10000, m_99999, m_200000000, m_4294967295, m_1442695040888963407, m_6364136223846793005, z_add, z_sub, z_mul, z_neg, y_add, y_sub, y_mul, y_neg, z_toL, y_toI, cmp_lt, cmp_gt, cmp_le, cmp_ge, z_lt, z_le, z_eq, y_lt, y_le, y_eq, if_pos, if_neg, ite_true, ite_false, not_true, if_false, hn2]
    · obtain ⟨tl, tx, s, hc, he, hh, sv⟩ := g
      obtain ⟨m1, m2, m3, m4, m5, m6, m7, m8⟩ := h
      have gx : ∀ x, (x < k + 69 + 5 * b ∨ k + 69 + 5 * b + 4 < x) → st I2 (k+69+5*b) 1 (zI 1) x = I x := fun x a => by rw [st_k (by omega), q3 x (by omega)]
      refine ⟨by rw [gx _ (by omega)]; exact m1, fun j hj => by rw [gx _ (by omega)]; exact m2 j hj, m3.fr (fun x a b => gx x (by omega)), by rw [gx _ (by omega)]; exact m4, by rw [gx _ (by omega)]; exact m5, fun i hi => (m6 i hi).fr (fun x a b => gx x (by omega)), fun b' hb' => ?_, m8.fr (gx _ (by omega)) (gx _ (by omega))⟩
      show ((if b' = b then some s else sv b') = none → _) ∧ ∀ z, (if b' = b then some s else sv b') = some z → _
      by_cases cb : b' = b
      · subst cb
        rw [if_pos rfl]
        refine ⟨fun q => (by cases q), fun z' hz' => ?_⟩
        cases hz'
        refine ⟨st_s _ _ _ _, ?_⟩
        have q2' : StR I2 (k + 70 + 5 * b') s := by
          rw [show k + 70 + 5 * b' = k + 69 + 5 * b' + 1 by omega]
          exact q2
        exact q2'.fr (fun x a b => st_k (by omega))
      · rw [if_neg cb, gx (k+69+5*b') (by omega)]
        exact ⟨(m7 b' hb').1, fun z hz => ⟨((m7 b' hb').2 z hz).1, ((m7 b' hb').2 z hz).2.fr (fun x p q => gx x (by omega))⟩⟩
  · rw [if_neg c] at e1 ⊢
    refine ⟨I, ?_, h, fun _ _ => rfl⟩
    simp (disch := omega) only [e1, letM_s, clP_s, clM_s, l_m89910, l_m999, l_m9, l_m4, l_m3, l_m2, l_m1, l_0, l_1, l_2, l_3, l_4, l_5, l_6, l_7, l_8, l_9, l_10, l_11, l_12, l_13, l_14, l_18, l_31, l_32, l_33, l_43, l_45, l_48, l_57, l_64, l_66, l_80, l_97, l_100, l_109, l_118, l_119, l_200, l_255, l_462, l_500, l_676, l_999, l_1000, l_1001, l_9999, l_10000, l_99999, l_100000, l_447214, l_1000000000, m_m999, m_m9, m_0, m_1, m_2, m_4, m_9, m_255, m_500, m_999, m_9999, m_10000, m_99999, m_200000000, m_4294967295, m_1442695040888963407, m_6364136223846793005, z_add, z_sub, z_mul, z_neg, y_add, y_sub, y_mul, y_neg, z_toL, y_toI, cmp_lt, cmp_gt, cmp_le, cmp_ge, z_lt, z_le, z_eq, y_lt, y_le, y_eq, if_pos, if_neg, ite_true, ite_false]
theorem c_rest {N : Nat} {I : Mem} {k : Nat} {g : GS} {z : Int} (hN : 8100 ≤ N) (hk : k = 0 ∨ k = 81) (hG : OkG g) (h : CInv I k g) (h1 : -2147483648 ≤ z) (h2 : z < 2147483648) : ∃ I1, f6_restore N I k (zI z) = some ((spRest g z).1, I1) ∧ CInv I1 k (spRest g z).2 ∧ ∀ x, (x < k ∨ k + 81 ≤ x) → I1 x = I x := by
  have e1 := c_slot N I h1 h2
  unfold f6_restore spRest
  by_cases c : z = 0 ∨ z = 1
  · rw [if_pos c] at e1 ⊢
    have e2 := c_slotAt N I k c
    obtain ⟨b, hbz⟩ : ∃ b, b = z.toNat := ⟨_, rfl⟩
    have hb2 : b < 2 := by omega
    have t2 : tag (k + 69 + 5 * b) = 2 := by
      have := tag2 hk
      rcases (show b = 0 ∨ b = 1 by omega) with rfl | rfl
      · exact this.1
      · exact this.2
    rw [← hbz] at e2 ⊢
    obtain ⟨tl, tx, s, hc, he, hh, sv⟩ := g
    obtain ⟨m1, m2, m3, m4, m5, m6, m7, m8⟩ := id h
    have g8 := hG.2.2.2.2.2.2.2 b
    have m7b := m7 b hb2
    rw [show nSav (tl, tx, s, hc, he, hh, sv) b = sv b from rfl]
    cases hs : sv b with
    | none =>
      have m := m7b.1 hs
      refine ⟨I, ?_, h, fun _ _ => rfl⟩
      simp (disch := omega) only [e1, e2, t2, m, letM_s, clP_s, clM_s, l_m89910, l_m999, l_m9, l_m4, l_m3, l_m2, l_m1, l_0, l_1, l_2, l_3, l_4, l_5, l_6, l_7, l_8, l_9, l_10, l_11, l_12, l_13, l_14, l_18, l_31, l_32, l_33, l_43, l_45, l_48, l_57, l_64, l_66, l_80, l_97, l_100, l_109, l_118, l_119, l_200, l_255, l_462, l_500, l_676, l_999, l_1000, l_1001, l_9999, l_10000, l_99999, l_100000, l_447214, l_1000000000, m_m999, m_m9, m_0, m_1, m_2, m_4, m_9, m_255, m_500, m_999, m_9999, m_10000, m_99999, m_200000000, m_4294967295, m_1442695040888963407, m_6364136223846793005, z_add, z_sub, z_mul, z_neg, y_add, y_sub, y_mul, y_neg, z_toL, y_toI, cmp_lt, cmp_gt, cmp_le, cmp_ge, z_lt, z_le, z_eq, y_lt, y_le, y_eq, if_pos, if_neg, ite_true, ite_false, not_true, if_false]
    | some z' =>
      obtain ⟨m, mS⟩ := m7b.2 z' hs
      have hO := g8 z' hs
      obtain ⟨I2, q1, q2, q3⟩ := e5_become (N := N) (k0 := k + 3) (k1 := k + 69 + 5 * b + 1) (s := z') (by omega) (by omega) hO.b.2.2.2.2 (by
        rw [show k + 69 + 5 * b + 1 = k + 70 + 5 * b by omega]
        exact mS)
      have hn2 : st I2 (k+11) 2 (zI 0) (k+3) 5 = zI (nS z' : Int) := by rw [st_k (by omega)]; exact q2.n
      have ef : f0_forget N I2 (k+11) = some (st I2 (k+11) 2 (zI 0)) := by
        unfold f0_forget
        rw [l_0]
        rfl
      have gx : ∀ x, x ≠ k + 11 → (x < k + 3 ∨ k + 6 < x) → st I2 (k+11) 2 (zI 0) x = I x := fun x a b => by rw [st_k a, q3 x (by omega)]
      refine ⟨st I2 (k+11) 2 (zI 0), ?_, ?_, fun x hx => gx x (by omega) (by omega)⟩
      · simp (disch := omega) only [e1, e2, t2, m, q1, ef, letM_s, clP_s, clM_s, l_m89910, l_m999, l_m9, l_m4, l_m3, l_m2, l_m1, l_0, l_1, l_2, l_3, l_4, l_5, l_6, l_7, l_8, l_9, l_10, l_11, l_12, l_13, l_14, l_18, l_31, l_32, l_33, l_43, l_45, l_48, l_57, l_64, l_66, l_80, l_97, l_100, l_109, l_118, l_119, l_200, l_255, l_462, l_500, l_676, l_999, l_1000, l_1001, l_9999, l_10000, l_99999, l_100000, l_447214, l_1000000000, m_m999, m_m9, m_0, m_1, m_2, m_4, m_9, m_255, m_500, m_999, m_9999, m_10000, m_99999, m_200000000, m_4294967295, m_1442695040888963407, m_6364136223846793005, z_add, z_sub, z_mul, z_neg, y_add, y_sub, y_mul, y_neg, z_toL, y_toI, cmp_lt, cmp_gt, cmp_le, cmp_ge, z_lt, z_le, z_eq, y_lt, y_le, y_eq, if_pos, if_neg, ite_true, ite_false, not_true, if_false, hn2]
      · refine ⟨by rw [gx _ (by omega) (by omega)]; exact m1, fun j hj => by rw [gx _ (by omega) (by omega)]; exact m2 j hj, q2.fr (fun x a b => st_k (by omega)), by rw [st_j (by omega), q3 _ (by omega)]; exact m4, st_s _ _ _ _, fun i hi => absurd hi (Nat.not_lt_zero i), fun b' hb' => ?_, m8.fr (gx _ (by omega) (by omega)) (gx _ (by omega) (by omega))⟩
        rw [gx (k+69+5*b') (by omega) (by omega)]
        exact ⟨(m7 b' hb').1, fun z hz => ⟨((m7 b' hb').2 z hz).1, ((m7 b' hb').2 z hz).2.fr (fun x p q => gx x (by omega) (by omega))⟩⟩
  · rw [if_neg c] at e1 ⊢
    refine ⟨I, ?_, h, fun _ _ => rfl⟩
    simp (disch := omega) only [e1, letM_s, clP_s, clM_s, l_m89910, l_m999, l_m9, l_m4, l_m3, l_m2, l_m1, l_0, l_1, l_2, l_3, l_4, l_5, l_6, l_7, l_8, l_9, l_10, l_11, l_12, l_13, l_14, l_18, l_31, l_32, l_33, l_43, l_45, l_48, l_57, l_64, l_66, l_80, l_97, l_100, l_109, l_118, l_119, l_200, l_255, l_462, l_500, l_676, l_999, l_1000, l_1001, l_9999, l_10000, l_99999, l_100000, l_447214, l_1000000000, m_m999, m_m9, m_0, m_1, m_2, m_4, m_9, m_255, m_500, m_999, m_9999, m_10000, m_99999, m_200000000, m_4294967295, m_1442695040888963407, m_6364136223846793005, z_add, z_sub, z_mul, z_neg, y_add, y_sub, y_mul, y_neg, z_toL, y_toI, cmp_lt, cmp_gt, cmp_le, cmp_ge, z_lt, z_le, z_eq, y_lt, y_le, y_eq, if_pos, if_neg, ite_true, ite_false]
/-- the copy, and a run of it -/
theorem c_copy {N : Nat} {I : Mem} {k : Nat} {g : GS} (hN : 8100 ≤ N) (hG : OkG g) (h : CInv I k g) : ∃ I1, f5_become N I (k+7) (k+3) = some I1 ∧ StR I1 (k+7) (sG g) ∧ CInv I1 k g ∧ ∀ x, (x < k ∨ k + 81 ≤ x) → I1 x = I x := by
  obtain ⟨I1, q1, q2, q3⟩ := e5_become (N := N) (k0 := k + 7) (k1 := k + 3) (by omega) (by omega) hG.S.b.2.2.2.2 h.now
  exact ⟨I1, q1, q2, h.scr (fun x a _ _ => q3 x (by omega)) (h.R.fr (q3 _ (by omega)) (q3 _ (by omega))), fun x hx => q3 x (by omega)⟩
theorem c_tadv {N : Nat} {I : Mem} {k f : Nat} {K : Int} {g : GS} {s : Sg} (hN : 8100 ≤ N) (h : CInv I k g) (hO : OkS s) (hS : StR I (k+7) s) (hf : f ≤ 1000000000) (hK : 0 ≤ K) (hK2 : K ≤ 1000000000) : ∃ I1, f5_advance N I (k+7) (k+79) (zI (f : Int)) (zI K) = some (zI ((runS f K s).1 : Int), I1) ∧ StR I1 (k+7) (runS f K s).2 ∧ CInv I1 k g ∧ ∀ x, (x < k ∨ k + 81 ≤ x) → I1 x = I x := by
  obtain ⟨I1, q1, q2, q3, q4⟩ := e5_advance (N := N) (k := k + 7) (k1 := k + 79) (by omega) (by omega) hf hK hK2 hO hS h.R
  exact ⟨I1, q1, q2, h.scr (fun x a b c => q4 x (by omega) b c) q3, fun x hx => q4 x (by omega) (by omega) (by omega)⟩
theorem c_left {N : Nat} {I : Mem} {k : Nat} {g : GS} (hN : 8100 ≤ N) (hG : OkG g) (h : CInv I k g) : ∃ I1, f6_ticksLeft N I k = some ((spLeft g).1, I1) ∧ CInv I1 k g ∧ ∀ x, (x < k ∨ k + 81 ≤ x) → I1 x = I x := by
  obtain ⟨I2, p1, p2, p3, p4⟩ := c_copy hN hG h
  obtain ⟨I1, q1, q2, q3, q4⟩ := c_tadv (f := 1000000000) (K := 1000000000) hN p3 hG.S p2 (by omega) (by omega) (by omega)
  have hm := mu_le hG.S
  rw [runS_fuel 1000000000 8000 1000000000 (sG g) hG.S (by omega) (by omega)] at q1 q2
  refine ⟨I1, ?_, q3, fun x hx => by rw [q4 x hx, p4 x hx]⟩
  have q1' : f5_advance N I2 (k+7) (k+79) (zI 1000000000) (zI 1000000000) = _ := q1
  unfold f6_ticksLeft
  rw [l_1000000000]
  simp only [p1, clM_s, q1', clP_s, q2.t, q3.now.t]
  rfl
theorem c_after {N : Nat} {I : Mem} {k : Nat} {g : GS} {z w : Int} (hN : 8100 ≤ N) (hG : OkG g) (h : CInv I k g) (h1 : -2147483648 ≤ z) (h2 : z < 2147483648) (h3 : -2147483648 ≤ w) (h4 : w < 2147483648) : ∃ I1, f6_positionAfter N I k (zI z) (zI w) = some ((spAfter g z w).1, I1) ∧ CInv I1 k g ∧ ∀ x, (x < k ∨ k + 81 ≤ x) → I1 x = I x := by
  have e1 := c_axis N I h1 h2
  show ∃ I1, _ = some (if z = 0 ∨ z = 1 then (if 0 ≤ w ∧ w ≤ 99999 then shownX (runS 8000 w (sG g)).2 z else zI (-2)) else zI (-1), I1) ∧ _
  unfold f6_positionAfter
  by_cases c : z = 0 ∨ z = 1
  · rw [if_pos c] at e1 ⊢
    by_cases c2 : 0 ≤ w ∧ w ≤ 99999
    · rw [if_pos c2]
      obtain ⟨I2, p1, p2, p3, p4⟩ := c_copy hN hG h
      obtain ⟨I1, q1, q2, q3, q4⟩ := c_tadv (f := 1000000000) (K := w) hN p3 hG.S p2 (by omega) (by omega) (by omega)
      have hm := mu_le hG.S
      rw [runS_fuel 1000000000 8000 w (sG g) hG.S (by omega) (by omega)] at q1 q2
      refine ⟨I1, ?_, q3, fun x hx => by rw [q4 x hx, p4 x hx]⟩
      have q1' : f5_advance N I2 (k+7) (k+79) (zI 1000000000) (zI w) = _ := q1
      have hx := q2.x
      have hy := q2.y
      unfold f5_shownPosition shownX
      by_cases c1 : z = 0
      · rw [if_pos c1]
        simp (disch := omega) only [e1, p1, q1', hx, letM_s, clP_s, clM_s, l_m89910, l_m999, l_m9, l_m4, l_m3, l_m2, l_m1, l_0, l_1, l_2, l_3, l_4, l_5, l_6, l_7, l_8, l_9, l_10, l_11, l_12, l_13, l_14, l_18, l_31, l_32, l_33, l_43, l_45, l_48, l_57, l_64, l_66, l_80, l_97, l_100, l_109, l_118, l_119, l_200, l_255, l_462, l_500, l_676, l_999, l_1000, l_1001, l_9999, l_10000, l_99999, l_100000, l_447214, l_1000000000, m_m999, m_m9, m_0, m_1, m_2, m_4, m_9, m_255, m_500, m_999, m_9999, m_10000, m_99999, m_200000000, m_4294967295, m_1442695040888963407, m_6364136223846793005, z_add, z_sub, z_mul, z_neg, y_add, y_sub, y_mul, y_neg, z_toL, y_toI, cmp_lt, cmp_gt, cmp_le, cmp_ge, z_lt, z_le, z_eq, y_lt, y_le, y_eq, if_pos, if_neg, ite_true, ite_false]
      · rw [if_neg c1]
        simp (disch := omega) only [e1, p1, q1', hy, letM_s, clP_s, clM_s, l_m89910, l_m999, l_m9, l_m4, l_m3, l_m2, l_m1, l_0, l_1, l_2, l_3, l_4, l_5, l_6, l_7, l_8, l_9, l_10, l_11, l_12, l_13, l_14, l_18, l_31, l_32, l_33, l_43, l_45, l_48, l_57, l_64, l_66, l_80, l_97, l_100, l_109, l_118, l_119, l_200, l_255, l_462, l_500, l_676, l_999, l_1000, l_1001, l_9999, l_10000, l_99999, l_100000, l_447214, l_1000000000, m_m999, m_m9, m_0, m_1, m_2, m_4, m_9, m_255, m_500, m_999, m_9999, m_10000, m_99999, m_200000000, m_4294967295, m_1442695040888963407, m_6364136223846793005, z_add, z_sub, z_mul, z_neg, y_add, y_sub, y_mul, y_neg, z_toL, y_toI, cmp_lt, cmp_gt, cmp_le, cmp_ge, z_lt, z_le, z_eq, y_lt, y_le, y_eq, if_pos, if_neg, ite_true, ite_false]
    · rw [if_neg c2]
      refine ⟨I, ?_, h, fun _ _ => rfl⟩
      by_cases c3 : w < 0
      · simp (disch := omega) only [e1, letM_s, clP_s, clM_s, l_m89910, l_m999, l_m9, l_m4, l_m3, l_m2, l_m1, l_0, l_1, l_2, l_3, l_4, l_5, l_6, l_7, l_8, l_9, l_10, l_11, l_12, l_13, l_14, l_18, l_31, l_32, l_33, l_43, l_45, l_48, l_57, l_64, l_66, l_80, l_97, l_100, l_109, l_118, l_119, l_200, l_255, l_462, l_500, l_676, l_999, l_1000, l_1001, l_9999, l_10000, l_99999, l_100000, l_447214, l_1000000000, m_m999, m_m9, m_0, m_1, m_2, m_4, m_9, m_255, m_500, m_999, m_9999, m_10000, m_99999, m_200000000, m_4294967295, m_1442695040888963407, m_6364136223846793005, z_add, z_sub, z_mul, z_neg, y_add, y_sub, y_mul, y_neg, z_toL, y_toI, cmp_lt, cmp_gt, cmp_le, cmp_ge, z_lt, z_le, z_eq, y_lt, y_le, y_eq, if_pos, if_neg, ite_true, ite_false]
      · simp (disch := omega) only [e1, letM_s, clP_s, clM_s, l_m89910, l_m999, l_m9, l_m4, l_m3, l_m2, l_m1, l_0, l_1, l_2, l_3, l_4, l_5, l_6, l_7, l_8, l_9, l_10, l_11, l_12, l_13, l_14, l_18, l_31, l_32, l_33, l_43, l_45, l_48, l_57, l_64, l_66, l_80, l_97, l_100, l_109, l_118, l_119, l_200, l_255, l_462, l_500, l_676, l_999, l_1000, l_1001, l_9999, l_10000, l_99999, l_100000, l_447214, l_1000000000, m_m999, m_m9, m_0, m_1, m_2, m_4, m_9, m_255, m_500, m_999, m_9999, m_10000, m_99999, m_200000000, m_4294967295, m_1442695040888963407, m_6364136223846793005, z_add, z_sub, z_mul, z_neg, y_add, y_sub, y_mul, y_neg, z_toL, y_toI, cmp_lt, cmp_gt, cmp_le, cmp_ge, z_lt, z_le, z_eq, y_lt, y_le, y_eq, if_pos, if_neg, ite_true, ite_false]
  · rw [if_neg c] at e1 ⊢
    refine ⟨I, ?_, h, fun _ _ => rfl⟩
    simp (disch := omega) only [e1, letM_s, clP_s, clM_s, l_m89910, l_m999, l_m9, l_m4, l_m3, l_m2, l_m1, l_0, l_1, l_2, l_3, l_4, l_5, l_6, l_7, l_8, l_9, l_10, l_11, l_12, l_13, l_14, l_18, l_31, l_32, l_33, l_43, l_45, l_48, l_57, l_64, l_66, l_80, l_97, l_100, l_109, l_118, l_119, l_200, l_255, l_462, l_500, l_676, l_999, l_1000, l_1001, l_9999, l_10000, l_99999, l_100000, l_447214, l_1000000000, m_m999, m_m9, m_0, m_1, m_2, m_4, m_9, m_255, m_500, m_999, m_9999, m_10000, m_99999, m_200000000, m_4294967295, m_1442695040888963407, m_6364136223846793005, z_add, z_sub, z_mul, z_neg, y_add, y_sub, y_mul, y_neg, z_toL, y_toI, cmp_lt, cmp_gt, cmp_le, cmp_ge, z_lt, z_le, z_eq, y_lt, y_le, y_eq, if_pos, if_neg, ite_true, ite_false]
theorem c_moveT {N : Nat} {I : Mem} {k : Nat} {g : GS} {z : Int} (hN : 8100 ≤ N) (hk : k = 0 ∨ k = 81) (hG : OkG g) (h : CInv I k g) (h1 : -2147483648 ≤ z) (h2 : z < 2147483648) : ∃ I1, f6_moveTicks N I k (zI z) = some ((spMoveT g z).1, I1) ∧ CInv I1 k g ∧ ∀ x, (x < k ∨ k + 81 ≤ x) → I1 x = I x := by
  have hb := hG.S.b
  have e1 := c_bit N I (w := 999) h1 h2 (by omega) (by omega)
  show ∃ I1, _ = some (zI (if 1 ≤ z ∧ z ≤ 999 then (mv (sA (sG g)) (cr (sV (sG g))) z.toNat : Int) else -2), I1) ∧ _
  unfold f6_moveTicks
  by_cases c : 1 ≤ z ∧ z ≤ 999
  · rw [if_pos c] at e1 ⊢
    obtain ⟨I1, p1, p2, p3, p4⟩ := c_ramp hN hG h
    have ht := tag1 hk
    have e2 := e2_ticksOfMove N hb.1 hb.2.2.1 hb.2.2.2.1 p2 (len := z.toNat) (by omega)
    rw [show (z.toNat : Int) = z by omega] at e2
    refine ⟨I1, ?_, p3, fun x hx => p4 x (by omega) (by omega)⟩
    simp (disch := omega) only [e1, clP_s, l_0, l_999, z_eq, if_neg, p1, ht, not_true, if_false, e2]
  · rw [if_neg c] at e1 ⊢
    refine ⟨I, ?_, h, fun _ _ => rfl⟩
    simp (disch := omega) only [e1, letM_s, clP_s, clM_s, l_m89910, l_m999, l_m9, l_m4, l_m3, l_m2, l_m1, l_0, l_1, l_2, l_3, l_4, l_5, l_6, l_7, l_8, l_9, l_10, l_11, l_12, l_13, l_14, l_18, l_31, l_32, l_33, l_43, l_45, l_48, l_57, l_64, l_66, l_80, l_97, l_100, l_109, l_118, l_119, l_200, l_255, l_462, l_500, l_676, l_999, l_1000, l_1001, l_9999, l_10000, l_99999, l_100000, l_447214, l_1000000000, m_m999, m_m9, m_0, m_1, m_2, m_4, m_9, m_255, m_500, m_999, m_9999, m_10000, m_99999, m_200000000, m_4294967295, m_1442695040888963407, m_6364136223846793005, z_add, z_sub, z_mul, z_neg, y_add, y_sub, y_mul, y_neg, z_toL, y_toI, cmp_lt, cmp_gt, cmp_le, cmp_ge, z_lt, z_le, z_eq, y_lt, y_le, y_eq, if_pos, if_neg, ite_true, ite_false]
