/-! the reference's answers, going on -/
theorem m_apx {N : Nat} {I : Mem} {k : Nat} {g : GS} {z : Int} (hN : 8100 ≤ N) (hG : OkG g) (h : MInv I k g) (h1 : -2147483648 ≤ z) (h2 : z < 2147483648) : ∃ I1, f7_approximateInterval N I k (zI z) = some ((spApx g z).1, I1) ∧ MInv I1 k g ∧ ∀ x, x < k → I1 x = I x := by
  have hO := hG.S
  have hR := h.now
  obtain ⟨tl, tx, ⟨a, v, x, y, t, n, d, m, i, l⟩, hc, he, hh, sv⟩ := g
  obtain ⟨o1, o2, o3, o4, -⟩ := hO
  have e := in_lit N I 0 999 h1 h2 (by omega) (by omega) (by omega) (by omega)
  unfold f7_approximateInterval spApx
  by_cases c : 0 ≤ z ∧ z ≤ 999
  · obtain ⟨q, rfl⟩ := Int.eq_ofNat_of_zero_le c.1
    obtain ⟨I1, q1, q2, q3, q4⟩ := e7_lay (N := N) (w := 2) (by omega) o1 o2 (by omega) h.C
    refine ⟨I1, ?_, h.cs q3 q2, fm_cs q3⟩
    have r0 : I (k+2) 0 = zI (a : Int) := hR.1
    have q1' : f7_layRoots N I k (zI (a : Int)) (zI 2) = some I1 := q1
    have ea := e7_apx N I1 (k := k) (nn := q) (zI (q : Int)) rfl (by omega) q 1 N (zI (676 * (T a 1 : Int)) / zI 1000) (zI 0) (by omega) (by omega) (by omega)
    simp (disch := omega) only [e, r0, q1', q4 1 (by omega), letM_s, clP_s, clM_s, l_m89910, l_m999, l_m9, l_m4, l_m3, l_m2, l_m1, l_0, l_1, l_2, l_3, l_4, l_5, l_6, l_7, l_8, l_9, l_10, l_11, l_12, l_13, l_14, l_18, l_31, l_32, l_33, l_43, l_45, l_48, l_57, l_64, l_66, l_80, l_97, l_100, l_109, l_118, l_119, l_200, l_255, l_462, l_500, l_676, l_999, l_1000, l_1001, l_9999, l_10000, l_99999, l_100000, l_447214, l_1000000000, m_m999, m_m9, m_0, m_1, m_2, m_4, m_9, m_255, m_500, m_999, m_9999, m_10000, m_99999, m_200000000, m_4294967295, m_1442695040888963407, m_6364136223846793005, z_add, z_sub, z_mul, z_neg, y_add, y_sub, y_mul, y_neg, z_toL, y_toI, cmp_lt, cmp_gt, cmp_le, cmp_ge, z_lt, z_le, z_eq, y_lt, y_le, y_eq, if_pos, if_neg, ite_true, ite_false]
    exact ea
  · refine ⟨I, ?_, h, fun _ _ => rfl⟩
    simp (disch := omega) only [e, letM_s, clP_s, clM_s, l_m89910, l_m999, l_m9, l_m4, l_m3, l_m2, l_m1, l_0, l_1, l_2, l_3, l_4, l_5, l_6, l_7, l_8, l_9, l_10, l_11, l_12, l_13, l_14, l_18, l_31, l_32, l_33, l_43, l_45, l_48, l_57, l_64, l_66, l_80, l_97, l_100, l_109, l_118, l_119, l_200, l_255, l_462, l_500, l_676, l_999, l_1000, l_1001, l_9999, l_10000, l_99999, l_100000, l_447214, l_1000000000, m_m999, m_m9, m_0, m_1, m_2, m_4, m_9, m_255, m_500, m_999, m_9999, m_10000, m_99999, m_200000000, m_4294967295, m_1442695040888963407, m_6364136223846793005, z_add, z_sub, z_mul, z_neg, y_add, y_sub, y_mul, y_neg, z_toL, y_toI, cmp_lt, cmp_gt, cmp_le, cmp_ge, z_lt, z_le, z_eq, y_lt, y_le, y_eq, if_pos, if_neg, ite_true, ite_false, if_neg c]
theorem m_item {N : Nat} {I : Mem} {k : Nat} {g : GS} {z : Int} (hG : OkG g) (h : MInv I k g) (h1 : -2147483648 ≤ z) (h2 : z < 2147483648) : f7_itemAt N I k (zI z) = some ((spItem g z).1, I) := by
  have hO := hG.S
  have hR := h.now
  obtain ⟨tl, tx, ⟨a, v, x, y, t, n, d, m, i, l⟩, hc, he, hh, sv⟩ := g
  obtain ⟨o1, o2, o3, o4, o5, o6, o7, o8⟩ := hO
  obtain ⟨r0, r1, r2, r3, r4, r5, r6, r7, r8, r9⟩ := hR
  have e := in_lit N I 0 ((n : Int) - 1) h1 h2 (by omega) (by omega) (by omega) (by omega)
  unfold f7_itemAt spItem
  by_cases c : 0 ≤ z ∧ z < n
  · obtain ⟨q, rfl⟩ := Int.eq_ofNat_of_zero_le c.1
    have hq := o6 q (by omega)
    have rq := r9 q (by omega)
    obtain ⟨-, -, -, -, w1, w2, -⟩ := id hq
    have n1 : (zI (9 + 3 * (q : Int) + 2)).toNatClampNeg = 9 + 3 * q + 2 := by rw [z_nat (by omega) (by omega)]; omega
    have rq2 : I (k+2) (9 + 3 * q + 2) = zI (d q).2.2 := rq.2.2
    have e1 := e7_lengthOf N (I := I) (k := k + 2) (j := q) (d := d q) (by omega) hq rq.1 rq.2.1
    have hil : i < 100000 := by
      rcases Nat.eq_zero_or_pos m with w | w
      · have := o7 w; omega
      · obtain ⟨b1, b2, b3, b4, b5⟩ := o8 w
        have := lenI_pos (o6 0 b1) b2
        omega
    have e2 := e7_isUW N (I := I) (k := k + 2) (m := m) (i := i) r7 hil
    have hc' : (0 ≤ (q : Int) ∧ (q : Int) < nS (sG (tl, tx, (a, v, x, y, t, n, d, m, i, l), hc, he, hh, sv))) := c
    rw [if_pos hc']
    show _ = some (zI (if 0 < (d (q : Int).toNat).2.2 then (d (q : Int).toNat).2.2 + 10000 else if (q : Int) = 0 ∧ m ≠ 0 then (l : Int) else (lenI (d (q : Int).toNat) : Int)), I)
    rw [Int.toNat_natCast]
    by_cases c1 : 0 < (d q).2.2
    · simp (disch := omega) only [r5, e, rq2, n1, letM_s, clP_s, clM_s, l_m89910, l_m999, l_m9, l_m4, l_m3, l_m2, l_m1, l_0, l_1, l_2, l_3, l_4, l_5, l_6, l_7, l_8, l_9, l_10, l_11, l_12, l_13, l_14, l_18, l_31, l_32, l_33, l_43, l_45, l_48, l_57, l_64, l_66, l_80, l_97, l_100, l_109, l_118, l_119, l_200, l_255, l_462, l_500, l_676, l_999, l_1000, l_1001, l_9999, l_10000, l_99999, l_100000, l_447214, l_1000000000, m_m999, m_m9, m_0, m_1, m_2, m_4, m_9, m_255, m_500, m_999, m_9999, m_10000, m_99999, m_200000000, m_4294967295, m_1442695040888963407, m_6364136223846793005, z_add, z_sub, z_mul, z_neg, y_add, y_sub, y_mul, y_neg, z_toL, y_toI, cmp_lt, cmp_gt, cmp_le, cmp_ge, z_lt, z_le, z_eq, y_lt, y_le, y_eq, if_pos, if_neg, ite_true, ite_false]
    · by_cases c2 : q = 0
      · subst c2
        have e0 : f7_in N I (yI 0) (yI 0) (yI ((n : Int) - 1)) = some (zI (if (0 : Int) ≤ 0 ∧ (0 : Int) ≤ (n : Int) - 1 then 1 else 0), I) := e
        have n1' : (zI (9 + 3 * 0 + 2)).toNatClampNeg = 9 + 3 * 0 + 2 := n1
        have e1' : f7_lengthOf N I (k+2) (zI 0) = some (zI (lenI (d 0) : Int), I) := e1
        show f7_itemAt N I k (zI 0) = some (zI (if 0 < (d 0).2.2 then (d 0).2.2 + 10000 else if (0 : Int) = 0 ∧ m ≠ 0 then (l : Int) else (lenI (d 0) : Int)), I)
        unfold f7_itemAt
        by_cases c3 : m = 0
        · rw [if_pos c3] at e2
          rw [if_neg c1, if_neg (fun w => w.2 c3)]
          simp (disch := omega) only [r5, e0, rq2, n1', letM_s, clP_s, clM_s, l_m89910, l_m999, l_m9, l_m4, l_m3, l_m2, l_m1, l_0, l_1, l_2, l_3, l_4, l_5, l_6, l_7, l_8, l_9, l_10, l_11, l_12, l_13, l_14, l_18, l_31, l_32, l_33, l_43, l_45, l_48, l_57, l_64, l_66, l_80, l_97, l_100, l_109, l_118, l_119, l_200, l_255, l_462, l_500, l_676, l_999, l_1000, l_1001, l_9999, l_10000, l_99999, l_100000, l_447214, l_1000000000, m_m999, m_m9, m_0, m_1, m_2, m_4, m_9, m_255, m_500, m_999, m_9999, m_10000, m_99999, m_200000000, m_4294967295, m_1442695040888963407, m_6364136223846793005, z_add, z_sub, z_mul, z_neg, y_add, y_sub, y_mul, y_neg, z_toL, y_toI, cmp_lt, cmp_gt, cmp_le, cmp_ge, z_lt, z_le, z_eq, y_lt, y_le, y_eq, if_pos, if_neg, ite_true, ite_false, e2, e1']
        · rw [if_neg c3] at e2
          rw [if_neg c1, if_pos ⟨rfl, c3⟩]
          simp (disch := omega) only [r5, r8, e0, rq2, n1', letM_s, clP_s, clM_s, l_m89910, l_m999, l_m9, l_m4, l_m3, l_m2, l_m1, l_0, l_1, l_2, l_3, l_4, l_5, l_6, l_7, l_8, l_9, l_10, l_11, l_12, l_13, l_14, l_18, l_31, l_32, l_33, l_43, l_45, l_48, l_57, l_64, l_66, l_80, l_97, l_100, l_109, l_118, l_119, l_200, l_255, l_462, l_500, l_676, l_999, l_1000, l_1001, l_9999, l_10000, l_99999, l_100000, l_447214, l_1000000000, m_m999, m_m9, m_0, m_1, m_2, m_4, m_9, m_255, m_500, m_999, m_9999, m_10000, m_99999, m_200000000, m_4294967295, m_1442695040888963407, m_6364136223846793005, z_add, z_sub, z_mul, z_neg, y_add, y_sub, y_mul, y_neg, z_toL, y_toI, cmp_lt, cmp_gt, cmp_le, cmp_ge, z_lt, z_le, z_eq, y_lt, y_le, y_eq, if_pos, if_neg, ite_true, ite_false, e2]
      · simp (disch := omega) only [r5, e, rq2, n1, letM_s, clP_s, clM_s, l_m89910, l_m999, l_m9, l_m4, l_m3, l_m2, l_m1, l_0, l_1, l_2, l_3, l_4, l_5, l_6, l_7, l_8, l_9, l_10, l_11, l_12, l_13, l_14, l_18, l_31, l_32, l_33, l_43, l_45, l_48, l_57, l_64, l_66, l_80, l_97, l_100, l_109, l_118, l_119, l_200, l_255, l_462, l_500, l_676, l_999, l_1000, l_1001, l_9999, l_10000, l_99999, l_100000, l_447214, l_1000000000, m_m999, m_m9, m_0, m_1, m_2, m_4, m_9, m_255, m_500, m_999, m_9999, m_10000, m_99999, m_200000000, m_4294967295, m_1442695040888963407, m_6364136223846793005, z_add, z_sub, z_mul, z_neg, y_add, y_sub, y_mul, y_neg, z_toL, y_toI, cmp_lt, cmp_gt, cmp_le, cmp_ge, z_lt, z_le, z_eq, y_lt, y_le, y_eq, if_pos, if_neg, ite_true, ite_false, e1]
  · have hc' : ¬ (0 ≤ z ∧ z < nS (sG (tl, tx, (a, v, x, y, t, n, d, m, i, l), hc, he, hh, sv))) := c
    rw [if_neg hc']
    simp (disch := omega) only [r5, e, letM_s, clP_s, clM_s, l_m89910, l_m999, l_m9, l_m4, l_m3, l_m2, l_m1, l_0, l_1, l_2, l_3, l_4, l_5, l_6, l_7, l_8, l_9, l_10, l_11, l_12, l_13, l_14, l_18, l_31, l_32, l_33, l_43, l_45, l_48, l_57, l_64, l_66, l_80, l_97, l_100, l_109, l_118, l_119, l_200, l_255, l_462, l_500, l_676, l_999, l_1000, l_1001, l_9999, l_10000, l_99999, l_100000, l_447214, l_1000000000, m_m999, m_m9, m_0, m_1, m_2, m_4, m_9, m_255, m_500, m_999, m_9999, m_10000, m_99999, m_200000000, m_4294967295, m_1442695040888963407, m_6364136223846793005, z_add, z_sub, z_mul, z_neg, y_add, y_sub, y_mul, y_neg, z_toL, y_toI, cmp_lt, cmp_gt, cmp_le, cmp_ge, z_lt, z_le, z_eq, y_lt, y_le, y_eq, if_pos, if_neg, ite_true, ite_false]
theorem fm_note {I I1 : Mem} {k : Nat} (h : ∀ x, x ≠ k → x ≠ k+5 → I1 x = I x) : ∀ x, x < k → I1 x = I x := fun x hx => h x (by omega) (by omega)
theorem m_setA {N : Nat} {I : Mem} {k : Nat} {g : GS} {z : Int} (hN : 8100 ≤ N) (hG : OkG g) (h : MInv I k g) (h1 : -2147483648 ≤ z) (h2 : z < 2147483648) : ∃ I1, f7_setAcceleration N I k (zI z) = some ((spSetA g z).1, I1) ∧ MInv I1 k (spSetA g z).2 ∧ ∀ x, x < k → I1 x = I x := by
  have hO := hG.S
  obtain ⟨I1, q1, q2, q3⟩ := e7_note (N := N) (by omega) hG h
  have hR := h.now
  have hRn := q2.now
  have e := in_lit N I 1 999 h1 h2 (by omega) (by omega) (by omega) (by omega)
  unfold f7_setAcceleration spSetA
  by_cases c : 1 ≤ z ∧ z ≤ 999
  · rw [if_pos c]
    rw [sG_rem] at hRn
    have hm : f7_isUnderWay N I (k+2) = some (zI (if sM (sG g) = 0 then 0 else 1), I) := by
      obtain ⟨tl, tx, ⟨a, v, x, y, t, n, d, m, i, l⟩, hc, he, hh, sv⟩ := g
      obtain ⟨o1, o2, o3, o4, o5, o6, o7, o8⟩ := hO
      obtain ⟨r0, r1, r2, r3, r4, r5, r6, r7, r8, r9⟩ := hR
      have hil : i < 100000 := by
        rcases Nat.eq_zero_or_pos m with w | w
        · have := o7 w; omega
        · obtain ⟨b1, b2, b3, b4, b5⟩ := o8 w
          have := lenI_pos (o6 0 b1) b2
          omega
      exact e7_isUW N (I := I) (k := k + 2) (m := m) (i := i) r7 hil
    by_cases c1 : sM (sG g) = 0
    · rw [if_neg (fun w => w c1)]
      rw [if_pos c1] at hm
      obtain ⟨w, rfl⟩ := Int.eq_ofNat_of_zero_le (show 0 ≤ z by omega)
      have r0 : I1 (k+2) 0 = zI (sA (sG g) : Int) := by
        obtain ⟨tl, tx, ⟨a, v, x, y, t, n, d, m, i, l⟩, hc, he, hh, sv⟩ := g
        exact hRn.1
      refine ⟨st I1 (k+2) 0 (zI (w : Int)), ?_, ?_, fun x hx => by rw [st_k (by omega), q3 x (by omega) (by omega)]⟩
      · simp (disch := omega) only [e, hm, q1, r0, letM_s, clP_s, clM_s, l_m89910, l_m999, l_m9, l_m4, l_m3, l_m2, l_m1, l_0, l_1, l_2, l_3, l_4, l_5, l_6, l_7, l_8, l_9, l_10, l_11, l_12, l_13, l_14, l_18, l_31, l_32, l_33, l_43, l_45, l_48, l_57, l_64, l_66, l_80, l_97, l_100, l_109, l_118, l_119, l_200, l_255, l_462, l_500, l_676, l_999, l_1000, l_1001, l_9999, l_10000, l_99999, l_100000, l_447214, l_1000000000, m_m999, m_m9, m_0, m_1, m_2, m_4, m_9, m_255, m_500, m_999, m_9999, m_10000, m_99999, m_200000000, m_4294967295, m_1442695040888963407, m_6364136223846793005, z_add, z_sub, z_mul, z_neg, y_add, y_sub, y_mul, y_neg, z_toL, y_toI, cmp_lt, cmp_gt, cmp_le, cmp_ge, z_lt, z_le, z_eq, y_lt, y_le, y_eq, if_pos, if_neg, ite_true, ite_false]
      · refine q2.row (Cr.st (by omega)) ?_ (q2.C.row (st_k (by omega)) (st_k (by omega)))
        obtain ⟨tl, tx, ⟨a, v, x, y, t, n, d, m, i, l⟩, hc, he, hh, sv⟩ := g
        obtain ⟨r0, r1, r2, r3, r4, r5, r6, r7, r8, r9⟩ := hRn
        refine ⟨by rw [st_s]; rfl, by rw [st_j (by omega)]; exact r1, by rw [st_j (by omega)]; exact r2, by rw [st_j (by omega)]; exact r3, by rw [st_j (by omega)]; exact r4, by rw [st_j (by omega)]; exact r5, by rw [st_j (by omega)]; exact r6, by rw [st_j (by omega)]; exact r7, by rw [st_j (by omega)]; exact r8, fun j hj => ?_⟩
        rw [st_j (by omega), st_j (by omega), st_j (by omega)]
        exact r9 j hj
    · rw [if_pos c1]
      rw [if_neg c1] at hm
      refine ⟨I, ?_, h, fun _ _ => rfl⟩
      simp (disch := omega) only [e, hm, letM_s, clP_s, clM_s, l_m89910, l_m999, l_m9, l_m4, l_m3, l_m2, l_m1, l_0, l_1, l_2, l_3, l_4, l_5, l_6, l_7, l_8, l_9, l_10, l_11, l_12, l_13, l_14, l_18, l_31, l_32, l_33, l_43, l_45, l_48, l_57, l_64, l_66, l_80, l_97, l_100, l_109, l_118, l_119, l_200, l_255, l_462, l_500, l_676, l_999, l_1000, l_1001, l_9999, l_10000, l_99999, l_100000, l_447214, l_1000000000, m_m999, m_m9, m_0, m_1, m_2, m_4, m_9, m_255, m_500, m_999, m_9999, m_10000, m_99999, m_200000000, m_4294967295, m_1442695040888963407, m_6364136223846793005, z_add, z_sub, z_mul, z_neg, y_add, y_sub, y_mul, y_neg, z_toL, y_toI, cmp_lt, cmp_gt, cmp_le, cmp_ge, z_lt, z_le, z_eq, y_lt, y_le, y_eq, if_pos, if_neg, ite_true, ite_false]
  · rw [if_neg c]
    refine ⟨I, ?_, h, fun _ _ => rfl⟩
    simp (disch := omega) only [e, letM_s, clP_s, clM_s, l_m89910, l_m999, l_m9, l_m4, l_m3, l_m2, l_m1, l_0, l_1, l_2, l_3, l_4, l_5, l_6, l_7, l_8, l_9, l_10, l_11, l_12, l_13, l_14, l_18, l_31, l_32, l_33, l_43, l_45, l_48, l_57, l_64, l_66, l_80, l_97, l_100, l_109, l_118, l_119, l_200, l_255, l_462, l_500, l_676, l_999, l_1000, l_1001, l_9999, l_10000, l_99999, l_100000, l_447214, l_1000000000, m_m999, m_m9, m_0, m_1, m_2, m_4, m_9, m_255, m_500, m_999, m_9999, m_10000, m_99999, m_200000000, m_4294967295, m_1442695040888963407, m_6364136223846793005, z_add, z_sub, z_mul, z_neg, y_add, y_sub, y_mul, y_neg, z_toL, y_toI, cmp_lt, cmp_gt, cmp_le, cmp_ge, z_lt, z_le, z_eq, y_lt, y_le, y_eq, if_pos, if_neg, ite_true, ite_false]
theorem m_setV {N : Nat} {I : Mem} {k : Nat} {g : GS} {z : Int} (hN : 8100 ≤ N) (hG : OkG g) (h : MInv I k g) (h1 : -2147483648 ≤ z) (h2 : z < 2147483648) : ∃ I1, f7_setSpeedLimit N I k (zI z) = some ((spSetV g z).1, I1) ∧ MInv I1 k (spSetV g z).2 ∧ ∀ x, x < k → I1 x = I x := by
  obtain ⟨I1, q1, q2, q3⟩ := e7_note (N := N) (by omega) hG h
  have hRn := q2.now
  have e := in_lit N I 1 999 h1 h2 (by omega) (by omega) (by omega) (by omega)
  unfold f7_setSpeedLimit spSetV
  by_cases c : 1 ≤ z ∧ z ≤ 999
  · rw [if_pos c]
    rw [sG_rem] at hRn
    obtain ⟨w, rfl⟩ := Int.eq_ofNat_of_zero_le (show 0 ≤ z by omega)
    have r1 : I1 (k+2) 1 = zI (sV (sG g) : Int) := by
      obtain ⟨tl, tx, ⟨a, v, x, y, t, n, d, m, i, l⟩, hc, he, hh, sv⟩ := g
      exact hRn.2.1
    refine ⟨st I1 (k+2) 1 (zI (w : Int)), ?_, ?_, fun x hx => by rw [st_k (by omega), q3 x (by omega) (by omega)]⟩
    · simp (disch := omega) only [e, q1, r1, letM_s, clP_s, clM_s, l_m89910, l_m999, l_m9, l_m4, l_m3, l_m2, l_m1, l_0, l_1, l_2, l_3, l_4, l_5, l_6, l_7, l_8, l_9, l_10, l_11, l_12, l_13, l_14, l_18, l_31, l_32, l_33, l_43, l_45, l_48, l_57, l_64, l_66, l_80, l_97, l_100, l_109, l_118, l_119, l_200, l_255, l_462, l_500, l_676, l_999, l_1000, l_1001, l_9999, l_10000, l_99999, l_100000, l_447214, l_1000000000, m_m999, m_m9, m_0, m_1, m_2, m_4, m_9, m_255, m_500, m_999, m_9999, m_10000, m_99999, m_200000000, m_4294967295, m_1442695040888963407, m_6364136223846793005, z_add, z_sub, z_mul, z_neg, y_add, y_sub, y_mul, y_neg, z_toL, y_toI, cmp_lt, cmp_gt, cmp_le, cmp_ge, z_lt, z_le, z_eq, y_lt, y_le, y_eq, if_pos, if_neg, ite_true, ite_false]
    · refine q2.row (Cr.st (by omega)) ?_ (q2.C.row (st_k (by omega)) (st_k (by omega)))
      obtain ⟨tl, tx, ⟨a, v, x, y, t, n, d, m, i, l⟩, hc, he, hh, sv⟩ := g
      obtain ⟨r0, r1, r2, r3, r4, r5, r6, r7, r8, r9⟩ := hRn
      refine ⟨by rw [st_j (by omega)]; exact r0, by rw [st_s]; rfl, by rw [st_j (by omega)]; exact r2, by rw [st_j (by omega)]; exact r3, by rw [st_j (by omega)]; exact r4, by rw [st_j (by omega)]; exact r5, by rw [st_j (by omega)]; exact r6, by rw [st_j (by omega)]; exact r7, by rw [st_j (by omega)]; exact r8, fun j hj => ?_⟩
      rw [st_j (by omega), st_j (by omega), st_j (by omega)]
      exact r9 j hj
  · rw [if_neg c]
    refine ⟨I, ?_, h, fun _ _ => rfl⟩
    simp (disch := omega) only [e, letM_s, clP_s, clM_s, l_m89910, l_m999, l_m9, l_m4, l_m3, l_m2, l_m1, l_0, l_1, l_2, l_3, l_4, l_5, l_6, l_7, l_8, l_9, l_10, l_11, l_12, l_13, l_14, l_18, l_31, l_32, l_33, l_43, l_45, l_48, l_57, l_64, l_66, l_80, l_97, l_100, l_109, l_118, l_119, l_200, l_255, l_462, l_500, l_676, l_999, l_1000, l_1001, l_9999, l_10000, l_99999, l_100000, l_447214, l_1000000000, m_m999, m_m9, m_0, m_1, m_2, m_4, m_9, m_255, m_500, m_999, m_9999, m_10000, m_99999, m_200000000, m_4294967295, m_1442695040888963407, m_6364136223846793005, z_add, z_sub, z_mul, z_neg, y_add, y_sub, y_mul, y_neg, z_toL, y_toI, cmp_lt, cmp_gt, cmp_le, cmp_ge, z_lt, z_le, z_eq, y_lt, y_le, y_eq, if_pos, if_neg, ite_true, ite_false]
theorem m_add {N : Nat} {I : Mem} {k : Nat} {g : GS} {q : Itm} (hN : 8100 ≤ N) (hG : OkG g) (h : MInv I k g) : ∃ I1, f7_addItem N I k (zI q.1) (zI q.2.1) (zI q.2.2) = some ((spAdd g q).1, I1) ∧ MInv I1 k (spAdd g q).2 ∧ ∀ x, x < k → I1 x = I x := by
  obtain ⟨I1, q1, q2, q3⟩ := e7_note (N := N) (by omega) hG h
  have hR := h.now
  have hRn := q2.now
  have hO := hG.S
  have hn8 : nS (sG g) ≤ 8 := by
    obtain ⟨tl, tx, ⟨a, v, x, y, t, n, d, m, i, l⟩, hc, he, hh, sv⟩ := g
    exact hO.2.2.2.2.1
  have r5 : I (k+2) 5 = zI (nS (sG g) : Int) := by
    obtain ⟨tl, tx, ⟨a, v, x, y, t, n, d, m, i, l⟩, hc, he, hh, sv⟩ := g
    exact hR.2.2.2.2.2.1
  rw [sG_rem] at hRn
  have r5' : I1 (k+2) 5 = zI (nS (sG g) : Int) := by
    obtain ⟨tl, tx, ⟨a, v, x, y, t, n, d, m, i, l⟩, hc, he, hh, sv⟩ := g
    exact hRn.2.2.2.2.2.1
  unfold f7_addItem spAdd
  by_cases c : nS (sG g) = 8
  · rw [if_pos c]
    refine ⟨I, ?_, h, fun _ _ => rfl⟩
    rw [r5]
    simp (disch := omega) only [letM_s, clP_s, clM_s, l_m89910, l_m999, l_m9, l_m4, l_m3, l_m2, l_m1, l_0, l_1, l_2, l_3, l_4, l_5, l_6, l_7, l_8, l_9, l_10, l_11, l_12, l_13, l_14, l_18, l_31, l_32, l_33, l_43, l_45, l_48, l_57, l_64, l_66, l_80, l_97, l_100, l_109, l_118, l_119, l_200, l_255, l_462, l_500, l_676, l_999, l_1000, l_1001, l_9999, l_10000, l_99999, l_100000, l_447214, l_1000000000, m_m999, m_m9, m_0, m_1, m_2, m_4, m_9, m_255, m_500, m_999, m_9999, m_10000, m_99999, m_200000000, m_4294967295, m_1442695040888963407, m_6364136223846793005, z_add, z_sub, z_mul, z_neg, y_add, y_sub, y_mul, y_neg, z_toL, y_toI, cmp_lt, cmp_gt, cmp_le, cmp_ge, z_lt, z_le, z_eq, y_lt, y_le, y_eq, if_pos, if_neg, ite_true, ite_false]
  · rw [if_neg c]
    generalize hn : nS (sG g) = n at *
    have n0 : (zI (9 + 3 * (n : Int))).toNatClampNeg = 9 + 3 * n := by rw [z_nat (by omega) (by omega)]; omega
    have n1 : (zI (9 + 3 * (n : Int) + 1)).toNatClampNeg = 9 + 3 * n + 1 := by rw [z_nat (by omega) (by omega)]; omega
    have n2 : (zI (9 + 3 * (n : Int) + 2)).toNatClampNeg = 9 + 3 * n + 2 := by rw [z_nat (by omega) (by omega)]; omega
    obtain ⟨I2, hI2⟩ : ∃ I2, I2 = st (st (st I1 (k+2) (9 + 3 * n) (zI q.1)) (k+2) (9 + 3 * n + 1) (zI q.2.1)) (k+2) (9 + 3 * n + 2) (zI q.2.2) := ⟨_, rfl⟩
    have r52 : I2 (k+2) 5 = zI (n : Int) := by rw [hI2, st_j (by omega), st_j (by omega), st_j (by omega)]; exact r5'
    have fx : ∀ x, x ≠ k + 2 → st I2 (k+2) 5 (zI ((n : Int) + 1)) x = I1 x := fun x hx => by rw [st_k hx, hI2, st_k hx, st_k hx, st_k hx]
    refine ⟨st I2 (k+2) 5 (zI ((n : Int) + 1)), ?_, ?_, fun x hx => by rw [fx x (by omega), q3 x (by omega) (by omega)]⟩
    · simp (disch := omega) only [r5, r5', q1, n0, n1, n2, letM_s, clP_s, clM_s, l_m89910, l_m999, l_m9, l_m4, l_m3, l_m2, l_m1, l_0, l_1, l_2, l_3, l_4, l_5, l_6, l_7, l_8, l_9, l_10, l_11, l_12, l_13, l_14, l_18, l_31, l_32, l_33, l_43, l_45, l_48, l_57, l_64, l_66, l_80, l_97, l_100, l_109, l_118, l_119, l_200, l_255, l_462, l_500, l_676, l_999, l_1000, l_1001, l_9999, l_10000, l_99999, l_100000, l_447214, l_1000000000, m_m999, m_m9, m_0, m_1, m_2, m_4, m_9, m_255, m_500, m_999, m_9999, m_10000, m_99999, m_200000000, m_4294967295, m_1442695040888963407, m_6364136223846793005, z_add, z_sub, z_mul, z_neg, y_add, y_sub, y_mul, y_neg, z_toL, y_toI, cmp_lt, cmp_gt, cmp_le, cmp_ge, z_lt, z_le, z_eq, y_lt, y_le, y_eq, if_pos, if_neg, ite_true, ite_false, ← hI2, r52, st_s]
      rfl
    · refine q2.row ⟨fun x _ _ a => fx x a, fun j _ => by rw [fx k (by omega)]⟩ ?_ (q2.C.row (fx k (by omega)) (fx (k+8) (by omega)))
      obtain ⟨tl, tx, ⟨a, v, x, y, t, n', d, m, i, l⟩, hc, he, hh, sv⟩ := g
      have hn : n' = n := hn
      subst hn
      obtain ⟨r0, r1, r2, r3, r4, r5, r6, r7, r8, r9⟩ := hRn
      have gj : ∀ j, j ≠ 5 → j < 9 + 3 * n' → st I2 (k+2) 5 (zI ((n' : Int) + 1)) (k+2) j = I1 (k+2) j := fun j a b => by rw [st_j a, hI2, st_j (by omega), st_j (by omega), st_j (by omega)]
      refine ⟨by rw [gj 0 (by omega) (by omega)]; exact r0, by rw [gj 1 (by omega) (by omega)]; exact r1, by rw [gj 2 (by omega) (by omega)]; exact r2, by rw [gj 3 (by omega) (by omega)]; exact r3, by rw [gj 4 (by omega) (by omega)]; exact r4, by rw [st_s]; rfl, by rw [gj 6 (by omega) (by omega)]; exact r6, by rw [gj 7 (by omega) (by omega)]; exact r7, by rw [gj 8 (by omega) (by omega)]; exact r8, fun j hj => ?_⟩
      show _ = zI (if j = n' then q else d j).1 ∧ _ = zI (if j = n' then q else d j).2.1 ∧ _ = zI (if j = n' then q else d j).2.2
      by_cases cj : j = n'
      · subst cj
        rw [if_pos rfl]
        refine ⟨?_, ?_, ?_⟩
        · rw [st_j (by omega), hI2, st_j (by omega), st_j (by omega), st_s]
        · rw [st_j (by omega), hI2, st_j (by omega), st_s]
        · rw [st_j (by omega), hI2, st_s]
      · rw [if_neg cj, gj _ (by omega) (by omega), gj _ (by omega) (by omega), gj _ (by omega) (by omega)]
        exact r9 j (by omega)
theorem m_move {N : Nat} {I : Mem} {k : Nat} {g : GS} {z w : Int} (hN : 8100 ≤ N) (hG : OkG g) (h : MInv I k g) (h1 : -2147483648 ≤ z) (h2 : z < 2147483648) (h3 : -2147483648 ≤ w) (h4 : w < 2147483648) : ∃ I1, f7_addMove N I k (zI z) (zI w) = some ((spMove g z w).1, I1) ∧ MInv I1 k (spMove g z w).2 ∧ ∀ x, x < k → I1 x = I x := by
  have e := in_lit N I (-999) 999 h1 h2 (by omega) (by omega) (by omega) (by omega)
  have e' := in_lit N I (-999) 999 h3 h4 (by omega) (by omega) (by omega) (by omega)
  obtain ⟨I1, q1, q2, q3⟩ := m_add (q := (z, w, 0)) hN hG h
  have q1' : f7_addItem N I k (zI z) (zI w) (zI 0) = some ((spAdd g (z, w, 0)).1, I1) := q1
  unfold f7_addMove spMove
  by_cases c : -999 ≤ z ∧ z ≤ 999 ∧ -999 ≤ w ∧ w ≤ 999 ∧ ¬ (z = 0 ∧ w = 0)
  · rw [if_pos c]
    refine ⟨I1, ?_, q2, q3⟩
    by_cases c0 : z = 0
    · simp (disch := omega) only [e, e', letM_s, clP_s, clM_s, l_m89910, l_m999, l_m9, l_m4, l_m3, l_m2, l_m1, l_0, l_1, l_2, l_3, l_4, l_5, l_6, l_7, l_8, l_9, l_10, l_11, l_12, l_13, l_14, l_18, l_31, l_32, l_33, l_43, l_45, l_48, l_57, l_64, l_66, l_80, l_97, l_100, l_109, l_118, l_119, l_200, l_255, l_462, l_500, l_676, l_999, l_1000, l_1001, l_9999, l_10000, l_99999, l_100000, l_447214, l_1000000000, m_m999, m_m9, m_0, m_1, m_2, m_4, m_9, m_255, m_500, m_999, m_9999, m_10000, m_99999, m_200000000, m_4294967295, m_1442695040888963407, m_6364136223846793005, z_add, z_sub, z_mul, z_neg, y_add, y_sub, y_mul, y_neg, z_toL, y_toI, cmp_lt, cmp_gt, cmp_le, cmp_ge, z_lt, z_le, z_eq, y_lt, y_le, y_eq, if_pos, if_neg, ite_true, ite_false, q1']
    · simp (disch := omega) only [e, e', letM_s, clP_s, clM_s, l_m89910, l_m999, l_m9, l_m4, l_m3, l_m2, l_m1, l_0, l_1, l_2, l_3, l_4, l_5, l_6, l_7, l_8, l_9, l_10, l_11, l_12, l_13, l_14, l_18, l_31, l_32, l_33, l_43, l_45, l_48, l_57, l_64, l_66, l_80, l_97, l_100, l_109, l_118, l_119, l_200, l_255, l_462, l_500, l_676, l_999, l_1000, l_1001, l_9999, l_10000, l_99999, l_100000, l_447214, l_1000000000, m_m999, m_m9, m_0, m_1, m_2, m_4, m_9, m_255, m_500, m_999, m_9999, m_10000, m_99999, m_200000000, m_4294967295, m_1442695040888963407, m_6364136223846793005, z_add, z_sub, z_mul, z_neg, y_add, y_sub, y_mul, y_neg, z_toL, y_toI, cmp_lt, cmp_gt, cmp_le, cmp_ge, z_lt, z_le, z_eq, y_lt, y_le, y_eq, if_pos, if_neg, ite_true, ite_false, q1']
  · rw [if_neg c]
    refine ⟨I, ?_, h, fun _ _ => rfl⟩
    by_cases c1 : -999 ≤ z ∧ z ≤ 999
    · by_cases c2 : -999 ≤ w ∧ w ≤ 999
      · have c3 : z = 0 ∧ w = 0 := by omega
        simp (disch := omega) only [e, e', letM_s, clP_s, clM_s, l_m89910, l_m999, l_m9, l_m4, l_m3, l_m2, l_m1, l_0, l_1, l_2, l_3, l_4, l_5, l_6, l_7, l_8, l_9, l_10, l_11, l_12, l_13, l_14, l_18, l_31, l_32, l_33, l_43, l_45, l_48, l_57, l_64, l_66, l_80, l_97, l_100, l_109, l_118, l_119, l_200, l_255, l_462, l_500, l_676, l_999, l_1000, l_1001, l_9999, l_10000, l_99999, l_100000, l_447214, l_1000000000, m_m999, m_m9, m_0, m_1, m_2, m_4, m_9, m_255, m_500, m_999, m_9999, m_10000, m_99999, m_200000000, m_4294967295, m_1442695040888963407, m_6364136223846793005, z_add, z_sub, z_mul, z_neg, y_add, y_sub, y_mul, y_neg, z_toL, y_toI, cmp_lt, cmp_gt, cmp_le, cmp_ge, z_lt, z_le, z_eq, y_lt, y_le, y_eq, if_pos, if_neg, ite_true, ite_false]
      · simp (disch := omega) only [e, e', letM_s, clP_s, clM_s, l_m89910, l_m999, l_m9, l_m4, l_m3, l_m2, l_m1, l_0, l_1, l_2, l_3, l_4, l_5, l_6, l_7, l_8, l_9, l_10, l_11, l_12, l_13, l_14, l_18, l_31, l_32, l_33, l_43, l_45, l_48, l_57, l_64, l_66, l_80, l_97, l_100, l_109, l_118, l_119, l_200, l_255, l_462, l_500, l_676, l_999, l_1000, l_1001, l_9999, l_10000, l_99999, l_100000, l_447214, l_1000000000, m_m999, m_m9, m_0, m_1, m_2, m_4, m_9, m_255, m_500, m_999, m_9999, m_10000, m_99999, m_200000000, m_4294967295, m_1442695040888963407, m_6364136223846793005, z_add, z_sub, z_mul, z_neg, y_add, y_sub, y_mul, y_neg, z_toL, y_toI, cmp_lt, cmp_gt, cmp_le, cmp_ge, z_lt, z_le, z_eq, y_lt, y_le, y_eq, if_pos, if_neg, ite_true, ite_false]
    · simp (disch := omega) only [e, letM_s, clP_s, clM_s, l_m89910, l_m999, l_m9, l_m4, l_m3, l_m2, l_m1, l_0, l_1, l_2, l_3, l_4, l_5, l_6, l_7, l_8, l_9, l_10, l_11, l_12, l_13, l_14, l_18, l_31, l_32, l_33, l_43, l_45, l_48, l_57, l_64, l_66, l_80, l_97, l_100, l_109, l_118, l_119, l_200, l_255, l_462, l_500, l_676, l_999, l_1000, l_1001, l_9999, l_10000, l_99999, l_100000, l_447214, l_1000000000, m_m999, m_m9, m_0, m_1, m_2, m_4, m_9, m_255, m_500, m_999, m_9999, m_10000, m_99999, m_200000000, m_4294967295, m_1442695040888963407, m_6364136223846793005, z_add, z_sub, z_mul, z_neg, y_add, y_sub, y_mul, y_neg, z_toL, y_toI, cmp_lt, cmp_gt, cmp_le, cmp_ge, z_lt, z_le, z_eq, y_lt, y_le, y_eq, if_pos, if_neg, ite_true, ite_false]
theorem m_wait {N : Nat} {I : Mem} {k : Nat} {g : GS} {z : Int} (hN : 8100 ≤ N) (hG : OkG g) (h : MInv I k g) (h1 : -2147483648 ≤ z) (h2 : z < 2147483648) : ∃ I1, f7_addWait N I k (zI z) = some ((spWait g z).1, I1) ∧ MInv I1 k (spWait g z).2 ∧ ∀ x, x < k → I1 x = I x := by
  have e := in_lit N I 1 9999 h1 h2 (by omega) (by omega) (by omega) (by omega)
  obtain ⟨I1, q1, q2, q3⟩ := m_add (q := (0, 0, z)) hN hG h
  have q1' : f7_addItem N I k (zI 0) (zI 0) (zI z) = some ((spAdd g (0, 0, z)).1, I1) := q1
  unfold f7_addWait spWait
  by_cases c : 1 ≤ z ∧ z ≤ 9999
  · rw [if_pos c]
    refine ⟨I1, ?_, q2, q3⟩
    simp (disch := omega) only [e, letM_s, clP_s, clM_s, l_m89910, l_m999, l_m9, l_m4, l_m3, l_m2, l_m1, l_0, l_1, l_2, l_3, l_4, l_5, l_6, l_7, l_8, l_9, l_10, l_11, l_12, l_13, l_14, l_18, l_31, l_32, l_33, l_43, l_45, l_48, l_57, l_64, l_66, l_80, l_97, l_100, l_109, l_118, l_119, l_200, l_255, l_462, l_500, l_676, l_999, l_1000, l_1001, l_9999, l_10000, l_99999, l_100000, l_447214, l_1000000000, m_m999, m_m9, m_0, m_1, m_2, m_4, m_9, m_255, m_500, m_999, m_9999, m_10000, m_99999, m_200000000, m_4294967295, m_1442695040888963407, m_6364136223846793005, z_add, z_sub, z_mul, z_neg, y_add, y_sub, y_mul, y_neg, z_toL, y_toI, cmp_lt, cmp_gt, cmp_le, cmp_ge, z_lt, z_le, z_eq, y_lt, y_le, y_eq, if_pos, if_neg, ite_true, ite_false, q1']
  · rw [if_neg c]
    refine ⟨I, ?_, h, fun _ _ => rfl⟩
    simp (disch := omega) only [e, letM_s, clP_s, clM_s, l_m89910, l_m999, l_m9, l_m4, l_m3, l_m2, l_m1, l_0, l_1, l_2, l_3, l_4, l_5, l_6, l_7, l_8, l_9, l_10, l_11, l_12, l_13, l_14, l_18, l_31, l_32, l_33, l_43, l_45, l_48, l_57, l_64, l_66, l_80, l_97, l_100, l_109, l_118, l_119, l_200, l_255, l_462, l_500, l_676, l_999, l_1000, l_1001, l_9999, l_10000, l_99999, l_100000, l_447214, l_1000000000, m_m999, m_m9, m_0, m_1, m_2, m_4, m_9, m_255, m_500, m_999, m_9999, m_10000, m_99999, m_200000000, m_4294967295, m_1442695040888963407, m_6364136223846793005, z_add, z_sub, z_mul, z_neg, y_add, y_sub, y_mul, y_neg, z_toL, y_toI, cmp_lt, cmp_gt, cmp_le, cmp_ge, z_lt, z_le, z_eq, y_lt, y_le, y_eq, if_pos, if_neg, ite_true, ite_false]
theorem n5_of {I : Mem} {k : Nat} {s : Sg} (hR : RowR (I k) s) : I k 5 = zI (nS s : Int) := by
  obtain ⟨a, v, x, y, t, n, d, m, i, l⟩ := s
  exact hR.2.2.2.2.2.1
theorem n8_of {s : Sg} (hO : OkS s) : nS s ≤ 8 := by
  obtain ⟨a, v, x, y, t, n, d, m, i, l⟩ := s
  exact hO.2.2.2.2.1
theorem m_step {N : Nat} {I : Mem} {k : Nat} {g : GS} (hN : 8100 ≤ N) (hG : OkG g) (h : MInv I k g) : ∃ I1, f7_step N I k = some ((spStep g).1, I1) ∧ MInv I1 k (spStep g).2 ∧ ∀ x, x < k → I1 x = I x := by
  obtain ⟨I1, q1, q2, q3⟩ := e7_note (N := N) (by omega) hG h
  have hR := h.now
  have hRn := q2.now
  have hO := hG.S
  have hn8 := n8_of hO
  have r5 := n5_of hR
  rw [sG_rem] at hRn
  unfold f7_step spStep
  by_cases c : nS (sG g) = 0
  · rw [if_pos c]
    refine ⟨I, ?_, h, fun _ _ => rfl⟩
    rw [r5]
    simp (disch := omega) only [letM_s, clP_s, clM_s, l_m89910, l_m999, l_m9, l_m4, l_m3, l_m2, l_m1, l_0, l_1, l_2, l_3, l_4, l_5, l_6, l_7, l_8, l_9, l_10, l_11, l_12, l_13, l_14, l_18, l_31, l_32, l_33, l_43, l_45, l_48, l_57, l_64, l_66, l_80, l_97, l_100, l_109, l_118, l_119, l_200, l_255, l_462, l_500, l_676, l_999, l_1000, l_1001, l_9999, l_10000, l_99999, l_100000, l_447214, l_1000000000, m_m999, m_m9, m_0, m_1, m_2, m_4, m_9, m_255, m_500, m_999, m_9999, m_10000, m_99999, m_200000000, m_4294967295, m_1442695040888963407, m_6364136223846793005, z_add, z_sub, z_mul, z_neg, y_add, y_sub, y_mul, y_neg, z_toL, y_toI, cmp_lt, cmp_gt, cmp_le, cmp_ge, z_lt, z_le, z_eq, y_lt, y_le, y_eq, if_pos, if_neg, ite_true, ite_false]
  · rw [if_neg c]
    obtain ⟨I2, s1, s2, s3, s4⟩ := e7_stepIn (N := N) (I := I1) (k := k) (row := k + 2) (by omega) (by omega) (by omega) q2.C (Nat.pos_of_ne_zero c) hO hRn
    refine ⟨I2, ?_, q2.row s4 s2 s3, fun x hx => by rw [fm_cr s4 (by omega) x hx, q3 x (by omega) (by omega)]⟩
    rw [r5]
    simp (disch := omega) only [q1, s1, letM_s, clP_s, clM_s, l_m89910, l_m999, l_m9, l_m4, l_m3, l_m2, l_m1, l_0, l_1, l_2, l_3, l_4, l_5, l_6, l_7, l_8, l_9, l_10, l_11, l_12, l_13, l_14, l_18, l_31, l_32, l_33, l_43, l_45, l_48, l_57, l_64, l_66, l_80, l_97, l_100, l_109, l_118, l_119, l_200, l_255, l_462, l_500, l_676, l_999, l_1000, l_1001, l_9999, l_10000, l_99999, l_100000, l_447214, l_1000000000, m_m999, m_m9, m_0, m_1, m_2, m_4, m_9, m_255, m_500, m_999, m_9999, m_10000, m_99999, m_200000000, m_4294967295, m_1442695040888963407, m_6364136223846793005, z_add, z_sub, z_mul, z_neg, y_add, y_sub, y_mul, y_neg, z_toL, y_toI, cmp_lt, cmp_gt, cmp_le, cmp_ge, z_lt, z_le, z_eq, y_lt, y_le, y_eq, if_pos, if_neg, ite_true, ite_false]
theorem e7_run {N : Nat} {I : Mem} {k row : Nat} {s : Sg} {K : Int} (hN : 8100 ≤ N) (hk : row ≠ k) (hk8 : row ≠ k + 8) (hK : 0 ≤ K) (hK2 : K ≤ 100000) (hC : McC I k) (hO : OkS s) (hR : RowR (I row) s) : ∃ I1, f7_runIn N I k row (zI K) = some (zI ((runS 8000 K s).1 : Int), I1) ∧ RowR (I1 row) (runS 8000 K s).2 ∧ McC I1 k ∧ Cr I I1 k row := by
  have hm := mu_le hO
  obtain ⟨I1, q1, q2⟩ := e7_runIn_5 (N := N) (zI K) hN hk hk8 8000 N 0 K I s (by omega) (by omega) (by omega) hK hK2 hC hO hR
  refine ⟨I1, ?_, q2⟩
  unfold f7_runIn
  rw [Nat.zero_add] at q1
  exact q1
theorem m_run {N : Nat} {I : Mem} {k : Nat} {g : GS} {z : Int} (hN : 8100 ≤ N) (hG : OkG g) (h : MInv I k g) (h1 : -2147483648 ≤ z) (h2 : z < 2147483648) : ∃ I1, f7_run N I k (zI z) = some ((spRun g z).1, I1) ∧ MInv I1 k (spRun g z).2 ∧ ∀ x, x < k → I1 x = I x := by
  obtain ⟨I1, q1, q2, q3⟩ := e7_note (N := N) (by omega) hG h
  have hR := h.now
  have hRn := q2.now
  have hO := hG.S
  have hn8 := n8_of hO
  have r5 := n5_of hR
  rw [sG_rem] at hRn
  have e := in_lit N I 1 99999 h1 h2 (by omega) (by omega) (by omega) (by omega)
  unfold f7_run spRun
  by_cases c : 1 ≤ z ∧ z ≤ 99999
  · rw [if_pos c]
    by_cases c1 : nS (sG g) = 0
    · rw [if_pos c1]
      refine ⟨I, ?_, h, fun _ _ => rfl⟩
      simp (disch := omega) only [e, r5, letM_s, clP_s, clM_s, l_m89910, l_m999, l_m9, l_m4, l_m3, l_m2, l_m1, l_0, l_1, l_2, l_3, l_4, l_5, l_6, l_7, l_8, l_9, l_10, l_11, l_12, l_13, l_14, l_18, l_31, l_32, l_33, l_43, l_45, l_48, l_57, l_64, l_66, l_80, l_97, l_100, l_109, l_118, l_119, l_200, l_255, l_462, l_500, l_676, l_999, l_1000, l_1001, l_9999, l_10000, l_99999, l_100000, l_447214, l_1000000000, m_m999, m_m9, m_0, m_1, m_2, m_4, m_9, m_255, m_500, m_999, m_9999, m_10000, m_99999, m_200000000, m_4294967295, m_1442695040888963407, m_6364136223846793005, z_add, z_sub, z_mul, z_neg, y_add, y_sub, y_mul, y_neg, z_toL, y_toI, cmp_lt, cmp_gt, cmp_le, cmp_ge, z_lt, z_le, z_eq, y_lt, y_le, y_eq, if_pos, if_neg, ite_true, ite_false]
    · rw [if_neg c1]
      obtain ⟨I2, s1, s2, s3, s4⟩ := e7_run (N := N) (I := I1) (k := k) (row := k + 2) (K := z) hN (by omega) (by omega) (by omega) (by omega) q2.C hO hRn
      refine ⟨I2, ?_, q2.row s4 s2 s3, fun x hx => by rw [fm_cr s4 (by omega) x hx, q3 x (by omega) (by omega)]⟩
      simp (disch := omega) only [e, r5, q1, s1, letM_s, clP_s, clM_s, l_m89910, l_m999, l_m9, l_m4, l_m3, l_m2, l_m1, l_0, l_1, l_2, l_3, l_4, l_5, l_6, l_7, l_8, l_9, l_10, l_11, l_12, l_13, l_14, l_18, l_31, l_32, l_33, l_43, l_45, l_48, l_57, l_64, l_66, l_80, l_97, l_100, l_109, l_118, l_119, l_200, l_255, l_462, l_500, l_676, l_999, l_1000, l_1001, l_9999, l_10000, l_99999, l_100000, l_447214, l_1000000000, m_m999, m_m9, m_0, m_1, m_2, m_4, m_9, m_255, m_500, m_999, m_9999, m_10000, m_99999, m_200000000, m_4294967295, m_1442695040888963407, m_6364136223846793005, z_add, z_sub, z_mul, z_neg, y_add, y_sub, y_mul, y_neg, z_toL, y_toI, cmp_lt, cmp_gt, cmp_le, cmp_ge, z_lt, z_le, z_eq, y_lt, y_le, y_eq, if_pos, if_neg, ite_true, ite_false]
  · rw [if_neg c]
    refine ⟨I, ?_, h, fun _ _ => rfl⟩
    simp (disch := omega) only [e, letM_s, clP_s, clM_s, l_m89910, l_m999, l_m9, l_m4, l_m3, l_m2, l_m1, l_0, l_1, l_2, l_3, l_4, l_5, l_6, l_7, l_8, l_9, l_10, l_11, l_12, l_13, l_14, l_18, l_31, l_32, l_33, l_43, l_45, l_48, l_57, l_64, l_66, l_80, l_97, l_100, l_109, l_118, l_119, l_200, l_255, l_462, l_500, l_676, l_999, l_1000, l_1001, l_9999, l_10000, l_99999, l_100000, l_447214, l_1000000000, m_m999, m_m9, m_0, m_1, m_2, m_4, m_9, m_255, m_500, m_999, m_9999, m_10000, m_99999, m_200000000, m_4294967295, m_1442695040888963407, m_6364136223846793005, z_add, z_sub, z_mul, z_neg, y_add, y_sub, y_mul, y_neg, z_toL, y_toI, cmp_lt, cmp_gt, cmp_le, cmp_ge, z_lt, z_le, z_eq, y_lt, y_le, y_eq, if_pos, if_neg, ite_true, ite_false]
theorem uw_of (N : Nat) {I : Mem} {k : Nat} {s : Sg} (hO : OkS s) (hR : RowR (I k) s) : f7_isUnderWay N I k = some (zI (if sM s = 0 then 0 else 1), I) := by
  obtain ⟨a, v, x, y, t, n, d, m, i, l⟩ := s
  obtain ⟨o1, o2, o3, o4, o5, o6, o7, o8⟩ := hO
  obtain ⟨r0, r1, r2, r3, r4, r5, r6, r7, r8, r9⟩ := hR
  have hil : i < 100000 := by
    rcases Nat.eq_zero_or_pos m with w | w
    · have := o7 w; omega
    · obtain ⟨b1, b2, b3, b4, b5⟩ := o8 w
      have := lenI_pos (o6 0 b1) b2
      omega
  exact e7_isUW N (I := I) (k := k) (m := m) (i := i) r7 hil
theorem e7_stop_7 {N : Nat} {k : Nat} (hN : 100 ≤ N) : ∀ (e i cnt : Nat) (I : Mem), i + e = 33 → 12 ≤ i → e < cnt → ∃ I1, f7_stopIn_7 N k cnt I (zI (i : Int)) = f7_stopIn_7 N k 1 I1 (zI ((33 : Nat) : Int)) ∧ (∀ j, j < i → I1 k j = I k j) ∧ ∀ x, x ≠ k → I1 x = I x := by
  intro e
  induction e with
  | zero =>
    intro i cnt I h1 h2 h3
    obtain ⟨cnt, rfl⟩ : ∃ x, cnt = x + 1 := ⟨cnt - 1, by omega⟩
    refine ⟨I, ?_, fun _ _ => rfl, fun _ _ => rfl⟩
    rw [show i = 33 by omega, f7_stopIn_7, f7_stopIn_7]
    simp (disch := omega) only [l_33, z_le, if_pos]
  | succ e ih =>
    intro i cnt I h1 h2 h3
    obtain ⟨cnt, rfl⟩ : ∃ x, cnt = x + 1 := ⟨cnt - 1, by omega⟩
    obtain ⟨I1, q1, q2, q3⟩ := ih (i + 1) cnt (st I k i (zI 0)) (by omega) (by omega) (by omega)
    have n1 : (zI (i : Int)).toNatClampNeg = i := by rw [z_nat (by omega) (by omega)]; rfl
    refine ⟨I1, ?_, fun j hj => by rw [q2 j (by omega), st_j (by omega)], fun x hx => by rw [q3 x hx, st_k hx]⟩
    rw [← q1, f7_stopIn_7]
    simp (disch := omega) only [n1, l_33, l_0, l_1, z_le, z_lt, if_neg, letM_s, z_add]
    rfl
theorem e7_stopIn {N : Nat} {I : Mem} {k : Nat} {s : Sg} (hN : 100 ≤ N) (hO : OkS s) (hm : sM s ≠ 0) (hR : RowR (I k) s) : ∃ I1, f7_stopIn N I k = some (zI (sI s : Int), I1) ∧ RowR (I1 k) (stopS s) ∧ ∀ x, x ≠ k → I1 x = I x := by
  obtain ⟨a, v, x, y, t, n, d, m, i, l⟩ := s
  have hm : m ≠ 0 := hm
  obtain ⟨o1, o2, o3, o4, o5, o6, o7, o8⟩ := hO
  obtain ⟨r0, r1, r2, r3, r4, r5, r6, r7, r8, r9⟩ := hR
  obtain ⟨b1, b2, b3, b4, b5⟩ := o8 (by omega)
  have hlen := lenI_pos (o6 0 b1) b2
  rw [if_neg hm] at r7
  obtain ⟨I1, q1, q2, q3⟩ := e7_stop_7 (N := N) (k := k) hN 21 12 N (st I k 5 (zI 1)) (by omega) (by omega) (by omega)
  have g1 : ∀ j, j < 12 → j ≠ 5 → I1 k j = I k j := fun j a b => by rw [q2 j a, st_j b]
  have g5 : I1 k 5 = zI ((1 : Nat) : Int) := by rw [q2 5 (by omega), st_s]; rfl
  obtain ⟨I2, hI2⟩ : ∃ I2, I2 = st I1 k 8 (zI (i : Int)) := ⟨_, rfl⟩
  have e7 : I1 k 7 = zI (i : Int) := by rw [g1 7 (by omega) (by omega)]; exact r7
  have hstart : f7_stopIn N I k = f7_stopIn_7 N k 1 I1 (zI ((33 : Nat) : Int)) := by
    unfold f7_stopIn
    rw [← q1]
    simp only [letM_s, l_1, l_12]
    rfl
  rw [hstart, f7_stopIn_7]
  have r9' := r9 0 b1
  unfold stopS
  by_cases c : i = 0
  · subst c
    obtain ⟨I3, s1, s2, s3, s4, s5, s6, s7, s8⟩ := e7_endMove (N := N) (I := I2) (k := k) (n := 1) hN (by omega) (by omega) (by rw [hI2, st_j (by omega)]; exact g5)
    refine ⟨I3, ?_, ?_, fun x hx => by rw [s8 x hx, hI2, st_k hx, q3 x hx, st_k hx]⟩
    · simp (disch := omega) only [e7, letM_s, clP_s, clM_s, l_m89910, l_m999, l_m9, l_m4, l_m3, l_m2, l_m1, l_0, l_1, l_2, l_3, l_4, l_5, l_6, l_7, l_8, l_9, l_10, l_11, l_12, l_13, l_14, l_18, l_31, l_32, l_33, l_43, l_45, l_48, l_57, l_64, l_66, l_80, l_97, l_100, l_109, l_118, l_119, l_200, l_255, l_462, l_500, l_676, l_999, l_1000, l_1001, l_9999, l_10000, l_99999, l_100000, l_447214, l_1000000000, m_m999, m_m9, m_0, m_1, m_2, m_4, m_9, m_255, m_500, m_999, m_9999, m_10000, m_99999, m_200000000, m_4294967295, m_1442695040888963407, m_6364136223846793005, z_add, z_sub, z_mul, z_neg, y_add, y_sub, y_mul, y_neg, z_toL, y_toI, cmp_lt, cmp_gt, cmp_le, cmp_ge, z_lt, z_le, z_eq, y_lt, y_le, y_eq, if_pos, if_neg, ite_true, ite_false, ← hI2, st_s]
      rw [show I2 k 8 = zI 0 by rw [hI2, st_s]; rfl]
      simp (disch := omega) only [letM_s, clP_s, clM_s, l_m89910, l_m999, l_m9, l_m4, l_m3, l_m2, l_m1, l_0, l_1, l_2, l_3, l_4, l_5, l_6, l_7, l_8, l_9, l_10, l_11, l_12, l_13, l_14, l_18, l_31, l_32, l_33, l_43, l_45, l_48, l_57, l_64, l_66, l_80, l_97, l_100, l_109, l_118, l_119, l_200, l_255, l_462, l_500, l_676, l_999, l_1000, l_1001, l_9999, l_10000, l_99999, l_100000, l_447214, l_1000000000, m_m999, m_m9, m_0, m_1, m_2, m_4, m_9, m_255, m_500, m_999, m_9999, m_10000, m_99999, m_200000000, m_4294967295, m_1442695040888963407, m_6364136223846793005, z_add, z_sub, z_mul, z_neg, y_add, y_sub, y_mul, y_neg, z_toL, y_toI, cmp_lt, cmp_gt, cmp_le, cmp_ge, z_lt, z_le, z_eq, y_lt, y_le, y_eq, if_pos, if_neg, ite_true, ite_false, s1, s5]
      rfl
    · simp only [if_pos]
      have gg : ∀ j, j < 5 → I3 k j = I k j := fun j hj => by rw [s6 j hj, hI2, st_j (by omega), g1 j (by omega) (by omega)]
      exact ⟨by rw [gg 0 (by omega)]; exact r0, by rw [gg 1 (by omega)]; exact r1, by rw [gg 2 (by omega)]; exact r2, by rw [gg 3 (by omega)]; exact r3, by rw [gg 4 (by omega)]; exact r4, s2, s3, s4, s5, fun j hj => by omega⟩
  · refine ⟨I2, ?_, ?_, fun x hx => by rw [hI2, st_k hx, q3 x hx, st_k hx]⟩
    · simp (disch := omega) only [e7, letM_s, clP_s, clM_s, l_m89910, l_m999, l_m9, l_m4, l_m3, l_m2, l_m1, l_0, l_1, l_2, l_3, l_4, l_5, l_6, l_7, l_8, l_9, l_10, l_11, l_12, l_13, l_14, l_18, l_31, l_32, l_33, l_43, l_45, l_48, l_57, l_64, l_66, l_80, l_97, l_100, l_109, l_118, l_119, l_200, l_255, l_462, l_500, l_676, l_999, l_1000, l_1001, l_9999, l_10000, l_99999, l_100000, l_447214, l_1000000000, m_m999, m_m9, m_0, m_1, m_2, m_4, m_9, m_255, m_500, m_999, m_9999, m_10000, m_99999, m_200000000, m_4294967295, m_1442695040888963407, m_6364136223846793005, z_add, z_sub, z_mul, z_neg, y_add, y_sub, y_mul, y_neg, z_toL, y_toI, cmp_lt, cmp_gt, cmp_le, cmp_ge, z_lt, z_le, z_eq, y_lt, y_le, y_eq, if_pos, if_neg, ite_true, ite_false, ← hI2, st_s]
      rw [show I2 k 8 = zI (i : Int) by rw [hI2, st_s]]
      simp (disch := omega) only [letM_s, clP_s, clM_s, l_m89910, l_m999, l_m9, l_m4, l_m3, l_m2, l_m1, l_0, l_1, l_2, l_3, l_4, l_5, l_6, l_7, l_8, l_9, l_10, l_11, l_12, l_13, l_14, l_18, l_31, l_32, l_33, l_43, l_45, l_48, l_57, l_64, l_66, l_80, l_97, l_100, l_109, l_118, l_119, l_200, l_255, l_462, l_500, l_676, l_999, l_1000, l_1001, l_9999, l_10000, l_99999, l_100000, l_447214, l_1000000000, m_m999, m_m9, m_0, m_1, m_2, m_4, m_9, m_255, m_500, m_999, m_9999, m_10000, m_99999, m_200000000, m_4294967295, m_1442695040888963407, m_6364136223846793005, z_add, z_sub, z_mul, z_neg, y_add, y_sub, y_mul, y_neg, z_toL, y_toI, cmp_lt, cmp_gt, cmp_le, cmp_ge, z_lt, z_le, z_eq, y_lt, y_le, y_eq, if_pos, if_neg, ite_true, ite_false]
    · simp only [if_neg c]
      have gg : ∀ j, j < 12 → j ≠ 5 → j ≠ 8 → I2 k j = I k j := fun j a b c => by rw [hI2, st_j c, g1 j a b]
      refine ⟨by rw [gg 0 (by omega) (by omega) (by omega)]; exact r0, by rw [gg 1 (by omega) (by omega) (by omega)]; exact r1, by rw [gg 2 (by omega) (by omega) (by omega)]; exact r2, by rw [gg 3 (by omega) (by omega) (by omega)]; exact r3, by rw [gg 4 (by omega) (by omega) (by omega)]; exact r4, by rw [hI2, st_j (by omega)]; exact g5, by rw [gg 6 (by omega) (by omega) (by omega)]; exact r6, by rw [gg 7 (by omega) (by omega) (by omega), if_neg hm]; exact r7, by rw [hI2, st_s], fun j hj => ?_⟩
      have hj0 : j = 0 := by omega
      subst hj0
      rw [gg _ (by omega) (by omega) (by omega), gg _ (by omega) (by omega) (by omega), gg _ (by omega) (by omega) (by omega)]
      exact r9'
theorem cr_of {I I1 : Mem} {k row : Nat} (h : ∀ x, x ≠ row → I1 x = I x) (hk : row ≠ k) : Cr I I1 k row := ⟨fun x _ _ c => h x c, fun j _ => by rw [h k (Ne.symm hk)]⟩
theorem m_stop {N : Nat} {I : Mem} {k : Nat} {g : GS} (hN : 8100 ≤ N) (hG : OkG g) (h : MInv I k g) : ∃ I1, f7_stop N I k = some ((spStop g).1, I1) ∧ MInv I1 k (spStop g).2 ∧ ∀ x, x < k → I1 x = I x := by
  obtain ⟨I1, q1, q2, q3⟩ := e7_note (N := N) (by omega) hG h
  have hO := hG.S
  have hu := uw_of N hO h.now
  have hRn := q2.now
  rw [sG_rem] at hRn
  unfold f7_stop spStop
  by_cases c : sM (sG g) = 0
  · rw [if_pos c] at hu ⊢
    refine ⟨I, ?_, h, fun _ _ => rfl⟩
    simp (disch := omega) only [hu, letM_s, clP_s, clM_s, l_m89910, l_m999, l_m9, l_m4, l_m3, l_m2, l_m1, l_0, l_1, l_2, l_3, l_4, l_5, l_6, l_7, l_8, l_9, l_10, l_11, l_12, l_13, l_14, l_18, l_31, l_32, l_33, l_43, l_45, l_48, l_57, l_64, l_66, l_80, l_97, l_100, l_109, l_118, l_119, l_200, l_255, l_462, l_500, l_676, l_999, l_1000, l_1001, l_9999, l_10000, l_99999, l_100000, l_447214, l_1000000000, m_m999, m_m9, m_0, m_1, m_2, m_4, m_9, m_255, m_500, m_999, m_9999, m_10000, m_99999, m_200000000, m_4294967295, m_1442695040888963407, m_6364136223846793005, z_add, z_sub, z_mul, z_neg, y_add, y_sub, y_mul, y_neg, z_toL, y_toI, cmp_lt, cmp_gt, cmp_le, cmp_ge, z_lt, z_le, z_eq, y_lt, y_le, y_eq, if_pos, if_neg, ite_true, ite_false]
  · rw [if_neg c] at hu ⊢
    obtain ⟨I2, s1, s2, s3⟩ := e7_stopIn (N := N) (I := I1) (k := k + 2) (by omega) hO c hRn
    have s4 := cr_of (k := k) s3 (by omega)
    refine ⟨I2, ?_, q2.row s4 s2 (q2.C.row (s3 k (by omega)) (s3 (k+8) (by omega))), fun x hx => by rw [s3 x (by omega), q3 x (by omega) (by omega)]⟩
    simp (disch := omega) only [hu, q1, s1, letM_s, clP_s, clM_s, l_m89910, l_m999, l_m9, l_m4, l_m3, l_m2, l_m1, l_0, l_1, l_2, l_3, l_4, l_5, l_6, l_7, l_8, l_9, l_10, l_11, l_12, l_13, l_14, l_18, l_31, l_32, l_33, l_43, l_45, l_48, l_57, l_64, l_66, l_80, l_97, l_100, l_109, l_118, l_119, l_200, l_255, l_462, l_500, l_676, l_999, l_1000, l_1001, l_9999, l_10000, l_99999, l_100000, l_447214, l_1000000000, m_m999, m_m9, m_0, m_1, m_2, m_4, m_9, m_255, m_500, m_999, m_9999, m_10000, m_99999, m_200000000, m_4294967295, m_1442695040888963407, m_6364136223846793005, z_add, z_sub, z_mul, z_neg, y_add, y_sub, y_mul, y_neg, z_toL, y_toI, cmp_lt, cmp_gt, cmp_le, cmp_ge, z_lt, z_le, z_eq, y_lt, y_le, y_eq, if_pos, if_neg, ite_true, ite_false]
theorem row_remI {I I1 : Mem} {k i : Nat} {s : Sg} (hi : i < nS s) (hR : RowR (I k) s) (h1 : I1 k 5 = zI ((nS s - 1 : Nat) : Int)) (h2 : ∀ j, j < 9 → j ≠ 5 → I1 k j = I k j) (h3 : ∀ j e, j < nS s - 1 → e < 3 → I1 k (9 + 3 * j + e) = I k (9 + 3 * (if j < i then j else j + 1) + e)) : RowR (I1 k) (remI s i) := by
  obtain ⟨a, v, x, y, t, n, d, m, p, l⟩ := s
  have hi : i < n := hi
  obtain ⟨r0, r1, r2, r3, r4, r5, r6, r7, r8, r9⟩ := hR
  refine ⟨by rw [h2 0 (by omega) (by omega)]; exact r0, by rw [h2 1 (by omega) (by omega)]; exact r1, by rw [h2 2 (by omega) (by omega)]; exact r2, by rw [h2 3 (by omega) (by omega)]; exact r3, by rw [h2 4 (by omega) (by omega)]; exact r4, h1, by rw [h2 6 (by omega) (by omega)]; exact r6, by rw [h2 7 (by omega) (by omega)]; exact r7, by rw [h2 8 (by omega) (by omega)]; exact r8, fun j hj => ?_⟩
  have p0 := h3 j 0 hj (by omega)
  have p1 := h3 j 1 hj (by omega)
  have p2 := h3 j 2 hj (by omega)
  rw [Nat.add_zero, Nat.add_zero] at p0
  rw [p0, p1, p2]
  unfold dropD
  by_cases c : j < i
  · rw [if_pos c, if_pos c]; exact r9 j (by omega)
  · rw [if_neg c, if_neg c]; exact r9 (j + 1) (by omega)
theorem m_rem {N : Nat} {I : Mem} {k : Nat} {g : GS} {z : Int} (hN : 8100 ≤ N) (hG : OkG g) (h : MInv I k g) (h1 : -2147483648 ≤ z) (h2 : z < 2147483648) : ∃ I1, f7_removeItem N I k (zI z) = some ((spRem g z).1, I1) ∧ MInv I1 k (spRem g z).2 ∧ ∀ x, x < k → I1 x = I x := by
  obtain ⟨I1, q1, q2, q3⟩ := e7_note (N := N) (by omega) hG h
  have hO := hG.S
  have hu := uw_of N hO h.now
  have hn8 := n8_of hO
  have r5 := n5_of h.now
  have hRn := q2.now
  rw [sG_rem] at hRn
  have r5' := n5_of hRn
  have e := in_lit N I 0 ((nS (sG g) : Int) - 1) h1 h2 (by omega) (by omega) (by omega) (by omega)
  have h37 : ∀ q : Nat, q < nS (sG g) → ∃ I1, f7_removeItem_37 N k (zI (q : Int)) I = some (zI ((nS (sG g) - 1 : Nat) : Int), I1) ∧ MInv I1 k (actG g (remI (sG g) q)) ∧ ∀ x, x < k → I1 x = I x := by
    intro q hq
    obtain ⟨I2, s1, s2, s3, s4, s5⟩ := e7_drop (N := N) (I := I1) (k := k + 2) (n := nS (sG g)) (i := q) (by omega) hn8 hq r5'
    refine ⟨I2, ?_, q2.row (cr_of (k := k) s5 (by omega)) (row_remI hq hRn s2 s3 s4) (q2.C.row (s5 k (by omega)) (s5 (k+8) (by omega))), fun x hx => by rw [s5 x (by omega), q3 x (by omega) (by omega)]⟩
    unfold f7_removeItem_37
    rw [q1]
    simp only [clM_s, s1, s2]
  unfold f7_removeItem spRem
  by_cases c : 0 ≤ z ∧ z < nS (sG g)
  · rw [if_pos c]
    by_cases c1 : z = 0
    · subst c1
      obtain ⟨I2, t1, t2, t3⟩ := h37 0 (by omega)
      have t1' : f7_removeItem_37 N k (zI 0) I = some (zI ((nS (sG g) - 1 : Nat) : Int), I2) := t1
      by_cases c2 : sM (sG g) = 0
      · rw [if_pos c2] at hu
        rw [if_neg (fun w => w.2 c2)]
        refine ⟨I2, ?_, t2, t3⟩
        simp (disch := omega) only [e, r5, hu, t1', letM_s, clP_s, clM_s, l_m89910, l_m999, l_m9, l_m4, l_m3, l_m2, l_m1, l_0, l_1, l_2, l_3, l_4, l_5, l_6, l_7, l_8, l_9, l_10, l_11, l_12, l_13, l_14, l_18, l_31, l_32, l_33, l_43, l_45, l_48, l_57, l_64, l_66, l_80, l_97, l_100, l_109, l_118, l_119, l_200, l_255, l_462, l_500, l_676, l_999, l_1000, l_1001, l_9999, l_10000, l_99999, l_100000, l_447214, l_1000000000, m_m999, m_m9, m_0, m_1, m_2, m_4, m_9, m_255, m_500, m_999, m_9999, m_10000, m_99999, m_200000000, m_4294967295, m_1442695040888963407, m_6364136223846793005, z_add, z_sub, z_mul, z_neg, y_add, y_sub, y_mul, y_neg, z_toL, y_toI, cmp_lt, cmp_gt, cmp_le, cmp_ge, z_lt, z_le, z_eq, y_lt, y_le, y_eq, if_pos, if_neg, ite_true, ite_false]
      · rw [if_neg c2] at hu
        rw [if_pos ⟨rfl, c2⟩]
        refine ⟨I, ?_, h, fun _ _ => rfl⟩
        simp (disch := omega) only [e, r5, hu, letM_s, clP_s, clM_s, l_m89910, l_m999, l_m9, l_m4, l_m3, l_m2, l_m1, l_0, l_1, l_2, l_3, l_4, l_5, l_6, l_7, l_8, l_9, l_10, l_11, l_12, l_13, l_14, l_18, l_31, l_32, l_33, l_43, l_45, l_48, l_57, l_64, l_66, l_80, l_97, l_100, l_109, l_118, l_119, l_200, l_255, l_462, l_500, l_676, l_999, l_1000, l_1001, l_9999, l_10000, l_99999, l_100000, l_447214, l_1000000000, m_m999, m_m9, m_0, m_1, m_2, m_4, m_9, m_255, m_500, m_999, m_9999, m_10000, m_99999, m_200000000, m_4294967295, m_1442695040888963407, m_6364136223846793005, z_add, z_sub, z_mul, z_neg, y_add, y_sub, y_mul, y_neg, z_toL, y_toI, cmp_lt, cmp_gt, cmp_le, cmp_ge, z_lt, z_le, z_eq, y_lt, y_le, y_eq, if_pos, if_neg, ite_true, ite_false]
    · rw [if_neg (fun w => c1 w.1)]
      obtain ⟨q, rfl⟩ := Int.eq_ofNat_of_zero_le c.1
      obtain ⟨I2, t1, t2, t3⟩ := h37 q (by omega)
      refine ⟨I2, ?_, t2, t3⟩
      simp (disch := omega) only [e, r5, t1, letM_s, clP_s, clM_s, l_m89910, l_m999, l_m9, l_m4, l_m3, l_m2, l_m1, l_0, l_1, l_2, l_3, l_4, l_5, l_6, l_7, l_8, l_9, l_10, l_11, l_12, l_13, l_14, l_18, l_31, l_32, l_33, l_43, l_45, l_48, l_57, l_64, l_66, l_80, l_97, l_100, l_109, l_118, l_119, l_200, l_255, l_462, l_500, l_676, l_999, l_1000, l_1001, l_9999, l_10000, l_99999, l_100000, l_447214, l_1000000000, m_m999, m_m9, m_0, m_1, m_2, m_4, m_9, m_255, m_500, m_999, m_9999, m_10000, m_99999, m_200000000, m_4294967295, m_1442695040888963407, m_6364136223846793005, z_add, z_sub, z_mul, z_neg, y_add, y_sub, y_mul, y_neg, z_toL, y_toI, cmp_lt, cmp_gt, cmp_le, cmp_ge, z_lt, z_le, z_eq, y_lt, y_le, y_eq, if_pos, if_neg, ite_true, ite_false]
  · rw [if_neg c]
    refine ⟨I, ?_, h, fun _ _ => rfl⟩
    simp (disch := omega) only [e, r5, letM_s, clP_s, clM_s, l_m89910, l_m999, l_m9, l_m4, l_m3, l_m2, l_m1, l_0, l_1, l_2, l_3, l_4, l_5, l_6, l_7, l_8, l_9, l_10, l_11, l_12, l_13, l_14, l_18, l_31, l_32, l_33, l_43, l_45, l_48, l_57, l_64, l_66, l_80, l_97, l_100, l_109, l_118, l_119, l_200, l_255, l_462, l_500, l_676, l_999, l_1000, l_1001, l_9999, l_10000, l_99999, l_100000, l_447214, l_1000000000, m_m999, m_m9, m_0, m_1, m_2, m_4, m_9, m_255, m_500, m_999, m_9999, m_10000, m_99999, m_200000000, m_4294967295, m_1442695040888963407, m_6364136223846793005, z_add, z_sub, z_mul, z_neg, y_add, y_sub, y_mul, y_neg, z_toL, y_toI, cmp_lt, cmp_gt, cmp_le, cmp_ge, z_lt, z_le, z_eq, y_lt, y_le, y_eq, if_pos, if_neg, ite_true, ite_false]
