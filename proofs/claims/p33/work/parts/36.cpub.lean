/-! THE CLASS' PUBLIC METHODS -/
theorem sG_rm (g : GS) : sG (remG g) = sG g := by
  obtain ⟨tl, tx, s, hc, he, hh, sv⟩ := g
  rfl
theorem OkS.b {s : Sg} (h : OkS s) : 1 ≤ sA s ∧ sA s ≤ 999 ∧ 1 ≤ sV s ∧ sV s ≤ 999 ∧ nS s ≤ 8 := by
  obtain ⟨a, v, x, y, t, n, d, m, i, l⟩ := s
  exact ⟨h.1, h.2.1, h.2.2.1, h.2.2.2.1, h.2.2.2.2.1⟩
theorem StR.a {I : Mem} {k : Nat} {s : Sg} (h : StR I k s) : I k 0 = zI (sA s : Int) := by
  obtain ⟨a, v, x, y, t, n, d, m, i, l⟩ := s
  exact h.1
theorem StR.v {I : Mem} {k : Nat} {s : Sg} (h : StR I k s) : I k 1 = zI (sV s : Int) := by
  obtain ⟨a, v, x, y, t, n, d, m, i, l⟩ := s
  exact h.2.1
theorem StR.x {I : Mem} {k : Nat} {s : Sg} (h : StR I k s) : I k 2 = sX s := by
  obtain ⟨a, v, x, y, t, n, d, m, i, l⟩ := s
  exact h.2.2.1
theorem StR.y {I : Mem} {k : Nat} {s : Sg} (h : StR I k s) : I k 3 = sY s := by
  obtain ⟨a, v, x, y, t, n, d, m, i, l⟩ := s
  exact h.2.2.2.1
theorem StR.t {I : Mem} {k : Nat} {s : Sg} (h : StR I k s) : I k 4 = sT s := by
  obtain ⟨a, v, x, y, t, n, d, m, i, l⟩ := s
  exact h.2.2.2.2.1
theorem StR.i {I : Mem} {k : Nat} {s : Sg} (h : StR I k s) (hm : sM s ≠ 0) : I k 11 = zI (sI s : Int) := by
  obtain ⟨a, v, x, y, t, n, d, m, i, l⟩ := s
  exact (h.2.2.2.2.2.2.2.1 (Nat.pos_of_ne_zero hm)).2
theorem StR.d {I : Mem} {k j : Nat} {s : Sg} (h : StR I k s) (hj : j < nS s) : I (k+1) j = zI (sD s j).1 ∧ I (k+2) j = zI (sD s j).2.1 ∧ I (k+3) j = zI (sD s j).2.2 := by
  obtain ⟨a, v, x, y, t, n, d, m, i, l⟩ := s
  exact h.2.2.2.2.2.2.2.2 j hj
theorem OkS.d {j : Nat} {s : Sg} (h : OkS s) (hj : j < nS s) : ItOk (sD s j) := by
  obtain ⟨a, v, x, y, t, n, d, m, i, l⟩ := s
  exact h.2.2.2.2.2.1 j hj
theorem StR.setA {I : Mem} {k a : Nat} {s : Sg} (h : StR I k s) : StR (st I k 0 (zI (a : Int))) k (setA s a) := by
  obtain ⟨b, v, x, y, t, n, d, m, i, l⟩ := s
  obtain ⟨r0, r1, r2, r3, r4, r5, r9, rp, ri⟩ := h
  refine ⟨st_s _ _ _ _, by rw [st_j (by omega)]; exact r1, by rw [st_j (by omega)]; exact r2, by rw [st_j (by omega)]; exact r3, by rw [st_j (by omega)]; exact r4, by rw [st_j (by omega)]; exact r5, by rw [st_j (by omega)]; exact r9, fun q => by rw [st_j (by omega), st_j (by omega)]; exact rp q, fun j hj => by rw [st_k (by omega), st_k (by omega), st_k (by omega)]; exact ri j hj⟩
theorem StR.setV {I : Mem} {k a : Nat} {s : Sg} (h : StR I k s) : StR (st I k 1 (zI (a : Int))) k (setV s a) := by
  obtain ⟨b, v, x, y, t, n, d, m, i, l⟩ := s
  obtain ⟨r0, r1, r2, r3, r4, r5, r9, rp, ri⟩ := h
  refine ⟨by rw [st_j (by omega)]; exact r0, st_s _ _ _ _, by rw [st_j (by omega)]; exact r2, by rw [st_j (by omega)]; exact r3, by rw [st_j (by omega)]; exact r4, by rw [st_j (by omega)]; exact r5, by rw [st_j (by omega)]; exact r9, fun q => by rw [st_j (by omega), st_j (by omega)]; exact rp q, fun j hj => by rw [st_k (by omega), st_k (by omega), st_k (by omega)]; exact ri j hj⟩
/-- an action done -/
theorem CInv.act {I I1 : Mem} {k : Nat} {g : GS} {s : Sg} (h : CInv I k (remG g)) (hF : Fs I I1 (k+3)) (hS : StR I1 (k+3) s) : CInv I1 k (actG g s) :=
  CInv.set h (fun x a _ _ => hF x (by omega)) hS (h.R.fr (hF _ (by omega)) (hF _ (by omega)))
theorem c_bit (N : Nat) (I : Mem) {z w : Int} (h1 : -2147483648 ≤ z) (h2 : z < 2147483648) (h3 : -2147483648 ≤ w) (h4 : w < 2147483648) : f6_isPositive N I (zI z) (zI w) = some (zI (if 1 ≤ z ∧ z ≤ w then 1 else 0), I) := by
  unfold f6_isPositive
  by_cases c1 : z < 1
  · rw [show (if 1 ≤ z ∧ z ≤ w then (1 : Int) else 0) = 0 from if_neg (by omega)]
    simp (disch := omega) only [letM_s, clP_s, clM_s, l_m89910, l_m999, l_m9, l_m4, l_m3, l_m2, l_m1, l_0, l_1, l_2, l_3, l_4, l_5, l_6, l_7, l_8, l_9, l_10, l_11, l_12, l_13, l_14, l_18, l_31, l_32, l_33, l_43, l_45, l_48, l_57, l_64, l_66, l_80, l_97, l_100, l_109, l_118, l_119, l_200, l_255, l_462, l_500, l_676, l_999, l_1000, l_1001, l_9999, l_10000, l_99999, l_100000, l_447214, l_1000000000, m_m999, m_m9, m_0, m_1, m_2, m_4, m_9, m_255, m_500, m_999, m_9999, m_10000, m_99999, m_200000000, m_4294967295, m_1442695040888963407, m_6364136223846793005, z_add, z_sub, z_mul, z_neg, y_add, y_sub, y_mul, y_neg, z_toL, y_toI, cmp_lt, cmp_gt, cmp_le, cmp_ge, z_lt, z_le, z_eq, y_lt, y_le, y_eq, if_pos, if_neg, ite_true, ite_false]
  · by_cases c2 : w < z
    · rw [show (if 1 ≤ z ∧ z ≤ w then (1 : Int) else 0) = 0 from if_neg (by omega)]
      simp (disch := omega) only [letM_s, clP_s, clM_s, l_m89910, l_m999, l_m9, l_m4, l_m3, l_m2, l_m1, l_0, l_1, l_2, l_3, l_4, l_5, l_6, l_7, l_8, l_9, l_10, l_11, l_12, l_13, l_14, l_18, l_31, l_32, l_33, l_43, l_45, l_48, l_57, l_64, l_66, l_80, l_97, l_100, l_109, l_118, l_119, l_200, l_255, l_462, l_500, l_676, l_999, l_1000, l_1001, l_9999, l_10000, l_99999, l_100000, l_447214, l_1000000000, m_m999, m_m9, m_0, m_1, m_2, m_4, m_9, m_255, m_500, m_999, m_9999, m_10000, m_99999, m_200000000, m_4294967295, m_1442695040888963407, m_6364136223846793005, z_add, z_sub, z_mul, z_neg, y_add, y_sub, y_mul, y_neg, z_toL, y_toI, cmp_lt, cmp_gt, cmp_le, cmp_ge, z_lt, z_le, z_eq, y_lt, y_le, y_eq, if_pos, if_neg, ite_true, ite_false]
    · rw [show (if 1 ≤ z ∧ z ≤ w then (1 : Int) else 0) = 1 from if_pos (by omega)]
      simp (disch := omega) only [letM_s, clP_s, clM_s, l_m89910, l_m999, l_m9, l_m4, l_m3, l_m2, l_m1, l_0, l_1, l_2, l_3, l_4, l_5, l_6, l_7, l_8, l_9, l_10, l_11, l_12, l_13, l_14, l_18, l_31, l_32, l_33, l_43, l_45, l_48, l_57, l_64, l_66, l_80, l_97, l_100, l_109, l_118, l_119, l_200, l_255, l_462, l_500, l_676, l_999, l_1000, l_1001, l_9999, l_10000, l_99999, l_100000, l_447214, l_1000000000, m_m999, m_m9, m_0, m_1, m_2, m_4, m_9, m_255, m_500, m_999, m_9999, m_10000, m_99999, m_200000000, m_4294967295, m_1442695040888963407, m_6364136223846793005, z_add, z_sub, z_mul, z_neg, y_add, y_sub, y_mul, y_neg, z_toL, y_toI, cmp_lt, cmp_gt, cmp_le, cmp_ge, z_lt, z_le, z_eq, y_lt, y_le, y_eq, if_pos, if_neg, ite_true, ite_false]
theorem c_axis (N : Nat) (I : Mem) {z : Int} (h1 : -2147483648 ≤ z) (h2 : z < 2147483648) : f6_isAxis N I (zI z) = some (zI (if z = 0 ∨ z = 1 then 1 else 0), I) := by
  unfold f6_isAxis
  by_cases c1 : z = 0
  · rw [show (if z = 0 ∨ z = 1 then (1 : Int) else 0) = 1 from if_pos (by omega)]
    simp (disch := omega) only [letM_s, clP_s, clM_s, l_m89910, l_m999, l_m9, l_m4, l_m3, l_m2, l_m1, l_0, l_1, l_2, l_3, l_4, l_5, l_6, l_7, l_8, l_9, l_10, l_11, l_12, l_13, l_14, l_18, l_31, l_32, l_33, l_43, l_45, l_48, l_57, l_64, l_66, l_80, l_97, l_100, l_109, l_118, l_119, l_200, l_255, l_462, l_500, l_676, l_999, l_1000, l_1001, l_9999, l_10000, l_99999, l_100000, l_447214, l_1000000000, m_m999, m_m9, m_0, m_1, m_2, m_4, m_9, m_255, m_500, m_999, m_9999, m_10000, m_99999, m_200000000, m_4294967295, m_1442695040888963407, m_6364136223846793005, z_add, z_sub, z_mul, z_neg, y_add, y_sub, y_mul, y_neg, z_toL, y_toI, cmp_lt, cmp_gt, cmp_le, cmp_ge, z_lt, z_le, z_eq, y_lt, y_le, y_eq, if_pos, if_neg, ite_true, ite_false]
  · by_cases c2 : z = 1
    · rw [show (if z = 0 ∨ z = 1 then (1 : Int) else 0) = 1 from if_pos (by omega)]
      simp (disch := omega) only [letM_s, clP_s, clM_s, l_m89910, l_m999, l_m9, l_m4, l_m3, l_m2, l_m1, l_0, l_1, l_2, l_3, l_4, l_5, l_6, l_7, l_8, l_9, l_10, l_11, l_12, l_13, l_14, l_18, l_31, l_32, l_33, l_43, l_45, l_48, l_57, l_64, l_66, l_80, l_97, l_100, l_109, l_118, l_119, l_200, l_255, l_462, l_500, l_676, l_999, l_1000, l_1001, l_9999, l_10000, l_99999, l_100000, l_447214, l_1000000000, m_m999, m_m9, m_0, m_1, m_2, m_4, m_9, m_255, m_500, m_999, m_9999, m_10000, m_99999, m_200000000, m_4294967295, m_1442695040888963407, m_6364136223846793005, z_add, z_sub, z_mul, z_neg, y_add, y_sub, y_mul, y_neg, z_toL, y_toI, cmp_lt, cmp_gt, cmp_le, cmp_ge, z_lt, z_le, z_eq, y_lt, y_le, y_eq, if_pos, if_neg, ite_true, ite_false]
    · rw [show (if z = 0 ∨ z = 1 then (1 : Int) else 0) = 0 from if_neg (by omega)]
      simp (disch := omega) only [letM_s, clP_s, clM_s, l_m89910, l_m999, l_m9, l_m4, l_m3, l_m2, l_m1, l_0, l_1, l_2, l_3, l_4, l_5, l_6, l_7, l_8, l_9, l_10, l_11, l_12, l_13, l_14, l_18, l_31, l_32, l_33, l_43, l_45, l_48, l_57, l_64, l_66, l_80, l_97, l_100, l_109, l_118, l_119, l_200, l_255, l_462, l_500, l_676, l_999, l_1000, l_1001, l_9999, l_10000, l_99999, l_100000, l_447214, l_1000000000, m_m999, m_m9, m_0, m_1, m_2, m_4, m_9, m_255, m_500, m_999, m_9999, m_10000, m_99999, m_200000000, m_4294967295, m_1442695040888963407, m_6364136223846793005, z_add, z_sub, z_mul, z_neg, y_add, y_sub, y_mul, y_neg, z_toL, y_toI, cmp_lt, cmp_gt, cmp_le, cmp_ge, z_lt, z_le, z_eq, y_lt, y_le, y_eq, if_pos, if_neg, ite_true, ite_false]
theorem c_slot (N : Nat) (I : Mem) {z : Int} (h1 : -2147483648 ≤ z) (h2 : z < 2147483648) : f6_isSlot N I (zI z) = some (zI (if z = 0 ∨ z = 1 then 1 else 0), I) := by
  unfold f6_isSlot
  by_cases c1 : z = 0
  · rw [show (if z = 0 ∨ z = 1 then (1 : Int) else 0) = 1 from if_pos (by omega)]
    simp (disch := omega) only [letM_s, clP_s, clM_s, l_m89910, l_m999, l_m9, l_m4, l_m3, l_m2, l_m1, l_0, l_1, l_2, l_3, l_4, l_5, l_6, l_7, l_8, l_9, l_10, l_11, l_12, l_13, l_14, l_18, l_31, l_32, l_33, l_43, l_45, l_48, l_57, l_64, l_66, l_80, l_97, l_100, l_109, l_118, l_119, l_200, l_255, l_462, l_500, l_676, l_999, l_1000, l_1001, l_9999, l_10000, l_99999, l_100000, l_447214, l_1000000000, m_m999, m_m9, m_0, m_1, m_2, m_4, m_9, m_255, m_500, m_999, m_9999, m_10000, m_99999, m_200000000, m_4294967295, m_1442695040888963407, m_6364136223846793005, z_add, z_sub, z_mul, z_neg, y_add, y_sub, y_mul, y_neg, z_toL, y_toI, cmp_lt, cmp_gt, cmp_le, cmp_ge, z_lt, z_le, z_eq, y_lt, y_le, y_eq, if_pos, if_neg, ite_true, ite_false]
  · by_cases c2 : z = 1
    · rw [show (if z = 0 ∨ z = 1 then (1 : Int) else 0) = 1 from if_pos (by omega)]
      simp (disch := omega) only [letM_s, clP_s, clM_s, l_m89910, l_m999, l_m9, l_m4, l_m3, l_m2, l_m1, l_0, l_1, l_2, l_3, l_4, l_5, l_6, l_7, l_8, l_9, l_10, l_11, l_12, l_13, l_14, l_18, l_31, l_32, l_33, l_43, l_45, l_48, l_57, l_64, l_66, l_80, l_97, l_100, l_109, l_118, l_119, l_200, l_255, l_462, l_500, l_676, l_999, l_1000, l_1001, l_9999, l_10000, l_99999, l_100000, l_447214, l_1000000000, m_m999, m_m9, m_0, m_1, m_2, m_4, m_9, m_255, m_500, m_999, m_9999, m_10000, m_99999, m_200000000, m_4294967295, m_1442695040888963407, m_6364136223846793005, z_add, z_sub, z_mul, z_neg, y_add, y_sub, y_mul, y_neg, z_toL, y_toI, cmp_lt, cmp_gt, cmp_le, cmp_ge, z_lt, z_le, z_eq, y_lt, y_le, y_eq, if_pos, if_neg, ite_true, ite_false]
    · rw [show (if z = 0 ∨ z = 1 then (1 : Int) else 0) = 0 from if_neg (by omega)]
      simp (disch := omega) only [letM_s, clP_s, clM_s, l_m89910, l_m999, l_m9, l_m4, l_m3, l_m2, l_m1, l_0, l_1, l_2, l_3, l_4, l_5, l_6, l_7, l_8, l_9, l_10, l_11, l_12, l_13, l_14, l_18, l_31, l_32, l_33, l_43, l_45, l_48, l_57, l_64, l_66, l_80, l_97, l_100, l_109, l_118, l_119, l_200, l_255, l_462, l_500, l_676, l_999, l_1000, l_1001, l_9999, l_10000, l_99999, l_100000, l_447214, l_1000000000, m_m999, m_m9, m_0, m_1, m_2, m_4, m_9, m_255, m_500, m_999, m_9999, m_10000, m_99999, m_200000000, m_4294967295, m_1442695040888963407, m_6364136223846793005, z_add, z_sub, z_mul, z_neg, y_add, y_sub, y_mul, y_neg, z_toL, y_toI, cmp_lt, cmp_gt, cmp_le, cmp_ge, z_lt, z_le, z_eq, y_lt, y_le, y_eq, if_pos, if_neg, ite_true, ite_false]
theorem c_idx (N : Nat) (I : Mem) {z : Int} (h1 : -2147483648 ≤ z) (h2 : z < 2147483648) : f6_isIndex N I (zI z) = some (zI (if 0 ≤ z ∧ z ≤ 999 then 1 else 0), I) := by
  unfold f6_isIndex
  by_cases c1 : z < 0
  · rw [show (if 0 ≤ z ∧ z ≤ 999 then (1 : Int) else 0) = 0 from if_neg (by omega)]
    simp (disch := omega) only [letM_s, clP_s, clM_s, l_m89910, l_m999, l_m9, l_m4, l_m3, l_m2, l_m1, l_0, l_1, l_2, l_3, l_4, l_5, l_6, l_7, l_8, l_9, l_10, l_11, l_12, l_13, l_14, l_18, l_31, l_32, l_33, l_43, l_45, l_48, l_57, l_64, l_66, l_80, l_97, l_100, l_109, l_118, l_119, l_200, l_255, l_462, l_500, l_676, l_999, l_1000, l_1001, l_9999, l_10000, l_99999, l_100000, l_447214, l_1000000000, m_m999, m_m9, m_0, m_1, m_2, m_4, m_9, m_255, m_500, m_999, m_9999, m_10000, m_99999, m_200000000, m_4294967295, m_1442695040888963407, m_6364136223846793005, z_add, z_sub, z_mul, z_neg, y_add, y_sub, y_mul, y_neg, z_toL, y_toI, cmp_lt, cmp_gt, cmp_le, cmp_ge, z_lt, z_le, z_eq, y_lt, y_le, y_eq, if_pos, if_neg, ite_true, ite_false]
  · by_cases c2 : 999 < z
    · rw [show (if 0 ≤ z ∧ z ≤ 999 then (1 : Int) else 0) = 0 from if_neg (by omega)]
      simp (disch := omega) only [letM_s, clP_s, clM_s, l_m89910, l_m999, l_m9, l_m4, l_m3, l_m2, l_m1, l_0, l_1, l_2, l_3, l_4, l_5, l_6, l_7, l_8, l_9, l_10, l_11, l_12, l_13, l_14, l_18, l_31, l_32, l_33, l_43, l_45, l_48, l_57, l_64, l_66, l_80, l_97, l_100, l_109, l_118, l_119, l_200, l_255, l_462, l_500, l_676, l_999, l_1000, l_1001, l_9999, l_10000, l_99999, l_100000, l_447214, l_1000000000, m_m999, m_m9, m_0, m_1, m_2, m_4, m_9, m_255, m_500, m_999, m_9999, m_10000, m_99999, m_200000000, m_4294967295, m_1442695040888963407, m_6364136223846793005, z_add, z_sub, z_mul, z_neg, y_add, y_sub, y_mul, y_neg, z_toL, y_toI, cmp_lt, cmp_gt, cmp_le, cmp_ge, z_lt, z_le, z_eq, y_lt, y_le, y_eq, if_pos, if_neg, ite_true, ite_false]
    · rw [show (if 0 ≤ z ∧ z ≤ 999 then (1 : Int) else 0) = 1 from if_pos (by omega)]
      simp (disch := omega) only [letM_s, clP_s, clM_s, l_m89910, l_m999, l_m9, l_m4, l_m3, l_m2, l_m1, l_0, l_1, l_2, l_3, l_4, l_5, l_6, l_7, l_8, l_9, l_10, l_11, l_12, l_13, l_14, l_18, l_31, l_32, l_33, l_43, l_45, l_48, l_57, l_64, l_66, l_80, l_97, l_100, l_109, l_118, l_119, l_200, l_255, l_462, l_500, l_676, l_999, l_1000, l_1001, l_9999, l_10000, l_99999, l_100000, l_447214, l_1000000000, m_m999, m_m9, m_0, m_1, m_2, m_4, m_9, m_255, m_500, m_999, m_9999, m_10000, m_99999, m_200000000, m_4294967295, m_1442695040888963407, m_6364136223846793005, z_add, z_sub, z_mul, z_neg, y_add, y_sub, y_mul, y_neg, z_toL, y_toI, cmp_lt, cmp_gt, cmp_le, cmp_ge, z_lt, z_le, z_eq, y_lt, y_le, y_eq, if_pos, if_neg, ite_true, ite_false]
theorem c_dist (N : Nat) (I : Mem) {z : Int} (h1 : -2147483648 ≤ z) (h2 : z < 2147483648) : f6_isDistance N I (zI z) = some (zI (if -999 ≤ z ∧ z ≤ 999 then 1 else 0), I) := by
  unfold f6_isDistance
  by_cases c1 : z < -999
  · rw [show (if -999 ≤ z ∧ z ≤ 999 then (1 : Int) else 0) = 0 from if_neg (by omega)]
    simp (disch := omega) only [letM_s, clP_s, clM_s, l_m89910, l_m999, l_m9, l_m4, l_m3, l_m2, l_m1, l_0, l_1, l_2, l_3, l_4, l_5, l_6, l_7, l_8, l_9, l_10, l_11, l_12, l_13, l_14, l_18, l_31, l_32, l_33, l_43, l_45, l_48, l_57, l_64, l_66, l_80, l_97, l_100, l_109, l_118, l_119, l_200, l_255, l_462, l_500, l_676, l_999, l_1000, l_1001, l_9999, l_10000, l_99999, l_100000, l_447214, l_1000000000, m_m999, m_m9, m_0, m_1, m_2, m_4, m_9, m_255, m_500, m_999, m_9999, m_10000, m_99999, m_200000000, m_4294967295, m_1442695040888963407, m_6364136223846793005, z_add, z_sub, z_mul, z_neg, y_add, y_sub, y_mul, y_neg, z_toL, y_toI, cmp_lt, cmp_gt, cmp_le, cmp_ge, z_lt, z_le, z_eq, y_lt, y_le, y_eq, if_pos, if_neg, ite_true, ite_false]
  · by_cases c2 : 999 < z
    · rw [show (if -999 ≤ z ∧ z ≤ 999 then (1 : Int) else 0) = 0 from if_neg (by omega)]
      simp (disch := omega) only [letM_s, clP_s, clM_s, l_m89910, l_m999, l_m9, l_m4, l_m3, l_m2, l_m1, l_0, l_1, l_2, l_3, l_4, l_5, l_6, l_7, l_8, l_9, l_10, l_11, l_12, l_13, l_14, l_18, l_31, l_32, l_33, l_43, l_45, l_48, l_57, l_64, l_66, l_80, l_97, l_100, l_109, l_118, l_119, l_200, l_255, l_462, l_500, l_676, l_999, l_1000, l_1001, l_9999, l_10000, l_99999, l_100000, l_447214, l_1000000000, m_m999, m_m9, m_0, m_1, m_2, m_4, m_9, m_255, m_500, m_999, m_9999, m_10000, m_99999, m_200000000, m_4294967295, m_1442695040888963407, m_6364136223846793005, z_add, z_sub, z_mul, z_neg, y_add, y_sub, y_mul, y_neg, z_toL, y_toI, cmp_lt, cmp_gt, cmp_le, cmp_ge, z_lt, z_le, z_eq, y_lt, y_le, y_eq, if_pos, if_neg, ite_true, ite_false]
    · rw [show (if -999 ≤ z ∧ z ≤ 999 then (1 : Int) else 0) = 1 from if_pos (by omega)]
      simp (disch := omega) only [letM_s, clP_s, clM_s, l_m89910, l_m999, l_m9, l_m4, l_m3, l_m2, l_m1, l_0, l_1, l_2, l_3, l_4, l_5, l_6, l_7, l_8, l_9, l_10, l_11, l_12, l_13, l_14, l_18, l_31, l_32, l_33, l_43, l_45, l_48, l_57, l_64, l_66, l_80, l_97, l_100, l_109, l_118, l_119, l_200, l_255, l_462, l_500, l_676, l_999, l_1000, l_1001, l_9999, l_10000, l_99999, l_100000, l_447214, l_1000000000, m_m999, m_m9, m_0, m_1, m_2, m_4, m_9, m_255, m_500, m_999, m_9999, m_10000, m_99999, m_200000000, m_4294967295, m_1442695040888963407, m_6364136223846793005, z_add, z_sub, z_mul, z_neg, y_add, y_sub, y_mul, y_neg, z_toL, y_toI, cmp_lt, cmp_gt, cmp_le, cmp_ge, z_lt, z_le, z_eq, y_lt, y_le, y_eq, if_pos, if_neg, ite_true, ite_false]
theorem c_ramp {N : Nat} {I : Mem} {k : Nat} {g : GS} (hN : 8100 ≤ N) (hG : OkG g) (h : CInv I k g) : ∃ I1, f6_presentRamp N I k = some (k + 79, I1) ∧ RampR I1 (k+79) (sA (sG g)) (sV (sG g)) ∧ CInv I1 k g ∧ ∀ x, x ≠ k + 79 → x ≠ k + 80 → I1 x = I x := by
  have hb := hG.S.b
  have hR := h.R
  obtain ⟨I1, p1, p2, p3⟩ := e2_prepare (N := N) (a := sA (sG g)) (v := sV (sG g)) (by omega) hb.1 hb.2.1 hb.2.2.1 hb.2.2.2.1 hR.1 hR.2
  refine ⟨I1, ?_, p2, h.scr (fun x _ b c => p3 x b c) (p2.I hb.2.1 hb.2.2.2.1), p3⟩
  unfold f6_presentRamp
  rw [h.now.a, h.now.v]
  simp only [p1, clM_s]
theorem tag1 {k : Nat} (hk : k = 0 ∨ k = 81) : tag (k + 79) = 1 := by
  rcases hk with rfl | rfl <;> decide +kernel
theorem c_pos {N : Nat} {I : Mem} {k : Nat} {g : GS} {z : Int} (h : CInv I k g) (h1 : -2147483648 ≤ z) (h2 : z < 2147483648) : f6_position N I k (zI z) = some ((spPos g z).1, I) := by
  have e1 := c_axis N I h1 h2
  have hx := h.now.x
  have hy := h.now.y
  unfold f6_position
  show _ = some (if z = 0 ∨ z = 1 then shownX (sG g) z else zI (-1), I)
  unfold shownX
  by_cases c : z = 0 ∨ z = 1
  · rw [if_pos c] at e1 ⊢
    unfold f5_shownPosition
    by_cases c1 : z = 0
    · rw [if_pos c1]
      simp (disch := omega) only [e1, hx, letM_s, clP_s, clM_s, l_m89910, l_m999, l_m9, l_m4, l_m3, l_m2, l_m1, l_0, l_1, l_2, l_3, l_4, l_5, l_6, l_7, l_8, l_9, l_10, l_11, l_12, l_13, l_14, l_18, l_31, l_32, l_33, l_43, l_45, l_48, l_57, l_64, l_66, l_80, l_97, l_100, l_109, l_118, l_119, l_200, l_255, l_462, l_500, l_676, l_999, l_1000, l_1001, l_9999, l_10000, l_99999, l_100000, l_447214, l_1000000000, m_m999, m_m9, m_0, m_1, m_2, m_4, m_9, m_255, m_500, m_999, m_9999, m_10000, m_99999, m_200000000, m_4294967295, m_1442695040888963407, m_6364136223846793005, z_add, z_sub, z_mul, z_neg, y_add, y_sub, y_mul, y_neg, z_toL, y_toI, cmp_lt, cmp_gt, cmp_le, cmp_ge, z_lt, z_le, z_eq, y_lt, y_le, y_eq, if_pos, if_neg, ite_true, ite_false]
    · rw [if_neg c1]
      simp (disch := omega) only [e1, hy, letM_s, clP_s, clM_s, l_m89910, l_m999, l_m9, l_m4, l_m3, l_m2, l_m1, l_0, l_1, l_2, l_3, l_4, l_5, l_6, l_7, l_8, l_9, l_10, l_11, l_12, l_13, l_14, l_18, l_31, l_32, l_33, l_43, l_45, l_48, l_57, l_64, l_66, l_80, l_97, l_100, l_109, l_118, l_119, l_200, l_255, l_462, l_500, l_676, l_999, l_1000, l_1001, l_9999, l_10000, l_99999, l_100000, l_447214, l_1000000000, m_m999, m_m9, m_0, m_1, m_2, m_4, m_9, m_255, m_500, m_999, m_9999, m_10000, m_99999, m_200000000, m_4294967295, m_1442695040888963407, m_6364136223846793005, z_add, z_sub, z_mul, z_neg, y_add, y_sub, y_mul, y_neg, z_toL, y_toI, cmp_lt, cmp_gt, cmp_le, cmp_ge, z_lt, z_le, z_eq, y_lt, y_le, y_eq, if_pos, if_neg, ite_true, ite_false]
  · rw [if_neg c] at e1 ⊢
    simp (disch := omega) only [e1, letM_s, clP_s, clM_s, l_m89910, l_m999, l_m9, l_m4, l_m3, l_m2, l_m1, l_0, l_1, l_2, l_3, l_4, l_5, l_6, l_7, l_8, l_9, l_10, l_11, l_12, l_13, l_14, l_18, l_31, l_32, l_33, l_43, l_45, l_48, l_57, l_64, l_66, l_80, l_97, l_100, l_109, l_118, l_119, l_200, l_255, l_462, l_500, l_676, l_999, l_1000, l_1001, l_9999, l_10000, l_99999, l_100000, l_447214, l_1000000000, m_m999, m_m9, m_0, m_1, m_2, m_4, m_9, m_255, m_500, m_999, m_9999, m_10000, m_99999, m_200000000, m_4294967295, m_1442695040888963407, m_6364136223846793005, z_add, z_sub, z_mul, z_neg, y_add, y_sub, y_mul, y_neg, z_toL, y_toI, cmp_lt, cmp_gt, cmp_le, cmp_ge, z_lt, z_le, z_eq, y_lt, y_le, y_eq, if_pos, if_neg, ite_true, ite_false]
theorem c_clock {N : Nat} {I : Mem} {k : Nat} {g : GS} (h : CInv I k g) : f6_clock N I k = some (sT (sG g), I) := by
  unfold f6_clock
  rw [h.now.t]
theorem c_queue {N : Nat} {I : Mem} {k : Nat} {g : GS} (h : CInv I k g) : f6_queueLength N I k = some (zI (nS (sG g) : Int), I) := by
  unfold f6_queueLength
  rw [h.now.n]
theorem c_rampI {N : Nat} {I : Mem} {k : Nat} {g : GS} (hG : OkG g) (h : CInv I k g) : f6_rampIndex N I k = some ((spRamp g).1, I) := by
  have e1 := e5_isMoving N h.now.m (m_bd hG.S).1
  unfold f6_rampIndex
  show _ = some (zI (if sM (sG g) = 0 then -9 else (sI (sG g) : Int)), I)
  by_cases c : sM (sG g) = 0
  · rw [if_pos c] at e1 ⊢
    simp (disch := omega) only [e1, letM_s, clP_s, clM_s, l_m89910, l_m999, l_m9, l_m4, l_m3, l_m2, l_m1, l_0, l_1, l_2, l_3, l_4, l_5, l_6, l_7, l_8, l_9, l_10, l_11, l_12, l_13, l_14, l_18, l_31, l_32, l_33, l_43, l_45, l_48, l_57, l_64, l_66, l_80, l_97, l_100, l_109, l_118, l_119, l_200, l_255, l_462, l_500, l_676, l_999, l_1000, l_1001, l_9999, l_10000, l_99999, l_100000, l_447214, l_1000000000, m_m999, m_m9, m_0, m_1, m_2, m_4, m_9, m_255, m_500, m_999, m_9999, m_10000, m_99999, m_200000000, m_4294967295, m_1442695040888963407, m_6364136223846793005, z_add, z_sub, z_mul, z_neg, y_add, y_sub, y_mul, y_neg, z_toL, y_toI, cmp_lt, cmp_gt, cmp_le, cmp_ge, z_lt, z_le, z_eq, y_lt, y_le, y_eq, if_pos, if_neg, ite_true, ite_false]
  · have hi := h.now.i c
    rw [if_neg c] at e1 ⊢
    simp (disch := omega) only [e1, hi, letM_s, clP_s, clM_s, l_m89910, l_m999, l_m9, l_m4, l_m3, l_m2, l_m1, l_0, l_1, l_2, l_3, l_4, l_5, l_6, l_7, l_8, l_9, l_10, l_11, l_12, l_13, l_14, l_18, l_31, l_32, l_33, l_43, l_45, l_48, l_57, l_64, l_66, l_80, l_97, l_100, l_109, l_118, l_119, l_200, l_255, l_462, l_500, l_676, l_999, l_1000, l_1001, l_9999, l_10000, l_99999, l_100000, l_447214, l_1000000000, m_m999, m_m9, m_0, m_1, m_2, m_4, m_9, m_255, m_500, m_999, m_9999, m_10000, m_99999, m_200000000, m_4294967295, m_1442695040888963407, m_6364136223846793005, z_add, z_sub, z_mul, z_neg, y_add, y_sub, y_mul, y_neg, z_toL, y_toI, cmp_lt, cmp_gt, cmp_le, cmp_ge, z_lt, z_le, z_eq, y_lt, y_le, y_eq, if_pos, if_neg, ite_true, ite_false]
theorem c_top {N : Nat} {I : Mem} {k : Nat} {g : GS} (hN : 8100 ≤ N) (hk : k = 0 ∨ k = 81) (hG : OkG g) (h : CInv I k g) : ∃ I1, f6_topIndex N I k = some ((spTop g).1, I1) ∧ CInv I1 k g ∧ ∀ x, (x < k ∨ k + 81 ≤ x) → I1 x = I x := by
  obtain ⟨I1, p1, p2, p3, p4⟩ := c_ramp hN hG h
  have ht := tag1 hk
  refine ⟨I1, ?_, p3, fun x hx => p4 x (by omega) (by omega)⟩
  unfold f6_topIndex
  simp only [p1, clP_s, ht, not_true, if_false, p2.2.2.2.1]
  rfl
theorem c_int {N : Nat} {I : Mem} {k : Nat} {g : GS} {z : Int} (hN : 8100 ≤ N) (hk : k = 0 ∨ k = 81) (hG : OkG g) (h : CInv I k g) (h1 : -2147483648 ≤ z) (h2 : z < 2147483648) : ∃ I1, f6_interval N I k (zI z) = some ((spInt g z).1, I1) ∧ CInv I1 k g ∧ ∀ x, (x < k ∨ k + 81 ≤ x) → I1 x = I x := by
  have hb := hG.S.b
  have e1 := c_idx N I h1 h2
  show ∃ I1, _ = some (zI (if 0 ≤ z ∧ z ≤ 999 then (itv (sA (sG g)) (cr (sV (sG g))) z.toNat : Int) else -2), I1) ∧ _
  unfold f6_interval
  by_cases c : 0 ≤ z ∧ z ≤ 999
  · rw [if_pos c] at e1 ⊢
    obtain ⟨I1, p1, p2, p3, p4⟩ := c_ramp hN hG h
    have ht := tag1 hk
    have e2 := e2_intervalOf N hb.1 hb.2.2.1 hb.2.2.2.1 p2 (n := z.toNat) (by omega)
    rw [show (z.toNat : Int) = z by omega] at e2
    refine ⟨I1, ?_, p3, fun x hx => p4 x (by omega) (by omega)⟩
    simp (disch := omega) only [e1, clP_s, l_0, z_eq, if_neg, p1, ht, not_true, if_false, e2]
  · rw [if_neg c] at e1 ⊢
    refine ⟨I, ?_, h, fun _ _ => rfl⟩
    simp (disch := omega) only [e1, letM_s, clP_s, clM_s, l_m89910, l_m999, l_m9, l_m4, l_m3, l_m2, l_m1, l_0, l_1, l_2, l_3, l_4, l_5, l_6, l_7, l_8, l_9, l_10, l_11, l_12, l_13, l_14, l_18, l_31, l_32, l_33, l_43, l_45, l_48, l_57, l_64, l_66, l_80, l_97, l_100, l_109, l_118, l_119, l_200, l_255, l_462, l_500, l_676, l_999, l_1000, l_1001, l_9999, l_10000, l_99999, l_100000, l_447214, l_1000000000, m_m999, m_m9, m_0, m_1, m_2, m_4, m_9, m_255, m_500, m_999, m_9999, m_10000, m_99999, m_200000000, m_4294967295, m_1442695040888963407, m_6364136223846793005, z_add, z_sub, z_mul, z_neg, y_add, y_sub, y_mul, y_neg, z_toL, y_toI, cmp_lt, cmp_gt, cmp_le, cmp_ge, z_lt, z_le, z_eq, y_lt, y_le, y_eq, if_pos, if_neg, ite_true, ite_false]
theorem c_setA {N : Nat} {I : Mem} {k : Nat} {g : GS} {z : Int} (hN : 8100 ≤ N) (hk : k = 0 ∨ k = 81) (hG : OkG g) (h : CInv I k g) (h1 : -2147483648 ≤ z) (h2 : z < 2147483648) : ∃ I1, f6_setAcceleration N I k (zI z) = some ((spSetA g z).1, I1) ∧ CInv I1 k (spSetA g z).2 ∧ ∀ x, (x < k ∨ k + 81 ≤ x) → I1 x = I x := by
  have e1 := c_bit N I (w := 999) h1 h2 (by omega) (by omega)
  have e2 := e5_isMoving N h.now.m (m_bd hG.S).1
  unfold f6_setAcceleration spSetA
  by_cases c : 1 ≤ z ∧ z ≤ 999
  · rw [if_pos c] at e1 ⊢
    by_cases c2 : sM (sG g) = 0
    · rw [if_pos c2] at e2
      rw [if_neg (fun q => q c2)]
      obtain ⟨I2, p1, p2, p3⟩ := e0_remember (N := N) (by omega) hk hG h
      have hS := p2.now
      rw [sG_rm] at hS
      have hS2 := hS.setA (a := z.toNat)
      rw [show (z.toNat : Int) = z by omega] at hS2
      refine ⟨st I2 (k+3) 0 (zI z), ?_, p2.act (Fs.st (by omega) (by omega)) hS2, fun x hx => by rw [st_k (by omega), p3 x hx]⟩
      simp (disch := omega) only [e1, e2, p1, hS.a, letM_s, clP_s, clM_s, l_m89910, l_m999, l_m9, l_m4, l_m3, l_m2, l_m1, l_0, l_1, l_2, l_3, l_4, l_5, l_6, l_7, l_8, l_9, l_10, l_11, l_12, l_13, l_14, l_18, l_31, l_32, l_33, l_43, l_45, l_48, l_57, l_64, l_66, l_80, l_97, l_100, l_109, l_118, l_119, l_200, l_255, l_462, l_500, l_676, l_999, l_1000, l_1001, l_9999, l_10000, l_99999, l_100000, l_447214, l_1000000000, m_m999, m_m9, m_0, m_1, m_2, m_4, m_9, m_255, m_500, m_999, m_9999, m_10000, m_99999, m_200000000, m_4294967295, m_1442695040888963407, m_6364136223846793005, z_add, z_sub, z_mul, z_neg, y_add, y_sub, y_mul, y_neg, z_toL, y_toI, cmp_lt, cmp_gt, cmp_le, cmp_ge, z_lt, z_le, z_eq, y_lt, y_le, y_eq, if_pos, if_neg, ite_true, ite_false]
    · rw [if_neg c2] at e2
      rw [if_pos c2]
      refine ⟨I, ?_, h, fun _ _ => rfl⟩
      simp (disch := omega) only [e1, e2, letM_s, clP_s, clM_s, l_m89910, l_m999, l_m9, l_m4, l_m3, l_m2, l_m1, l_0, l_1, l_2, l_3, l_4, l_5, l_6, l_7, l_8, l_9, l_10, l_11, l_12, l_13, l_14, l_18, l_31, l_32, l_33, l_43, l_45, l_48, l_57, l_64, l_66, l_80, l_97, l_100, l_109, l_118, l_119, l_200, l_255, l_462, l_500, l_676, l_999, l_1000, l_1001, l_9999, l_10000, l_99999, l_100000, l_447214, l_1000000000, m_m999, m_m9, m_0, m_1, m_2, m_4, m_9, m_255, m_500, m_999, m_9999, m_10000, m_99999, m_200000000, m_4294967295, m_1442695040888963407, m_6364136223846793005, z_add, z_sub, z_mul, z_neg, y_add, y_sub, y_mul, y_neg, z_toL, y_toI, cmp_lt, cmp_gt, cmp_le, cmp_ge, z_lt, z_le, z_eq, y_lt, y_le, y_eq, if_pos, if_neg, ite_true, ite_false]
  · rw [if_neg c] at e1 ⊢
    refine ⟨I, ?_, h, fun _ _ => rfl⟩
    simp (disch := omega) only [e1, letM_s, clP_s, clM_s, l_m89910, l_m999, l_m9, l_m4, l_m3, l_m2, l_m1, l_0, l_1, l_2, l_3, l_4, l_5, l_6, l_7, l_8, l_9, l_10, l_11, l_12, l_13, l_14, l_18, l_31, l_32, l_33, l_43, l_45, l_48, l_57, l_64, l_66, l_80, l_97, l_100, l_109, l_118, l_119, l_200, l_255, l_462, l_500, l_676, l_999, l_1000, l_1001, l_9999, l_10000, l_99999, l_100000, l_447214, l_1000000000, m_m999, m_m9, m_0, m_1, m_2, m_4, m_9, m_255, m_500, m_999, m_9999, m_10000, m_99999, m_200000000, m_4294967295, m_1442695040888963407, m_6364136223846793005, z_add, z_sub, z_mul, z_neg, y_add, y_sub, y_mul, y_neg, z_toL, y_toI, cmp_lt, cmp_gt, cmp_le, cmp_ge, z_lt, z_le, z_eq, y_lt, y_le, y_eq, if_pos, if_neg, ite_true, ite_false]
theorem c_setV {N : Nat} {I : Mem} {k : Nat} {g : GS} {z : Int} (hN : 8100 ≤ N) (hk : k = 0 ∨ k = 81) (hG : OkG g) (h : CInv I k g) (h1 : -2147483648 ≤ z) (h2 : z < 2147483648) : ∃ I1, f6_setSpeedLimit N I k (zI z) = some ((spSetV g z).1, I1) ∧ CInv I1 k (spSetV g z).2 ∧ ∀ x, (x < k ∨ k + 81 ≤ x) → I1 x = I x := by
  have e1 := c_bit N I (w := 999) h1 h2 (by omega) (by omega)
  unfold f6_setSpeedLimit spSetV
  by_cases c : 1 ≤ z ∧ z ≤ 999
  · rw [if_pos c] at e1 ⊢
    obtain ⟨I2, p1, p2, p3⟩ := e0_remember (N := N) (by omega) hk hG h
    have hS := p2.now
    rw [sG_rm] at hS
    have hS2 := hS.setV (a := z.toNat)
    rw [show (z.toNat : Int) = z by omega] at hS2
    refine ⟨st I2 (k+3) 1 (zI z), ?_, p2.act (Fs.st (by omega) (by omega)) hS2, fun x hx => by rw [st_k (by omega), p3 x hx]⟩
    simp (disch := omega) only [e1, p1, hS.v, letM_s, clP_s, clM_s, l_m89910, l_m999, l_m9, l_m4, l_m3, l_m2, l_m1, l_0, l_1, l_2, l_3, l_4, l_5, l_6, l_7, l_8, l_9, l_10, l_11, l_12, l_13, l_14, l_18, l_31, l_32, l_33, l_43, l_45, l_48, l_57, l_64, l_66, l_80, l_97, l_100, l_109, l_118, l_119, l_200, l_255, l_462, l_500, l_676, l_999, l_1000, l_1001, l_9999, l_10000, l_99999, l_100000, l_447214, l_1000000000, m_m999, m_m9, m_0, m_1, m_2, m_4, m_9, m_255, m_500, m_999, m_9999, m_10000, m_99999, m_200000000, m_4294967295, m_1442695040888963407, m_6364136223846793005, z_add, z_sub, z_mul, z_neg, y_add, y_sub, y_mul, y_neg, z_toL, y_toI, cmp_lt, cmp_gt, cmp_le, cmp_ge, z_lt, z_le, z_eq, y_lt, y_le, y_eq, if_pos, if_neg, ite_true, ite_false]
  · rw [if_neg c] at e1 ⊢
    refine ⟨I, ?_, h, fun _ _ => rfl⟩
    simp (disch := omega) only [e1, letM_s, clP_s, clM_s, l_m89910, l_m999, l_m9, l_m4, l_m3, l_m2, l_m1, l_0, l_1, l_2, l_3, l_4, l_5, l_6, l_7, l_8, l_9, l_10, l_11, l_12, l_13, l_14, l_18, l_31, l_32, l_33, l_43, l_45, l_48, l_57, l_64, l_66, l_80, l_97, l_100, l_109, l_118, l_119, l_200, l_255, l_462, l_500, l_676, l_999, l_1000, l_1001, l_9999, l_10000, l_99999, l_100000, l_447214, l_1000000000, m_m999, m_m9, m_0, m_1, m_2, m_4, m_9, m_255, m_500, m_999, m_9999, m_10000, m_99999, m_200000000, m_4294967295, m_1442695040888963407, m_6364136223846793005, z_add, z_sub, z_mul, z_neg, y_add, y_sub, y_mul, y_neg, z_toL, y_toI, cmp_lt, cmp_gt, cmp_le, cmp_ge, z_lt, z_le, z_eq, y_lt, y_le, y_eq, if_pos, if_neg, ite_true, ite_false]
