/-! THE CLASS' STATES -/
def StR (I : Mem) (k : Nat) : Sg → Prop
  | (a, v, x, y, t, n, d, m, i, l) => I k 0 = zI (a : Int) ∧ I k 1 = zI (v : Int) ∧ I k 2 = x ∧ I k 3 = y ∧ I k 4 = t ∧ I k 5 = zI (n : Int) ∧ I k 9 = zI (m : Int) ∧ (0 < m → I k 10 = zI (l : Int) ∧ I k 11 = zI (i : Int)) ∧ ∀ j, j < n → I (k+1) j = zI (d j).1 ∧ I (k+2) j = zI (d j).2.1 ∧ I (k+3) j = zI (d j).2.2
theorem StR.fr {I I1 : Mem} {k : Nat} {s : Sg} (h : StR I k s) (e : ∀ x, k ≤ x → x ≤ k + 3 → I1 x = I x) : StR I1 k s := by
  obtain ⟨a, v, x, y, t, n, d, m, i, l⟩ := s
  have e0 := e k (Nat.le_refl _) (by omega)
  have e1 := e (k+1) (by omega) (by omega)
  have e2 := e (k+2) (by omega) (by omega)
  have e3 := e (k+3) (by omega) (by omega)
  unfold StR at h ⊢
  rw [e0, e1, e2, e3]
  exact h
theorem StR.n {I : Mem} {k : Nat} {s : Sg} (h : StR I k s) : I k 5 = zI (nS s : Int) := by
  obtain ⟨a, v, x, y, t, n, d, m, i, l⟩ := s
  exact h.2.2.2.2.2.1
theorem StR.m {I : Mem} {k : Nat} {s : Sg} (h : StR I k s) : I k 9 = zI (sM s : Int) := by
  obtain ⟨a, v, x, y, t, n, d, m, i, l⟩ := s
  exact h.2.2.2.2.2.2.1
theorem m_bd {s : Sg} (hO : OkS s) : sM s ≤ 999 ∧ sI s ≤ 999 ∧ sL s ≤ 999 := by
  obtain ⟨a, v, x, y, t, n, d, m, i, l⟩ := s
  obtain ⟨o1, o2, o3, o4, o5, o6, o7, o8⟩ := hO
  show m ≤ 999 ∧ i ≤ 999 ∧ l ≤ 999
  rcases Nat.eq_zero_or_pos m with q | q
  · have := o7 q; omega
  · obtain ⟨b1, b2, b3, b4, b5⟩ := o8 q
    have := lenI_pos (o6 0 b1) b2
    omega
theorem e5_hasItem (N : Nat) {I : Mem} {k : Nat} {n : Nat} {i : Int} (hn : I k 5 = zI (n : Int)) (h8 : n ≤ 8) (h1 : -2147483648 ≤ i) (h2 : i < 2147483648) : f5_hasItem N I k (zI i) = some (zI (if 0 ≤ i ∧ i < n then 1 else 0), I) := by
  unfold f5_hasItem
  by_cases c : 0 ≤ i ∧ i < n
  · rw [if_pos c]
    simp (disch := omega) only [hn, letM_s, clP_s, clM_s, l_m89910, l_m999, l_m9, l_m4, l_m3, l_m2, l_m1, l_0, l_1, l_2, l_3, l_4, l_5, l_6, l_7, l_8, l_9, l_10, l_11, l_12, l_13, l_14, l_18, l_31, l_32, l_33, l_43, l_45, l_48, l_57, l_64, l_66, l_80, l_97, l_100, l_109, l_118, l_119, l_200, l_255, l_462, l_500, l_676, l_999, l_1000, l_1001, l_9999, l_10000, l_99999, l_100000, l_447214, l_1000000000, m_m999, m_m9, m_0, m_1, m_2, m_4, m_9, m_255, m_500, m_999, m_9999, m_10000, m_99999, m_200000000, m_4294967295, m_1442695040888963407, m_6364136223846793005, z_add, z_sub, z_mul, z_neg, y_add, y_sub, y_mul, y_neg, z_toL, y_toI, cmp_lt, cmp_gt, cmp_le, cmp_ge, z_lt, z_le, z_eq, y_lt, y_le, y_eq, if_pos, if_neg, ite_true, ite_false]
  · rw [if_neg c]
    by_cases c1 : i < 0
    · simp (disch := omega) only [hn, letM_s, clP_s, clM_s, l_m89910, l_m999, l_m9, l_m4, l_m3, l_m2, l_m1, l_0, l_1, l_2, l_3, l_4, l_5, l_6, l_7, l_8, l_9, l_10, l_11, l_12, l_13, l_14, l_18, l_31, l_32, l_33, l_43, l_45, l_48, l_57, l_64, l_66, l_80, l_97, l_100, l_109, l_118, l_119, l_200, l_255, l_462, l_500, l_676, l_999, l_1000, l_1001, l_9999, l_10000, l_99999, l_100000, l_447214, l_1000000000, m_m999, m_m9, m_0, m_1, m_2, m_4, m_9, m_255, m_500, m_999, m_9999, m_10000, m_99999, m_200000000, m_4294967295, m_1442695040888963407, m_6364136223846793005, z_add, z_sub, z_mul, z_neg, y_add, y_sub, y_mul, y_neg, z_toL, y_toI, cmp_lt, cmp_gt, cmp_le, cmp_ge, z_lt, z_le, z_eq, y_lt, y_le, y_eq, if_pos, if_neg, ite_true, ite_false]
    · simp (disch := omega) only [hn, letM_s, clP_s, clM_s, l_m89910, l_m999, l_m9, l_m4, l_m3, l_m2, l_m1, l_0, l_1, l_2, l_3, l_4, l_5, l_6, l_7, l_8, l_9, l_10, l_11, l_12, l_13, l_14, l_18, l_31, l_32, l_33, l_43, l_45, l_48, l_57, l_64, l_66, l_80, l_97, l_100, l_109, l_118, l_119, l_200, l_255, l_462, l_500, l_676, l_999, l_1000, l_1001, l_9999, l_10000, l_99999, l_100000, l_447214, l_1000000000, m_m999, m_m9, m_0, m_1, m_2, m_4, m_9, m_255, m_500, m_999, m_9999, m_10000, m_99999, m_200000000, m_4294967295, m_1442695040888963407, m_6364136223846793005, z_add, z_sub, z_mul, z_neg, y_add, y_sub, y_mul, y_neg, z_toL, y_toI, cmp_lt, cmp_gt, cmp_le, cmp_ge, z_lt, z_le, z_eq, y_lt, y_le, y_eq, if_pos, if_neg, ite_true, ite_false]
theorem e5_isWait (N : Nat) {I : Mem} {k n j : Nat} {w : Int} (hn : I k 5 = zI (n : Int)) (h8 : n ≤ 8) (hj : j < n) (hw : I (k+3) j = zI w) (w1 : 0 ≤ w) (w2 : w ≤ 9999) : f5_isWait N I k (zI (j : Int)) = some (zI (if 0 < w then 1 else 0), I) := by
  have e1 := e5_hasItem N (i := (j : Int)) hn h8 (by omega) (by omega)
  have n1 : (zI (j : Int)).toNatClampNeg = j := by rw [z_nat (by omega) (by omega)]; rfl
  unfold f5_isWait
  by_cases c : 0 < w
  · rw [if_pos c]
    simp (disch := omega) only [e1, n1, hw, letM_s, clP_s, clM_s, l_m89910, l_m999, l_m9, l_m4, l_m3, l_m2, l_m1, l_0, l_1, l_2, l_3, l_4, l_5, l_6, l_7, l_8, l_9, l_10, l_11, l_12, l_13, l_14, l_18, l_31, l_32, l_33, l_43, l_45, l_48, l_57, l_64, l_66, l_80, l_97, l_100, l_109, l_118, l_119, l_200, l_255, l_462, l_500, l_676, l_999, l_1000, l_1001, l_9999, l_10000, l_99999, l_100000, l_447214, l_1000000000, m_m999, m_m9, m_0, m_1, m_2, m_4, m_9, m_255, m_500, m_999, m_9999, m_10000, m_99999, m_200000000, m_4294967295, m_1442695040888963407, m_6364136223846793005, z_add, z_sub, z_mul, z_neg, y_add, y_sub, y_mul, y_neg, z_toL, y_toI, cmp_lt, cmp_gt, cmp_le, cmp_ge, z_lt, z_le, z_eq, y_lt, y_le, y_eq, if_pos, if_neg, ite_true, ite_false]
  · rw [if_neg c]
    simp (disch := omega) only [e1, n1, hw, letM_s, clP_s, clM_s, l_m89910, l_m999, l_m9, l_m4, l_m3, l_m2, l_m1, l_0, l_1, l_2, l_3, l_4, l_5, l_6, l_7, l_8, l_9, l_10, l_11, l_12, l_13, l_14, l_18, l_31, l_32, l_33, l_43, l_45, l_48, l_57, l_64, l_66, l_80, l_97, l_100, l_109, l_118, l_119, l_200, l_255, l_462, l_500, l_676, l_999, l_1000, l_1001, l_9999, l_10000, l_99999, l_100000, l_447214, l_1000000000, m_m999, m_m9, m_0, m_1, m_2, m_4, m_9, m_255, m_500, m_999, m_9999, m_10000, m_99999, m_200000000, m_4294967295, m_1442695040888963407, m_6364136223846793005, z_add, z_sub, z_mul, z_neg, y_add, y_sub, y_mul, y_neg, z_toL, y_toI, cmp_lt, cmp_gt, cmp_le, cmp_ge, z_lt, z_le, z_eq, y_lt, y_le, y_eq, if_pos, if_neg, ite_true, ite_false]
theorem e5_lengthOf (N : Nat) {I : Mem} {k n j : Nat} {d : Itm} (hn : I k 5 = zI (n : Int)) (h8 : n ≤ 8) (hj : j < n) (hd : ItOk d) (h1 : I (k+1) j = zI d.1) (h2 : I (k+2) j = zI d.2.1) : f5_lengthOf N I k (zI (j : Int)) = some (zI (lenI d : Int), I) := by
  obtain ⟨b1, b2, b3, b4, -⟩ := hd
  have e1 := e5_hasItem N (i := (j : Int)) hn h8 (by omega) (by omega)
  have n1 : (zI (j : Int)).toNatClampNeg = j := by rw [z_nat (by omega) (by omega)]; rfl
  have e2 := eJ_abs N I (a := d.1) (by omega) (by omega)
  have e3 := eJ_abs N I (a := d.2.1) (by omega) (by omega)
  have e4 := eJ_max N I (a := (d.1.natAbs : Int)) (b := (d.2.1.natAbs : Int)) (by omega) (by omega) (by omega) (by omega)
  rw [show max (d.1.natAbs : Int) (d.2.1.natAbs : Int) = (lenI d : Int) by unfold lenI; omega] at e4
  unfold f5_lengthOf
  simp (disch := omega) only [e1, n1, h1, h2, e2, e3, e4, letM_s, clP_s, clM_s, l_m89910, l_m999, l_m9, l_m4, l_m3, l_m2, l_m1, l_0, l_1, l_2, l_3, l_4, l_5, l_6, l_7, l_8, l_9, l_10, l_11, l_12, l_13, l_14, l_18, l_31, l_32, l_33, l_43, l_45, l_48, l_57, l_64, l_66, l_80, l_97, l_100, l_109, l_118, l_119, l_200, l_255, l_462, l_500, l_676, l_999, l_1000, l_1001, l_9999, l_10000, l_99999, l_100000, l_447214, l_1000000000, m_m999, m_m9, m_0, m_1, m_2, m_4, m_9, m_255, m_500, m_999, m_9999, m_10000, m_99999, m_200000000, m_4294967295, m_1442695040888963407, m_6364136223846793005, z_add, z_sub, z_mul, z_neg, y_add, y_sub, y_mul, y_neg, z_toL, y_toI, cmp_lt, cmp_gt, cmp_le, cmp_ge, z_lt, z_le, z_eq, y_lt, y_le, y_eq, if_pos, if_neg, ite_true, ite_false]
theorem e5_isMoving (N : Nat) {I : Mem} {k m : Nat} (h : I k 9 = zI (m : Int)) (hm : m ≤ 999) : f5_isMoving N I k = some (zI (if m = 0 then 0 else 1), I) := by
  unfold f5_isMoving
  by_cases c : m = 0
  · rw [if_pos c]
    simp (disch := omega) only [h, letM_s, clP_s, clM_s, l_m89910, l_m999, l_m9, l_m4, l_m3, l_m2, l_m1, l_0, l_1, l_2, l_3, l_4, l_5, l_6, l_7, l_8, l_9, l_10, l_11, l_12, l_13, l_14, l_18, l_31, l_32, l_33, l_43, l_45, l_48, l_57, l_64, l_66, l_80, l_97, l_100, l_109, l_118, l_119, l_200, l_255, l_462, l_500, l_676, l_999, l_1000, l_1001, l_9999, l_10000, l_99999, l_100000, l_447214, l_1000000000, m_m999, m_m9, m_0, m_1, m_2, m_4, m_9, m_255, m_500, m_999, m_9999, m_10000, m_99999, m_200000000, m_4294967295, m_1442695040888963407, m_6364136223846793005, z_add, z_sub, z_mul, z_neg, y_add, y_sub, y_mul, y_neg, z_toL, y_toI, cmp_lt, cmp_gt, cmp_le, cmp_ge, z_lt, z_le, z_eq, y_lt, y_le, y_eq, if_pos, if_neg, ite_true, ite_false]
  · rw [if_neg c]
    simp (disch := omega) only [h, letM_s, clP_s, clM_s, l_m89910, l_m999, l_m9, l_m4, l_m3, l_m2, l_m1, l_0, l_1, l_2, l_3, l_4, l_5, l_6, l_7, l_8, l_9, l_10, l_11, l_12, l_13, l_14, l_18, l_31, l_32, l_33, l_43, l_45, l_48, l_57, l_64, l_66, l_80, l_97, l_100, l_109, l_118, l_119, l_200, l_255, l_462, l_500, l_676, l_999, l_1000, l_1001, l_9999, l_10000, l_99999, l_100000, l_447214, l_1000000000, m_m999, m_m9, m_0, m_1, m_2, m_4, m_9, m_255, m_500, m_999, m_9999, m_10000, m_99999, m_200000000, m_4294967295, m_1442695040888963407, m_6364136223846793005, z_add, z_sub, z_mul, z_neg, y_add, y_sub, y_mul, y_neg, z_toL, y_toI, cmp_lt, cmp_gt, cmp_le, cmp_ge, z_lt, z_le, z_eq, y_lt, y_le, y_eq, if_pos, if_neg, ite_true, ite_false]
theorem e5_isFull (N : Nat) {I : Mem} {k n : Nat} (h : I k 5 = zI (n : Int)) (hn : n ≤ 8) : f5_isFull N I k = some (zI (if n = 8 then 1 else 0), I) := by
  unfold f5_isFull
  by_cases c : n = 8
  · rw [if_pos c]
    simp (disch := omega) only [h, letM_s, clP_s, clM_s, l_m89910, l_m999, l_m9, l_m4, l_m3, l_m2, l_m1, l_0, l_1, l_2, l_3, l_4, l_5, l_6, l_7, l_8, l_9, l_10, l_11, l_12, l_13, l_14, l_18, l_31, l_32, l_33, l_43, l_45, l_48, l_57, l_64, l_66, l_80, l_97, l_100, l_109, l_118, l_119, l_200, l_255, l_462, l_500, l_676, l_999, l_1000, l_1001, l_9999, l_10000, l_99999, l_100000, l_447214, l_1000000000, m_m999, m_m9, m_0, m_1, m_2, m_4, m_9, m_255, m_500, m_999, m_9999, m_10000, m_99999, m_200000000, m_4294967295, m_1442695040888963407, m_6364136223846793005, z_add, z_sub, z_mul, z_neg, y_add, y_sub, y_mul, y_neg, z_toL, y_toI, cmp_lt, cmp_gt, cmp_le, cmp_ge, z_lt, z_le, z_eq, y_lt, y_le, y_eq, if_pos, if_neg, ite_true, ite_false]
  · rw [if_neg c]
    simp (disch := omega) only [h, letM_s, clP_s, clM_s, l_m89910, l_m999, l_m9, l_m4, l_m3, l_m2, l_m1, l_0, l_1, l_2, l_3, l_4, l_5, l_6, l_7, l_8, l_9, l_10, l_11, l_12, l_13, l_14, l_18, l_31, l_32, l_33, l_43, l_45, l_48, l_57, l_64, l_66, l_80, l_97, l_100, l_109, l_118, l_119, l_200, l_255, l_462, l_500, l_676, l_999, l_1000, l_1001, l_9999, l_10000, l_99999, l_100000, l_447214, l_1000000000, m_m999, m_m9, m_0, m_1, m_2, m_4, m_9, m_255, m_500, m_999, m_9999, m_10000, m_99999, m_200000000, m_4294967295, m_1442695040888963407, m_6364136223846793005, z_add, z_sub, z_mul, z_neg, y_add, y_sub, y_mul, y_neg, z_toL, y_toI, cmp_lt, cmp_gt, cmp_le, cmp_ge, z_lt, z_le, z_eq, y_lt, y_le, y_eq, if_pos, if_neg, ite_true, ite_false]
/-- cells outside a state's four stay -/
def Fs (I I1 : Mem) (k : Nat) : Prop := ∀ x, (x < k ∨ k + 3 < x) → I1 x = I x
theorem Fs.rf {I : Mem} {k : Nat} : Fs I I k := fun _ _ => rfl
theorem Fs.tr {I I1 I2 : Mem} {k : Nat} (h : Fs I I1 k) (h2 : Fs I1 I2 k) : Fs I I2 k := fun x hx => (h2 x hx).trans (h x hx)
theorem Fs.st {I : Mem} {k c j : Nat} {v : Int32} (h1 : k ≤ c) (h2 : c ≤ k + 3) : Fs I (st I c j v) k := fun x hx => st_k (by omega)
theorem e5_addItem (N : Nat) {I : Mem} {k : Nat} {s : Sg} {q : Itm} (hO : OkS s) (hn : nS s < 8) (h : StR I k s) : ∃ I1, f5_addItem N I k (zI q.1) (zI q.2.1) (zI q.2.2) = some I1 ∧ StR I1 k (addI s q) ∧ Fs I I1 k := by
  obtain ⟨a, v, x, y, t, n, d, m, i, l⟩ := s
  have hn : n < 8 := hn
  obtain ⟨r0, r1, r2, r3, r4, r5, r9, rp, ri⟩ := h
  have e1 := e5_isFull N r5 (by omega)
  rw [if_neg (by omega)] at e1
  have n1 : (zI (n : Int)).toNatClampNeg = n := by rw [z_nat (by omega) (by omega)]; rfl
  obtain ⟨I2, hI2⟩ : ∃ I2, I2 = st (st (st I (k+1) n (zI q.1)) (k+2) n (zI q.2.1)) (k+3) n (zI q.2.2) := ⟨_, rfl⟩
  have g0 : ∀ j, I2 k j = I k j := fun j => by rw [hI2, st_k (by omega), st_k (by omega), st_k (by omega)]
  have s5 : st I (k+1) n (zI q.1) k 5 = zI (n : Int) := by rw [st_k (by omega)]; exact r5
  have s6 : st (st I (k+1) n (zI q.1)) (k+2) n (zI q.2.1) k 5 = zI (n : Int) := by rw [st_k (by omega)]; exact s5
  have s7 : I2 k 5 = zI (n : Int) := by rw [g0]; exact r5
  refine ⟨st I2 k 5 (zI ((n : Int) + 1)), ?_, ?_, ?_⟩
  · unfold f5_addItem
    simp (disch := omega) only [e1, r5, n1, s5, s6, letM_s, clP_s, clM_s, l_m89910, l_m999, l_m9, l_m4, l_m3, l_m2, l_m1, l_0, l_1, l_2, l_3, l_4, l_5, l_6, l_7, l_8, l_9, l_10, l_11, l_12, l_13, l_14, l_18, l_31, l_32, l_33, l_43, l_45, l_48, l_57, l_64, l_66, l_80, l_97, l_100, l_109, l_118, l_119, l_200, l_255, l_462, l_500, l_676, l_999, l_1000, l_1001, l_9999, l_10000, l_99999, l_100000, l_447214, l_1000000000, m_m999, m_m9, m_0, m_1, m_2, m_4, m_9, m_255, m_500, m_999, m_9999, m_10000, m_99999, m_200000000, m_4294967295, m_1442695040888963407, m_6364136223846793005, z_add, z_sub, z_mul, z_neg, y_add, y_sub, y_mul, y_neg, z_toL, y_toI, cmp_lt, cmp_gt, cmp_le, cmp_ge, z_lt, z_le, z_eq, y_lt, y_le, y_eq, if_pos, if_neg, ite_true, ite_false, ← hI2, s7]
  · refine ⟨by rw [st_j (by omega), g0]; exact r0, by rw [st_j (by omega), g0]; exact r1, by rw [st_j (by omega), g0]; exact r2, by rw [st_j (by omega), g0]; exact r3, by rw [st_j (by omega), g0]; exact r4, by rw [st_s]; rfl, by rw [st_j (by omega), g0]; exact r9, fun hm => by rw [st_j (by omega), st_j (by omega), g0, g0]; exact rp hm, fun j hj => ?_⟩
    have hj : j < n + 1 := hj
    rw [st_k (by omega), st_k (by omega), st_k (by omega), hI2]
    show _ = zI (if j = n then q else d j).1 ∧ _ = zI (if j = n then q else d j).2.1 ∧ _ = zI (if j = n then q else d j).2.2
    by_cases c : j = n
    · subst c
      rw [if_pos rfl]
      refine ⟨by rw [st_k (by omega), st_k (by omega), st_s], by rw [st_k (by omega), st_s], st_s _ _ _ _⟩
    · rw [if_neg c]
      refine ⟨by rw [st_k (by omega), st_k (by omega), st_j c]; exact (ri j (by omega)).1, by rw [st_k (by omega), st_j c, st_k (by omega)]; exact (ri j (by omega)).2.1, by rw [st_j c, st_k (by omega), st_k (by omega)]; exact (ri j (by omega)).2.2⟩
  · rw [hI2]
    exact (((Fs.st (by omega) (by omega)).tr (Fs.st (by omega) (by omega))).tr (Fs.st (by omega) (by omega))).tr (Fs.st (by omega) (by omega))
theorem e5_drop_30 (N : Nat) {k n1 : Nat} (a1 : Int32) (hn : n1 ≤ 7) : ∀ (e i cnt : Nat) (I : Mem), i + e = n1 → e < cnt → I k 5 = zI (n1 : Int) → ∃ I1, f5_dropItem_30 N k a1 cnt I (zI (i : Int)) = some I1 ∧ (∀ c j, 1 ≤ c → c ≤ 3 → i ≤ j → j < n1 → I1 (k+c) j = I (k+c) (j+1)) ∧ (∀ c j, 1 ≤ c → c ≤ 3 → j < i → I1 (k+c) j = I (k+c) j) ∧ I1 k = I k ∧ Fs I I1 k := by
  intro e
  induction e with
  | zero =>
    intro i cnt I h1 h2 h3
    obtain ⟨cnt, rfl⟩ : ∃ x, cnt = x + 1 := ⟨cnt - 1, by omega⟩
    refine ⟨I, ?_, fun c j a b c d => by omega, fun _ _ _ _ _ => rfl, rfl, Fs.rf⟩
    rw [f5_dropItem_30, h3]
    simp (disch := omega) only [letM_s, clP_s, clM_s, l_m89910, l_m999, l_m9, l_m4, l_m3, l_m2, l_m1, l_0, l_1, l_2, l_3, l_4, l_5, l_6, l_7, l_8, l_9, l_10, l_11, l_12, l_13, l_14, l_18, l_31, l_32, l_33, l_43, l_45, l_48, l_57, l_64, l_66, l_80, l_97, l_100, l_109, l_118, l_119, l_200, l_255, l_462, l_500, l_676, l_999, l_1000, l_1001, l_9999, l_10000, l_99999, l_100000, l_447214, l_1000000000, m_m999, m_m9, m_0, m_1, m_2, m_4, m_9, m_255, m_500, m_999, m_9999, m_10000, m_99999, m_200000000, m_4294967295, m_1442695040888963407, m_6364136223846793005, z_add, z_sub, z_mul, z_neg, y_add, y_sub, y_mul, y_neg, z_toL, y_toI, cmp_lt, cmp_gt, cmp_le, cmp_ge, z_lt, z_le, z_eq, y_lt, y_le, y_eq, if_pos, if_neg, ite_true, ite_false]
  | succ e ih =>
    intro i cnt I h1 h2 h3
    obtain ⟨cnt, rfl⟩ : ∃ x, cnt = x + 1 := ⟨cnt - 1, by omega⟩
    have e1 : (zI (i : Int)).toNatClampNeg = i := by rw [z_nat (by omega) (by omega)]; rfl
    have e2 : (zI ((i : Int) + 1)).toNatClampNeg = i + 1 := by rw [z_nat (by omega) (by omega)]; omega
    obtain ⟨I2, hI2⟩ : ∃ I2, I2 = st I (k+1) i (I (k+1) (i+1)) := ⟨_, rfl⟩
    obtain ⟨I3, hI3⟩ : ∃ I3, I3 = st I2 (k+2) i (I2 (k+2) (i+1)) := ⟨_, rfl⟩
    obtain ⟨I4, hI4⟩ : ∃ I4, I4 = st I3 (k+3) i (I3 (k+3) (i+1)) := ⟨_, rfl⟩
    obtain ⟨I1, q1, q2, q3, q4, q5⟩ := ih (i + 1) cnt I4 (by omega) (by omega) (by rw [hI4, st_k (by omega), hI3, st_k (by omega), hI2, st_k (by omega)]; exact h3)
    have g : ∀ c j, 1 ≤ c → c ≤ 3 → j ≠ i → I4 (k+c) j = I (k+c) j := fun c j a b hj => by
      rcases (show c = 1 ∨ c = 2 ∨ c = 3 by omega) with rfl | rfl | rfl
      · rw [hI4, st_k (by omega), hI3, st_k (by omega), hI2, st_j hj]
      · rw [hI4, st_k (by omega), hI3, st_j hj, hI2, st_k (by omega)]
      · rw [hI4, st_j hj, hI3, st_k (by omega), hI2, st_k (by omega)]
    have gi : ∀ c, 1 ≤ c → c ≤ 3 → I4 (k+c) i = I (k+c) (i+1) := fun c a b => by
      rcases (show c = 1 ∨ c = 2 ∨ c = 3 by omega) with rfl | rfl | rfl
      · rw [hI4, st_k (by omega), hI3, st_k (by omega), hI2, st_s]
      · rw [hI4, st_k (by omega), hI3, st_s, hI2, st_k (by omega)]
      · rw [hI4, st_s, hI3, st_k (by omega), hI2, st_k (by omega)]
    refine ⟨I1, ?_, fun c j a b hj hj2 => ?_, fun c j a b hj => by rw [q3 c j a b (by omega), g c j a b (by omega)], ?_, ?_⟩
    · rw [← q1, f5_dropItem_30, h3]
      simp (disch := omega) only [e1, e2, letM_s, clP_s, clM_s, l_m89910, l_m999, l_m9, l_m4, l_m3, l_m2, l_m1, l_0, l_1, l_2, l_3, l_4, l_5, l_6, l_7, l_8, l_9, l_10, l_11, l_12, l_13, l_14, l_18, l_31, l_32, l_33, l_43, l_45, l_48, l_57, l_64, l_66, l_80, l_97, l_100, l_109, l_118, l_119, l_200, l_255, l_462, l_500, l_676, l_999, l_1000, l_1001, l_9999, l_10000, l_99999, l_100000, l_447214, l_1000000000, m_m999, m_m9, m_0, m_1, m_2, m_4, m_9, m_255, m_500, m_999, m_9999, m_10000, m_99999, m_200000000, m_4294967295, m_1442695040888963407, m_6364136223846793005, z_add, z_sub, z_mul, z_neg, y_add, y_sub, y_mul, y_neg, z_toL, y_toI, cmp_lt, cmp_gt, cmp_le, cmp_ge, z_lt, z_le, z_eq, y_lt, y_le, y_eq, if_pos, if_neg, ite_true, ite_false, ← hI2, ← hI3, ← hI4]
      rfl
    · by_cases c' : j = i
      · subst c'
        rw [q3 c j a b (by omega), gi c a b]
      · rw [q2 c j a b (by omega) hj2, g c _ a b (by omega)]
    · rw [q4, hI4, st_k (by omega), hI3, st_k (by omega), hI2, st_k (by omega)]
    · refine Fs.tr ?_ q5
      rw [hI4, hI3, hI2]
      exact ((Fs.st (by omega) (by omega)).tr (Fs.st (by omega) (by omega))).tr (Fs.st (by omega) (by omega))
/-- an item out; the move in progress ends with the first -/
def drpS : Sg → Nat → Sg | (a, v, x, y, t, n, d, m, i, l), j => (a, v, x, y, t, n - 1, dropD d j, if j = 0 then 0 else m, if j = 0 then 0 else i, if j = 0 then 0 else l)
theorem e5_drop {N : Nat} {I : Mem} {k j : Nat} {s : Sg} (hN : 100 ≤ N) (hn8 : nS s ≤ 8) (hj : j < nS s) (h : StR I k s) : ∃ I1, f5_dropItem N I k (zI (j : Int)) = some I1 ∧ StR I1 k (drpS s j) ∧ I1 k 11 = I k 11 ∧ Fs I I1 k := by
  obtain ⟨a, v, x, y, t, n, d, m, i, l⟩ := s
  have hn8 : n ≤ 8 := hn8
  have hj : j < n := hj
  obtain ⟨r0, r1, r2, r3, r4, r5, r9, rp, ri⟩ := h
  have e1 := e5_hasItem N (i := (j : Int)) r5 hn8 (by omega) (by omega)
  rw [if_pos (by omega)] at e1
  have h18 : ∀ I2 : Mem, I2 k 5 = zI (n : Int) → ∃ I1, f5_dropItem_18 N k (zI (j : Int)) I2 = some I1 ∧ (∀ c q, 1 ≤ c → c ≤ 3 → q < n - 1 → I1 (k+c) q = I2 (k+c) (if q < j then q else q + 1)) ∧ I1 k 5 = zI ((n - 1 : Nat) : Int) ∧ (∀ q, q ≠ 5 → I1 k q = I2 k q) ∧ Fs I2 I1 k := by
    intro I2 h5
    obtain ⟨I1, q1, q2, q3, q4, q5⟩ := e5_drop_30 N (k := k) (n1 := n - 1) (zI (j : Int)) (by omega) (n - 1 - j) j N (st I2 k 5 (zI ((n - 1 : Nat) : Int))) (by omega) (by omega) (st_s _ _ _ _)
    refine ⟨I1, ?_, fun c q a b hq => ?_, by rw [q4, st_s], fun q hq => by rw [q4, st_j hq], (Fs.st (Nat.le_refl _) (by omega)).tr q5⟩
    · unfold f5_dropItem_18
      rw [h5, ← q1]
      simp only [letM_s, l_1, z_sub]
      rw [show (n : Int) - 1 = ((n - 1 : Nat) : Int) by omega]
    · by_cases cq : q < j
      · rw [if_pos cq, q3 c q a b cq, st_k (by omega)]
      · rw [if_neg cq, q2 c q a b (by omega) hq, st_k (by omega)]
  by_cases c : j = 0
  · subst c
    obtain ⟨I1, q1, q2, q3, q4, q5⟩ := h18 (st I k 9 (zI 0)) (by rw [st_j (by omega)]; exact r5)
    refine ⟨I1, ?_, ?_, by rw [q4 11 (by omega), st_j (by omega)], (Fs.st (Nat.le_refl _) (by omega)).tr q5⟩
    · have e1' : f5_hasItem N I k (zI 0) = some (zI 1, I) := e1
      have q1' : f5_dropItem_18 N k (zI 0) (st I k 9 (zI 0)) = some I1 := q1
      unfold f5_dropItem
      simp (disch := omega) only [show ((0 : Nat) : Int) = 0 from rfl, e1', letM_s, clP_s, clM_s, l_m89910, l_m999, l_m9, l_m4, l_m3, l_m2, l_m1, l_0, l_1, l_2, l_3, l_4, l_5, l_6, l_7, l_8, l_9, l_10, l_11, l_12, l_13, l_14, l_18, l_31, l_32, l_33, l_43, l_45, l_48, l_57, l_64, l_66, l_80, l_97, l_100, l_109, l_118, l_119, l_200, l_255, l_462, l_500, l_676, l_999, l_1000, l_1001, l_9999, l_10000, l_99999, l_100000, l_447214, l_1000000000, m_m999, m_m9, m_0, m_1, m_2, m_4, m_9, m_255, m_500, m_999, m_9999, m_10000, m_99999, m_200000000, m_4294967295, m_1442695040888963407, m_6364136223846793005, z_add, z_sub, z_mul, z_neg, y_add, y_sub, y_mul, y_neg, z_toL, y_toI, cmp_lt, cmp_gt, cmp_le, cmp_ge, z_lt, z_le, z_eq, y_lt, y_le, y_eq, if_pos, if_neg, ite_true, ite_false, q1']
    · refine ⟨by rw [q4 0 (by omega), st_j (by omega)]; exact r0, by rw [q4 1 (by omega), st_j (by omega)]; exact r1, by rw [q4 2 (by omega), st_j (by omega)]; exact r2, by rw [q4 3 (by omega), st_j (by omega)]; exact r3, by rw [q4 4 (by omega), st_j (by omega)]; exact r4, q3, by rw [q4 9 (by omega), st_s]; rfl, fun hm => absurd hm (by rw [if_pos rfl]; exact Nat.lt_irrefl 0), fun q hq => ?_⟩
      have hq : q < n - 1 := hq
      rw [q2 1 q (by omega) (by omega) hq, q2 2 q (by omega) (by omega) hq, q2 3 q (by omega) (by omega) hq, st_k (by omega), st_k (by omega), st_k (by omega)]
      unfold dropD
      rw [if_neg (Nat.not_lt_zero q), if_neg (Nat.not_lt_zero q)]
      exact ri (q + 1) (by omega)
  · obtain ⟨I1, q1, q2, q3, q4, q5⟩ := h18 I r5
    refine ⟨I1, ?_, ?_, q4 11 (by omega), q5⟩
    · unfold f5_dropItem
      simp (disch := omega) only [e1, letM_s, clP_s, clM_s, l_m89910, l_m999, l_m9, l_m4, l_m3, l_m2, l_m1, l_0, l_1, l_2, l_3, l_4, l_5, l_6, l_7, l_8, l_9, l_10, l_11, l_12, l_13, l_14, l_18, l_31, l_32, l_33, l_43, l_45, l_48, l_57, l_64, l_66, l_80, l_97, l_100, l_109, l_118, l_119, l_200, l_255, l_462, l_500, l_676, l_999, l_1000, l_1001, l_9999, l_10000, l_99999, l_100000, l_447214, l_1000000000, m_m999, m_m9, m_0, m_1, m_2, m_4, m_9, m_255, m_500, m_999, m_9999, m_10000, m_99999, m_200000000, m_4294967295, m_1442695040888963407, m_6364136223846793005, z_add, z_sub, z_mul, z_neg, y_add, y_sub, y_mul, y_neg, z_toL, y_toI, cmp_lt, cmp_gt, cmp_le, cmp_ge, z_lt, z_le, z_eq, y_lt, y_le, y_eq, if_pos, if_neg, ite_true, ite_false, q1]
    · show StR I1 k (a, v, x, y, t, n - 1, dropD d j, if j = 0 then 0 else m, if j = 0 then 0 else i, if j = 0 then 0 else l)
      rw [if_neg c, if_neg c, if_neg c]
      refine ⟨by rw [q4 0 (by omega)]; exact r0, by rw [q4 1 (by omega)]; exact r1, by rw [q4 2 (by omega)]; exact r2, by rw [q4 3 (by omega)]; exact r3, by rw [q4 4 (by omega)]; exact r4, q3, by rw [q4 9 (by omega)]; exact r9, fun hm => by rw [q4 10 (by omega), q4 11 (by omega)]; exact rp hm, fun q hq => ?_⟩
      have hq : q < n - 1 := hq
      rw [q2 1 q (by omega) (by omega) hq, q2 2 q (by omega) (by omega) hq, q2 3 q (by omega) (by omega) hq]
      unfold dropD
      by_cases cq : q < j
      · rw [if_pos cq, if_pos cq]; exact ri q (by omega)
      · rw [if_neg cq, if_neg cq]; exact ri (q + 1) (by omega)
