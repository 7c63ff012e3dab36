/-! THE STATE as numbers: acceleration, speed limit, positions, clock, items, steps made, index and steps left of the present move -/
abbrev Itm : Type := Int × Int × Int
abbrev Sg : Type := Nat × Nat × Int32 × Int32 × Int32 × Nat × (Nat → Itm) × Nat × Nat × Nat
def ItOk (d : Itm) : Prop := -999 ≤ d.1 ∧ d.1 ≤ 999 ∧ -999 ≤ d.2.1 ∧ d.2.1 ≤ 999 ∧ 0 ≤ d.2.2 ∧ d.2.2 ≤ 9999 ∧ (d.2.2 = 0 → d.1 ≠ 0 ∨ d.2.1 ≠ 0)
def lenI (d : Itm) : Nat := max d.1.natAbs d.2.1.natAbs
def OkS : Sg → Prop
  | (a, v, _, _, _, n, d, m, i, l) => 1 ≤ a ∧ a ≤ 999 ∧ 1 ≤ v ∧ v ≤ 999 ∧ n ≤ 8 ∧ (∀ j, j < n → ItOk (d j)) ∧ (m = 0 → i = 0 ∧ l = 0) ∧ (0 < m → 0 < n ∧ (d 0).2.2 = 0 ∧ m + l ≤ lenI (d 0) ∧ 1 ≤ l ∧ i ≤ l)
def RowR (r : Nat → Int32) : Sg → Prop
  | (a, v, x, y, t, n, d, m, i, l) => r 0 = zI (a : Int) ∧ r 1 = zI (v : Int) ∧ r 2 = x ∧ r 3 = y ∧ r 4 = t ∧ r 5 = zI (n : Int) ∧ r 6 = zI (m : Int) ∧ r 7 = zI (if m = 0 then -9 else (i : Int)) ∧ r 8 = zI (l : Int) ∧ ∀ j, j < n → r (9 + 3 * j) = zI (d j).1 ∧ r (9 + 3 * j + 1) = zI (d j).2.1 ∧ r (9 + 3 * j + 2) = zI (d j).2.2
theorem RowR.eq {r r' : Nat → Int32} {s : Sg} (hO : OkS s) (h : RowR r s) (e : ∀ j, j < 33 → r' j = r j) : RowR r' s := by
  obtain ⟨a, v, x, y, t, n, d, m, i, l⟩ := s
  obtain ⟨-, -, -, -, hn, -⟩ := hO
  obtain ⟨h0, h1, h2, h3, h4, h5, h6, h7, h8, h9⟩ := h
  refine ⟨by rw [e 0 (by omega)]; exact h0, by rw [e 1 (by omega)]; exact h1, by rw [e 2 (by omega)]; exact h2, by rw [e 3 (by omega)]; exact h3, by rw [e 4 (by omega)]; exact h4, by rw [e 5 (by omega)]; exact h5, by rw [e 6 (by omega)]; exact h6, by rw [e 7 (by omega)]; exact h7, by rw [e 8 (by omega)]; exact h8, fun j hj => ?_⟩
  rw [e (9 + 3 * j) (by omega), e (9 + 3 * j + 1) (by omega), e (9 + 3 * j + 2) (by omega)]
  exact h9 j hj
def dropD (d : Nat → Itm) (i : Nat) : Nat → Itm := fun j => if j < i then d j else d (j + 1)
def nxtI (a v m i l : Nat) : Nat := if m = 0 then 0 else idxA i l (topN a (cr v) 999)
def tkI (a v : Nat) (w : Int) (m i l : Nat) : Nat := if 0 < w then w.toNat else itv a (cr v) (nxtI a v m i l)
def goneN (k f o : Nat) : Nat := (2 * k * f + o) / (2 * o)
def wayZ (dd : Int) (o k : Nat) : Int := if dd < 0 then -(goneN k dd.natAbs o : Int) else (goneN k dd.natAbs o : Int)
/-- the ticks of the next step -/
def tkS : Sg → Nat
  | (a, v, _, _, _, _, d, m, i, l) => tkI a v (d 0).2.2 m i l
def stepS : Sg → Sg
  | (a, v, x, y, t, n, d, m, i, l) =>
    if 0 < (d 0).2.2 then (a, v, x, y, t + zI (tkI a v (d 0).2.2 m i l : Int), n - 1, dropD d 0, 0, 0, 0)
    else if (if m = 0 then lenI (d 0) else l) - 1 = 0 then
      (a, v, x + (zI (wayZ (d 0).1 (lenI (d 0)) (m + 1)) - zI (wayZ (d 0).1 (lenI (d 0)) m)), y + (zI (wayZ (d 0).2.1 (lenI (d 0)) (m + 1)) - zI (wayZ (d 0).2.1 (lenI (d 0)) m)), t + zI (tkI a v (d 0).2.2 m i l : Int), n - 1, dropD d 0, 0, 0, 0)
    else
      (a, v, x + (zI (wayZ (d 0).1 (lenI (d 0)) (m + 1)) - zI (wayZ (d 0).1 (lenI (d 0)) m)), y + (zI (wayZ (d 0).2.1 (lenI (d 0)) (m + 1)) - zI (wayZ (d 0).2.1 (lenI (d 0)) m)), t + zI (tkI a v (d 0).2.2 m i l : Int), n, d, m + 1, nxtI a v m i l, (if m = 0 then lenI (d 0) else l) - 1)
theorem lenI_pos {d : Itm} (h : ItOk d) (hw : d.2.2 = 0) : 1 ≤ lenI d ∧ lenI d ≤ 999 := by
  obtain ⟨h1, h2, h3, h4, h5, h6, h7⟩ := h
  have := h7 hw
  unfold lenI
  omega
theorem idxA_le {p l tp : Nat} (hl : 1 ≤ l) (h : p ≤ l) : idxA p l tp ≤ l - 1 := by
  unfold idxA
  by_cases c1 : p + 1 ≤ min (l - 1) tp
  · rw [if_pos c1]; omega
  · rw [if_neg c1]
    by_cases c2 : p ≤ min (l - 1) tp
    · rw [if_pos c2]; omega
    · rw [if_neg c2]; omega
theorem nxtI_le {a v x y t n d m i l} (h : OkS (a, v, x, y, t, n, d, m, i, l)) : nxtI a v m i l ≤ 998 := by
  obtain ⟨-, -, -, -, -, h6, -, h8⟩ := h
  unfold nxtI
  by_cases c : m = 0
  · rw [if_pos c]; omega
  · rw [if_neg c]
    obtain ⟨b1, b2, b3, b4, b5⟩ := h8 (by omega)
    have := lenI_pos (h6 0 b1) b2
    have := idxA_le (tp := topN a (cr v) 999) b4 b5
    omega
theorem dropD_ok {n : Nat} {d : Nat → Itm} {i : Nat} (h : ∀ j, j < n → ItOk (d j)) : ∀ j, j < n - 1 → ItOk (dropD d i j) := by
  intro j hj
  unfold dropD
  by_cases c : j < i
  · rw [if_pos c]; exact h j (by omega)
  · rw [if_neg c]; exact h (j + 1) (by omega)
theorem OkS_step {s : Sg} (h : OkS s) (hn : 0 < s.2.2.2.2.2.1) : OkS (stepS s) := by
  obtain ⟨a, v, x, y, t, n, d, m, i, l⟩ := s
  have hn : 0 < n := hn
  have hx := nxtI_le h
  obtain ⟨h1, h2, h3, h4, h5, h6, h7, h8⟩ := id h
  unfold stepS
  by_cases c : 0 < (d 0).2.2
  · simp only [if_pos c]
    exact ⟨h1, h2, h3, h4, by omega, dropD_ok h6, fun _ => ⟨rfl, rfl⟩, fun q => absurd q (Nat.lt_irrefl 0)⟩
  · simp only [if_neg c]
    have hw : (d 0).2.2 = 0 := by have := (h6 0 hn).2.2.2.2.1; omega
    have hl := lenI_pos (h6 0 hn) hw
    by_cases c2 : (if m = 0 then lenI (d 0) else l) - 1 = 0
    · simp only [if_pos c2]
      exact ⟨h1, h2, h3, h4, by omega, dropD_ok h6, fun _ => ⟨rfl, rfl⟩, fun q => absurd q (Nat.lt_irrefl 0)⟩
    · simp only [if_neg c2]
      refine ⟨h1, h2, h3, h4, h5, h6, fun q => by omega, fun _ => ⟨hn, hw, ?_⟩⟩
      by_cases c3 : m = 0
      · rw [if_pos c3] at c2 ⊢
        refine ⟨by omega, by omega, ?_⟩
        unfold nxtI
        rw [if_pos c3]
        omega
      · rw [if_neg c3] at c2 ⊢
        obtain ⟨b1, b2, b3, b4, b5⟩ := h8 (by omega)
        refine ⟨by omega, by omega, ?_⟩
        unfold nxtI
        rw [if_neg c3]
        exact idxA_le b4 b5
/-- how many steps are left at most -/
def mu : Sg → Nat
  | (_, _, _, _, _, n, _, m, _, l) => if m = 0 then 999 * n else l + 999 * (n - 1)
theorem mu_le {s : Sg} (h : OkS s) : mu s ≤ 7992 := by
  obtain ⟨a, v, x, y, t, n, d, m, i, l⟩ := s
  obtain ⟨h1, h2, h3, h4, h5, h6, h7, h8⟩ := h
  show (if m = 0 then 999 * n else l + 999 * (n - 1)) ≤ 7992
  by_cases c : m = 0
  · rw [if_pos c]; omega
  · rw [if_neg c]
    obtain ⟨b1, b2, b3, b4, b5⟩ := h8 (by omega)
    have := lenI_pos (h6 0 b1) b2
    omega
theorem mu_step {s : Sg} (h : OkS s) (hn : 0 < s.2.2.2.2.2.1) : mu (stepS s) < mu s := by
  obtain ⟨a, v, x, y, t, n, d, m, i, l⟩ := s
  have hn : 0 < n := hn
  obtain ⟨h1, h2, h3, h4, h5, h6, h7, h8⟩ := h
  unfold stepS
  by_cases c : 0 < (d 0).2.2
  · have hm : m = 0 := by
      rcases Nat.eq_zero_or_pos m with q | q
      · exact q
      · have := (h8 q).2.1; omega
    subst hm
    simp only [if_pos c]
    show (if (0 : Nat) = 0 then 999 * (n - 1) else 0 + 999 * (n - 1 - 1)) < (if (0 : Nat) = 0 then 999 * n else l + 999 * (n - 1))
    rw [if_pos rfl, if_pos rfl]
    omega
  · simp only [if_neg c]
    have hw : (d 0).2.2 = 0 := by have := (h6 0 hn).2.2.2.2.1; omega
    have hl := lenI_pos (h6 0 hn) hw
    by_cases c2 : (if m = 0 then lenI (d 0) else l) - 1 = 0
    · simp only [if_pos c2]
      show (if (0 : Nat) = 0 then 999 * (n - 1) else 0 + 999 * (n - 1 - 1)) < (if m = 0 then 999 * n else l + 999 * (n - 1))
      rw [if_pos rfl]
      by_cases c3 : m = 0
      · rw [if_pos c3]; omega
      · rw [if_neg c3]; have := (h8 (by omega)).2.2.2.1; omega
    · simp only [if_neg c2]
      show (if m + 1 = 0 then 999 * n else (if m = 0 then lenI (d 0) else l) - 1 + 999 * (n - 1)) < (if m = 0 then 999 * n else l + 999 * (n - 1))
      rw [if_neg (by omega)]
      by_cases c3 : m = 0
      · rw [if_pos c3, if_pos c3]; omega
      · rw [if_neg c3, if_neg c3]; have := (h8 (by omega)).2.2.2.1; omega
/-! the reference's rows -/
theorem e7_abs (N : Nat) (I : Mem) {v : Int} (h1 : -2147483648 < v) (h2 : v < 2147483648) : f7_abs N I (zI v) = some (zI (v.natAbs : Int), I) := by
  unfold f7_abs
  by_cases c : 0 ≤ v
  · rw [show (v.natAbs : Int) = v by omega]
    simp (disch := omega) only [letM_s, clP_s, clM_s, l_m89910, l_m999, l_m9, l_m4, l_m3, l_m2, l_m1, l_0, l_1, l_2, l_3, l_4, l_5, l_6, l_7, l_8, l_9, l_10, l_11, l_12, l_13, l_14, l_18, l_31, l_32, l_33, l_43, l_45, l_48, l_57, l_64, l_66, l_80, l_97, l_100, l_109, l_118, l_119, l_200, l_255, l_462, l_500, l_676, l_999, l_1000, l_1001, l_9999, l_10000, l_99999, l_100000, l_447214, l_1000000000, m_m999, m_m9, m_0, m_1, m_2, m_4, m_9, m_255, m_500, m_999, m_9999, m_10000, m_99999, m_200000000, m_4294967295, m_1442695040888963407, m_6364136223846793005, z_add, z_sub, z_mul, z_neg, y_add, y_sub, y_mul, y_neg, z_toL, y_toI, cmp_lt, cmp_gt, cmp_le, cmp_ge, z_lt, z_le, z_eq, y_lt, y_le, y_eq, if_pos, if_neg, ite_true, ite_false]
  · rw [show (v.natAbs : Int) = -v by omega]
    simp (disch := omega) only [letM_s, clP_s, clM_s, l_m89910, l_m999, l_m9, l_m4, l_m3, l_m2, l_m1, l_0, l_1, l_2, l_3, l_4, l_5, l_6, l_7, l_8, l_9, l_10, l_11, l_12, l_13, l_14, l_18, l_31, l_32, l_33, l_43, l_45, l_48, l_57, l_64, l_66, l_80, l_97, l_100, l_109, l_118, l_119, l_200, l_255, l_462, l_500, l_676, l_999, l_1000, l_1001, l_9999, l_10000, l_99999, l_100000, l_447214, l_1000000000, m_m999, m_m9, m_0, m_1, m_2, m_4, m_9, m_255, m_500, m_999, m_9999, m_10000, m_99999, m_200000000, m_4294967295, m_1442695040888963407, m_6364136223846793005, z_add, z_sub, z_mul, z_neg, y_add, y_sub, y_mul, y_neg, z_toL, y_toI, cmp_lt, cmp_gt, cmp_le, cmp_ge, z_lt, z_le, z_eq, y_lt, y_le, y_eq, if_pos, if_neg, ite_true, ite_false]
theorem e7_isUW (N : Nat) {I : Mem} {k m i : Nat} (h : I k 7 = zI (if m = 0 then -9 else (i : Int))) (hi : i < 100000) : f7_isUnderWay N I k = some (zI (if m = 0 then 0 else 1), I) := by
  unfold f7_isUnderWay
  rw [h]
  by_cases c : m = 0
  · simp only [if_pos c]
    simp (disch := omega) only [letM_s, clP_s, clM_s, l_m89910, l_m999, l_m9, l_m4, l_m3, l_m2, l_m1, l_0, l_1, l_2, l_3, l_4, l_5, l_6, l_7, l_8, l_9, l_10, l_11, l_12, l_13, l_14, l_18, l_31, l_32, l_33, l_43, l_45, l_48, l_57, l_64, l_66, l_80, l_97, l_100, l_109, l_118, l_119, l_200, l_255, l_462, l_500, l_676, l_999, l_1000, l_1001, l_9999, l_10000, l_99999, l_100000, l_447214, l_1000000000, m_m999, m_m9, m_0, m_1, m_2, m_4, m_9, m_255, m_500, m_999, m_9999, m_10000, m_99999, m_200000000, m_4294967295, m_1442695040888963407, m_6364136223846793005, z_add, z_sub, z_mul, z_neg, y_add, y_sub, y_mul, y_neg, z_toL, y_toI, cmp_lt, cmp_gt, cmp_le, cmp_ge, z_lt, z_le, z_eq, y_lt, y_le, y_eq, if_pos, if_neg, ite_true, ite_false]
  · simp only [if_neg c]
    simp (disch := omega) only [letM_s, clP_s, clM_s, l_m89910, l_m999, l_m9, l_m4, l_m3, l_m2, l_m1, l_0, l_1, l_2, l_3, l_4, l_5, l_6, l_7, l_8, l_9, l_10, l_11, l_12, l_13, l_14, l_18, l_31, l_32, l_33, l_43, l_45, l_48, l_57, l_64, l_66, l_80, l_97, l_100, l_109, l_118, l_119, l_200, l_255, l_462, l_500, l_676, l_999, l_1000, l_1001, l_9999, l_10000, l_99999, l_100000, l_447214, l_1000000000, m_m999, m_m9, m_0, m_1, m_2, m_4, m_9, m_255, m_500, m_999, m_9999, m_10000, m_99999, m_200000000, m_4294967295, m_1442695040888963407, m_6364136223846793005, z_add, z_sub, z_mul, z_neg, y_add, y_sub, y_mul, y_neg, z_toL, y_toI, cmp_lt, cmp_gt, cmp_le, cmp_ge, z_lt, z_le, z_eq, y_lt, y_le, y_eq, if_pos, if_neg, ite_true, ite_false]
theorem e7_lengthOf (N : Nat) {I : Mem} {k j : Nat} {d : Itm} (hj : j < 8) (hd : ItOk d) (h1 : I k (9 + 3 * j) = zI d.1) (h2 : I k (9 + 3 * j + 1) = zI d.2.1) : f7_lengthOf N I k (zI (j : Int)) = some (zI (lenI d : Int), I) := by
  obtain ⟨b1, b2, b3, b4, -⟩ := hd
  unfold f7_lengthOf
  have n1 : (zI (9 + 3 * (j : Int))).toNatClampNeg = 9 + 3 * j := by rw [z_nat (by omega) (by omega)]; omega
  have n2 : (zI (9 + 3 * (j : Int) + 1)).toNatClampNeg = 9 + 3 * j + 1 := by rw [z_nat (by omega) (by omega)]; omega
  have e1 := e7_abs N I (v := d.1) (by omega) (by omega)
  have e2 := e7_abs N I (v := d.2.1) (by omega) (by omega)
  unfold lenI
  by_cases c : d.1.natAbs ≤ d.2.1.natAbs
  · rw [show max d.1.natAbs d.2.1.natAbs = d.2.1.natAbs by omega]
    simp (disch := omega) only [l_9, l_3, l_1, l_0, z_mul, z_add, n1, n2, h1, h2, z_lt, z_le, if_neg, if_pos, e1, e2, clP_s]
  · rw [show max d.1.natAbs d.2.1.natAbs = d.1.natAbs by omega]
    simp (disch := omega) only [l_9, l_3, l_1, l_0, z_mul, z_add, n1, n2, h1, h2, z_lt, z_le, if_neg, if_pos, e1, e2, clP_s]
theorem e7_drop_49 (N : Nat) {k : Nat} (a1 : Int32) : ∀ (e i cnt : Nat) (I : Mem), i + e = 33 → e < cnt → ∃ I1, f7_dropItem_49 N k a1 cnt I (zI (i : Int)) = some I1 ∧ (∀ j, j < i → I1 k j = I k j) ∧ ∀ x, x ≠ k → I1 x = I x := by
  intro e
  induction e with
  | zero =>
    intro i cnt I h1 h2
    obtain ⟨cnt, rfl⟩ : ∃ x, cnt = x + 1 := ⟨cnt - 1, by omega⟩
    refine ⟨I, ?_, fun _ _ => rfl, fun _ _ => rfl⟩
    rw [f7_dropItem_49]
    simp (disch := omega) only [letM_s, clP_s, clM_s, l_m89910, l_m999, l_m9, l_m4, l_m3, l_m2, l_m1, l_0, l_1, l_2, l_3, l_4, l_5, l_6, l_7, l_8, l_9, l_10, l_11, l_12, l_13, l_14, l_18, l_31, l_32, l_33, l_43, l_45, l_48, l_57, l_64, l_66, l_80, l_97, l_100, l_109, l_118, l_119, l_200, l_255, l_462, l_500, l_676, l_999, l_1000, l_1001, l_9999, l_10000, l_99999, l_100000, l_447214, l_1000000000, m_m999, m_m9, m_0, m_1, m_2, m_4, m_9, m_255, m_500, m_999, m_9999, m_10000, m_99999, m_200000000, m_4294967295, m_1442695040888963407, m_6364136223846793005, z_add, z_sub, z_mul, z_neg, y_add, y_sub, y_mul, y_neg, z_toL, y_toI, cmp_lt, cmp_gt, cmp_le, cmp_ge, z_lt, z_le, z_eq, y_lt, y_le, y_eq, if_pos, if_neg, ite_true, ite_false]
  | succ e ih =>
    intro i cnt I h1 h2
    obtain ⟨cnt, rfl⟩ : ∃ x, cnt = x + 1 := ⟨cnt - 1, by omega⟩
    obtain ⟨I1, q1, q2, q3⟩ := ih (i + 1) cnt (st I k i (zI 0)) (by omega) (by omega)
    have n1 : (zI (i : Int)).toNatClampNeg = i := by rw [z_nat (by omega) (by omega)]; rfl
    refine ⟨I1, ?_, fun j hj => by rw [q2 j (by omega), st_j (by omega)], fun x hx => by rw [q3 x hx, st_k hx]⟩
    rw [← q1, f7_dropItem_49]
    simp (disch := omega) only [n1, letM_s, clP_s, clM_s, l_m89910, l_m999, l_m9, l_m4, l_m3, l_m2, l_m1, l_0, l_1, l_2, l_3, l_4, l_5, l_6, l_7, l_8, l_9, l_10, l_11, l_12, l_13, l_14, l_18, l_31, l_32, l_33, l_43, l_45, l_48, l_57, l_64, l_66, l_80, l_97, l_100, l_109, l_118, l_119, l_200, l_255, l_462, l_500, l_676, l_999, l_1000, l_1001, l_9999, l_10000, l_99999, l_100000, l_447214, l_1000000000, m_m999, m_m9, m_0, m_1, m_2, m_4, m_9, m_255, m_500, m_999, m_9999, m_10000, m_99999, m_200000000, m_4294967295, m_1442695040888963407, m_6364136223846793005, z_add, z_sub, z_mul, z_neg, y_add, y_sub, y_mul, y_neg, z_toL, y_toI, cmp_lt, cmp_gt, cmp_le, cmp_ge, z_lt, z_le, z_eq, y_lt, y_le, y_eq, if_pos, if_neg, ite_true, ite_false]
    rfl
theorem e7_drop_14 {N : Nat} {k n1 : Nat} (a1 : Int32) (hN : 100 ≤ N) (hn : n1 ≤ 7) : ∀ (e i cnt : Nat) (I : Mem), e = 9 + 3 * n1 - i → e < cnt → I k 5 = zI (n1 : Int) → 9 ≤ i → i ≤ 33 → ∃ I1, f7_dropItem_14 N k a1 cnt I (zI (i : Int)) = some I1 ∧ (∀ j, i ≤ j → j < 9 + 3 * n1 → I1 k j = I k (j + 3)) ∧ (∀ j, j < i → j < 9 + 3 * n1 → I1 k j = I k j) ∧ ∀ x, x ≠ k → I1 x = I x := by
  intro e
  induction e with
  | zero =>
    intro i cnt I h1 h2 h3 h4 h5
    obtain ⟨cnt, rfl⟩ : ∃ x, cnt = x + 1 := ⟨cnt - 1, by omega⟩
    obtain ⟨I1, q1, q2, q3⟩ := e7_drop_49 N (k := k) a1 (33 - (9 + 3 * n1)) (9 + 3 * n1) N I (by omega) (by omega)
    refine ⟨I1, ?_, fun j hj hj2 => by omega, fun j _ hj => q2 j hj, q3⟩
    rw [← q1, f7_dropItem_14]
    simp (disch := omega) only [h3, letM_s, clP_s, clM_s, l_m89910, l_m999, l_m9, l_m4, l_m3, l_m2, l_m1, l_0, l_1, l_2, l_3, l_4, l_5, l_6, l_7, l_8, l_9, l_10, l_11, l_12, l_13, l_14, l_18, l_31, l_32, l_33, l_43, l_45, l_48, l_57, l_64, l_66, l_80, l_97, l_100, l_109, l_118, l_119, l_200, l_255, l_462, l_500, l_676, l_999, l_1000, l_1001, l_9999, l_10000, l_99999, l_100000, l_447214, l_1000000000, m_m999, m_m9, m_0, m_1, m_2, m_4, m_9, m_255, m_500, m_999, m_9999, m_10000, m_99999, m_200000000, m_4294967295, m_1442695040888963407, m_6364136223846793005, z_add, z_sub, z_mul, z_neg, y_add, y_sub, y_mul, y_neg, z_toL, y_toI, cmp_lt, cmp_gt, cmp_le, cmp_ge, z_lt, z_le, z_eq, y_lt, y_le, y_eq, if_pos, if_neg, ite_true, ite_false]
    rfl
  | succ e ih =>
    intro i cnt I h1 h2 h3 h4 h5
    obtain ⟨cnt, rfl⟩ : ∃ x, cnt = x + 1 := ⟨cnt - 1, by omega⟩
    obtain ⟨I1, q1, q2, q3, q4⟩ := ih (i + 1) cnt (st I k i (I k (i + 3))) (by omega) (by omega) (by rw [st_j (by omega)]; exact h3) (by omega) (by omega)
    have e1 : (zI (i : Int)).toNatClampNeg = i := by rw [z_nat (by omega) (by omega)]; rfl
    have e2 : (zI ((i : Int) + 3)).toNatClampNeg = i + 3 := by rw [z_nat (by omega) (by omega)]; omega
    refine ⟨I1, ?_, fun j hj hj2 => ?_, fun j hj hj2 => by rw [q3 j (by omega) hj2, st_j (by omega)], fun x hx => by rw [q4 x hx, st_k hx]⟩
    · rw [← q1, f7_dropItem_14]
      simp (disch := omega) only [h3, e1, e2, letM_s, clP_s, clM_s, l_m89910, l_m999, l_m9, l_m4, l_m3, l_m2, l_m1, l_0, l_1, l_2, l_3, l_4, l_5, l_6, l_7, l_8, l_9, l_10, l_11, l_12, l_13, l_14, l_18, l_31, l_32, l_33, l_43, l_45, l_48, l_57, l_64, l_66, l_80, l_97, l_100, l_109, l_118, l_119, l_200, l_255, l_462, l_500, l_676, l_999, l_1000, l_1001, l_9999, l_10000, l_99999, l_100000, l_447214, l_1000000000, m_m999, m_m9, m_0, m_1, m_2, m_4, m_9, m_255, m_500, m_999, m_9999, m_10000, m_99999, m_200000000, m_4294967295, m_1442695040888963407, m_6364136223846793005, z_add, z_sub, z_mul, z_neg, y_add, y_sub, y_mul, y_neg, z_toL, y_toI, cmp_lt, cmp_gt, cmp_le, cmp_ge, z_lt, z_le, z_eq, y_lt, y_le, y_eq, if_pos, if_neg, ite_true, ite_false]
      rfl
    · by_cases c : j = i
      · subst c
        rw [q3 j (by omega) hj2, st_s]
      · rw [q2 j (by omega) hj2, st_j (by omega)]
theorem e7_drop {N : Nat} {I : Mem} {k n i : Nat} (hN : 100 ≤ N) (hn : n ≤ 8) (hi : i < n) (h5 : I k 5 = zI (n : Int)) : ∃ I1, f7_dropItem N I k (zI (i : Int)) = some I1 ∧ I1 k 5 = zI ((n - 1 : Nat) : Int) ∧ (∀ j, j < 9 → j ≠ 5 → I1 k j = I k j) ∧ (∀ j e, j < n - 1 → e < 3 → I1 k (9 + 3 * j + e) = I k (9 + 3 * (if j < i then j else j + 1) + e)) ∧ ∀ x, x ≠ k → I1 x = I x := by
  obtain ⟨I1, q1, q2, q3, q4⟩ := e7_drop_14 (N := N) (k := k) (n1 := n - 1) (zI (i : Int)) hN (by omega) (9 + 3 * (n - 1) - (9 + 3 * i)) (9 + 3 * i) N (st I k 5 (zI ((n - 1 : Nat) : Int))) rfl (by omega) (st_s _ _ _ _) (by omega) (by omega)
  refine ⟨I1, ?_, ?_, fun j hj hj5 => ?_, fun j e hj he => ?_, fun x hx => by rw [q4 x hx, st_k hx]⟩
  · unfold f7_dropItem
    rw [h5, ← q1]
    simp only [letM_s, l_9, l_3, l_1, z_sub, z_mul, z_add]
    rw [show (n : Int) - 1 = ((n - 1 : Nat) : Int) by omega]
    rfl
  · rw [q3 5 (by omega) (by omega), st_s]
  · rw [q3 j (by omega) (by omega), st_j hj5]
  · by_cases c : j < i
    · rw [if_pos c, q3 _ (by omega) (by omega), st_j (by omega)]
    · rw [if_neg c, q2 _ (by omega) (by omega), st_j (by omega)]
      congr 1
      omega
theorem e7_endMove {N : Nat} {I : Mem} {k n : Nat} (hN : 100 ≤ N) (hn : n ≤ 8) (hi : 0 < n) (h5 : I k 5 = zI (n : Int)) : ∃ I1, f7_endMove N I k = some I1 ∧ I1 k 5 = zI ((n - 1 : Nat) : Int) ∧ I1 k 6 = zI 0 ∧ I1 k 7 = zI (-9) ∧ I1 k 8 = zI 0 ∧ (∀ j, j < 5 → I1 k j = I k j) ∧ (∀ j e, j < n - 1 → e < 3 → I1 k (9 + 3 * j + e) = I k (9 + 3 * (j + 1) + e)) ∧ ∀ x, x ≠ k → I1 x = I x := by
  obtain ⟨I1, q1, q2, q3, q4, q5⟩ := e7_drop (N := N) (i := 0) hN hn hi h5
  refine ⟨st (st (st I1 k 6 (zI 0)) k 7 (zI (-9))) k 8 (zI 0), ?_, ?_, ?_, ?_, st_s _ _ _ _, fun j hj => ?_, fun j e hj he => ?_, fun x hx => ?_⟩
  · unfold f7_endMove
    rw [l_0, show zI 0 = zI ((0 : Nat) : Int) from rfl, q1]
    rfl
  · rw [st_j (by omega), st_j (by omega), st_j (by omega)]; exact q2
  · rw [st_j (by omega), st_j (by omega), st_s]
  · rw [st_j (by omega), st_s]
  · rw [st_j (by omega), st_j (by omega), st_j (by omega), q3 j (by omega) (by omega)]
  · rw [st_j (by omega), st_j (by omega), st_j (by omega), q4 j e hj he, if_neg (Nat.not_lt_zero j)]
  · rw [st_k hx, st_k hx, st_k hx, q5 x hx]
theorem e7_gone (N : Nat) (I : Mem) {k f o : Nat} (hk : k ≤ 1000) (hf : f ≤ 1000) (ho : 1 ≤ o) (ho2 : o ≤ 1000) : f7_gone N I (zI (k : Int)) (zI (f : Int)) (zI (o : Int)) = some (zI (goneN k f o : Int), I) := by
  unfold f7_gone
  have hkf : k * f ≤ 1000 * 1000 := Nat.mul_le_mul hk hf
  have hb : 2 * k * f = 2 * (k * f) := Nat.mul_assoc 2 k f
  have e1 : zI 2 * zI (o : Int) = zI ((2 * o : Nat) : Int) := by rw [z_mul]; rfl
  have e2 : zI 2 * zI (k : Int) * zI (f : Int) + zI (o : Int) = zI ((2 * k * f + o : Nat) : Int) := by rw [z_mul, z_mul, z_add]; rfl
  have e3 : zI ((2 * k * f + o : Nat) : Int) / zI ((2 * o : Nat) : Int) = zI (goneN k f o : Int) := z_divN (by omega) (by omega)
  simp (disch := omega) only [l_2, l_0, e1, e2, e3, z_eq, if_neg]
/-- nothing changes but a row and what is kept -/
def Cr (I I1 : Mem) (k row : Nat) : Prop := (∀ x, x ≠ k → x ≠ k + 8 → x ≠ row → I1 x = I x) ∧ ∀ j, j < 12 → I1 k j = I k j
theorem Cr.rf {I : Mem} {k row : Nat} : Cr I I k row := ⟨fun _ _ _ _ => rfl, fun _ _ => rfl⟩
theorem Cr.tr {I I1 I2 : Mem} {k row : Nat} (h : Cr I I1 k row) (h2 : Cr I1 I2 k row) : Cr I I2 k row := ⟨fun x a b c => (h2.1 x a b c).trans (h.1 x a b c), fun j a => (h2.2 j a).trans (h.2 j a)⟩
theorem Cs.Cr {I I1 : Mem} {k : Nat} (h : Cs I I1 k) (row : Nat) : Cr I I1 k row := ⟨fun x a b _ => h.1 x a b, h.2⟩
theorem Cr.st {I : Mem} {k row j : Nat} {v : Int32} (h1 : row ≠ k) : Cr I (st I row j v) k row := ⟨fun x _ _ c => st_k c, fun j _ => by rw [st_k (Ne.symm h1)]⟩
theorem McC.row {I I1 : Mem} {k : Nat} (h : McC I k) (h1 : I1 k = I k) (h2 : I1 (k+8) = I (k+8)) : McC I1 k := by
  unfold McC
  rw [h1, h2]
  exact h
theorem e7_nextIndex {N : Nat} {I : Mem} {k row : Nat} {a v : Nat} {x y t : Int32} {n : Nat} {d : Nat → Itm} {m i l : Nat} (hN : 1100 ≤ N) (hC : McC I k) (hO : OkS (a, v, x, y, t, n, d, m, i, l)) (hR : RowR (I row) (a, v, x, y, t, n, d, m, i, l)) :
    ∃ I1, f7_nextIndex N I k row = some (zI (nxtI a v m i l : Int), I1) ∧ McC I1 k ∧ Cs I I1 k := by
  obtain ⟨h1, h2, h3, h4, h5, h6, h7, h8⟩ := hO
  obtain ⟨r0, r1, r2, r3, r4, r5, r6, r7, r8, r9⟩ := hR
  unfold f7_nextIndex nxtI
  have hil : i ≤ 999 ∧ l ≤ 999 := by
    rcases Nat.eq_zero_or_pos m with q | q
    · have := h7 q; omega
    · obtain ⟨b1, b2, b3, b4, b5⟩ := h8 q
      have := lenI_pos (h6 0 b1) b2
      omega
  have hu := e7_isUW N (m := m) (i := i) r7 (by omega)
  by_cases c : m = 0
  · refine ⟨I, ?_, hC, Cs.rf⟩
    rw [if_pos c] at hu ⊢
    simp (disch := omega) only [hu, letM_s, clP_s, clM_s, l_m89910, l_m999, l_m9, l_m4, l_m3, l_m2, l_m1, l_0, l_1, l_2, l_3, l_4, l_5, l_6, l_7, l_8, l_9, l_10, l_11, l_12, l_13, l_14, l_18, l_31, l_32, l_33, l_43, l_45, l_48, l_57, l_64, l_66, l_80, l_97, l_100, l_109, l_118, l_119, l_200, l_255, l_462, l_500, l_676, l_999, l_1000, l_1001, l_9999, l_10000, l_99999, l_100000, l_447214, l_1000000000, m_m999, m_m9, m_0, m_1, m_2, m_4, m_9, m_255, m_500, m_999, m_9999, m_10000, m_99999, m_200000000, m_4294967295, m_1442695040888963407, m_6364136223846793005, z_add, z_sub, z_mul, z_neg, y_add, y_sub, y_mul, y_neg, z_toL, y_toI, cmp_lt, cmp_gt, cmp_le, cmp_ge, z_lt, z_le, z_eq, y_lt, y_le, y_eq, if_pos, if_neg, ite_true, ite_false]
    rfl
  · obtain ⟨b1, b2, b3, b4, b5⟩ := h8 (by omega)
    obtain ⟨I1, q1, q2, q3⟩ := e7_fullTop (N := N) hN h1 h2 h3 h4 hC
    have e1 := e7_indexAfter N I1 (p := i) (left := l) (tp := topN a (cr v) 999) (by omega) b4 (by omega) (by have := topN_le a (cr v) 999; omega)
    refine ⟨I1, ?_, q2, q3⟩
    rw [if_neg c] at hu r7 ⊢
    simp (disch := omega) only [hu, r0, r1, r7, r8, q1, e1, letM_s, clP_s, clM_s, l_m89910, l_m999, l_m9, l_m4, l_m3, l_m2, l_m1, l_0, l_1, l_2, l_3, l_4, l_5, l_6, l_7, l_8, l_9, l_10, l_11, l_12, l_13, l_14, l_18, l_31, l_32, l_33, l_43, l_45, l_48, l_57, l_64, l_66, l_80, l_97, l_100, l_109, l_118, l_119, l_200, l_255, l_462, l_500, l_676, l_999, l_1000, l_1001, l_9999, l_10000, l_99999, l_100000, l_447214, l_1000000000, m_m999, m_m9, m_0, m_1, m_2, m_4, m_9, m_255, m_500, m_999, m_9999, m_10000, m_99999, m_200000000, m_4294967295, m_1442695040888963407, m_6364136223846793005, z_add, z_sub, z_mul, z_neg, y_add, y_sub, y_mul, y_neg, z_toL, y_toI, cmp_lt, cmp_gt, cmp_le, cmp_ge, z_lt, z_le, z_eq, y_lt, y_le, y_eq, if_pos, if_neg, ite_true, ite_false]
theorem e7_nextTicks {N : Nat} {I : Mem} {k row : Nat} {a v : Nat} {x y t : Int32} {n : Nat} {d : Nat → Itm} {m i l : Nat} (hN : 1100 ≤ N) (hC : McC I k) (hn : 0 < n) (hO : OkS (a, v, x, y, t, n, d, m, i, l)) (hR : RowR (I row) (a, v, x, y, t, n, d, m, i, l)) :
    ∃ I1, f7_nextTicks N I k row = some (zI (tkI a v (d 0).2.2 m i l : Int), I1) ∧ McC I1 k ∧ Cs I I1 k := by
  obtain ⟨I1, q1, q2, q3⟩ := e7_nextIndex hN hC hO hR
  have hx := nxtI_le hO
  obtain ⟨h1, h2, h3, h4, h5, h6, h7, h8⟩ := hO
  obtain ⟨r0, r1, r2, r3, r4, r5, r6, r7, r8, r9⟩ := hR
  obtain ⟨I2, s1, s2, s3⟩ := e7_intervalOf (n := nxtI a v m i l) hN h1 h2 h3 h4 (by omega) q2
  have hw := (r9 0 hn).2.2
  have hi := h6 0 hn
  unfold f7_nextTicks tkI
  rw [show (9 + 3 * 0 + 2 : Nat) = 11 from rfl] at hw
  obtain ⟨-, -, -, -, w1, w2, -⟩ := hi
  by_cases c : 0 < (d 0).2.2
  · refine ⟨I, ?_, hC, Cs.rf⟩
    rw [if_pos c, Int.toNat_of_nonneg w1]
    simp (disch := omega) only [hw, letM_s, clP_s, clM_s, l_m89910, l_m999, l_m9, l_m4, l_m3, l_m2, l_m1, l_0, l_1, l_2, l_3, l_4, l_5, l_6, l_7, l_8, l_9, l_10, l_11, l_12, l_13, l_14, l_18, l_31, l_32, l_33, l_43, l_45, l_48, l_57, l_64, l_66, l_80, l_97, l_100, l_109, l_118, l_119, l_200, l_255, l_462, l_500, l_676, l_999, l_1000, l_1001, l_9999, l_10000, l_99999, l_100000, l_447214, l_1000000000, m_m999, m_m9, m_0, m_1, m_2, m_4, m_9, m_255, m_500, m_999, m_9999, m_10000, m_99999, m_200000000, m_4294967295, m_1442695040888963407, m_6364136223846793005, z_add, z_sub, z_mul, z_neg, y_add, y_sub, y_mul, y_neg, z_toL, y_toI, cmp_lt, cmp_gt, cmp_le, cmp_ge, z_lt, z_le, z_eq, y_lt, y_le, y_eq, if_pos, if_neg, ite_true, ite_false]
  · refine ⟨I2, ?_, s2, q3.tr s3⟩
    rw [if_neg c]
    simp (disch := omega) only [hw, q1, r0, r1, s1, letM_s, clP_s, clM_s, l_m89910, l_m999, l_m9, l_m4, l_m3, l_m2, l_m1, l_0, l_1, l_2, l_3, l_4, l_5, l_6, l_7, l_8, l_9, l_10, l_11, l_12, l_13, l_14, l_18, l_31, l_32, l_33, l_43, l_45, l_48, l_57, l_64, l_66, l_80, l_97, l_100, l_109, l_118, l_119, l_200, l_255, l_462, l_500, l_676, l_999, l_1000, l_1001, l_9999, l_10000, l_99999, l_100000, l_447214, l_1000000000, m_m999, m_m9, m_0, m_1, m_2, m_4, m_9, m_255, m_500, m_999, m_9999, m_10000, m_99999, m_200000000, m_4294967295, m_1442695040888963407, m_6364136223846793005, z_add, z_sub, z_mul, z_neg, y_add, y_sub, y_mul, y_neg, z_toL, y_toI, cmp_lt, cmp_gt, cmp_le, cmp_ge, z_lt, z_le, z_eq, y_lt, y_le, y_eq, if_pos, if_neg, ite_true, ite_false]
theorem e7_step_ax (N : Nat) {k row s o m cnt : Nat} {I : Mem} {dd : Int} (v2 : Int32) (hs : s < 2) (hd1 : -999 ≤ dd) (hd2 : dd ≤ 999) (ho : 1 ≤ o) (ho2 : o ≤ 999) (hm : m < 999) (hd : I row (9 + s) = zI dd) (h6 : I row 6 = zI (m : Int)) :
    f7_stepIn_68 N k row (cnt+1) I v2 (zI (o : Int)) (zI (s : Int)) = f7_stepIn_68 N k row cnt (st I row (2 + s) (I row (2 + s) + (zI (wayZ dd o (m + 1)) - zI (wayZ dd o m)))) v2 (zI (o : Int)) (zI ((s + 1 : Nat) : Int)) := by
  have n1 : (zI (9 + (s : Int))).toNatClampNeg = 9 + s := by rw [z_nat (by omega) (by omega)]; omega
  have n2 : (zI (2 + (s : Int))).toNatClampNeg = 2 + s := by rw [z_nat (by omega) (by omega)]; omega
  have e1 := e7_abs N I (v := dd) (by omega) (by omega)
  have e2 := e7_gone N I (k := m + 1) (f := dd.natAbs) (o := o) (by omega) (by omega) ho (by omega)
  have e3 := e7_gone N I (k := m) (f := dd.natAbs) (o := o) (by omega) (by omega) ho (by omega)
  have e4 : zI ((m : Int) + 1) = zI ((m + 1 : Nat) : Int) := rfl
  rw [f7_stepIn_68]
  unfold wayZ
  by_cases c : 0 ≤ dd
  · simp only [if_neg (show ¬ dd < 0 by omega)]
    simp (disch := omega) only [l_9, l_2, l_0, l_1, z_add, n1, n2, hd, z_lt, z_le, if_neg, if_pos, letM_s, e1, clP_s, h6, e4, e2, e3]
    rfl
  · simp only [if_pos (show dd < 0 by omega)]
    simp (disch := omega) only [l_9, l_2, l_0, l_1, z_add, n1, n2, hd, z_lt, z_le, if_neg, if_pos, letM_s, e1, clP_s, h6, e4, e2, e3]
    simp only [z_neg, z_sub]
    rw [show (-((goneN (m + 1) dd.natAbs o : Int) - (goneN m dd.natAbs o : Int)) : Int) = -(goneN (m + 1) dd.natAbs o : Int) - -(goneN m dd.natAbs o : Int) by omega]
    rfl
theorem e7_step_end {N : Nat} {k row o m l0 cnt n : Nat} {I : Mem} (v2 : Int32) (hN : 100 ≤ N) (hn : 0 < n) (hn8 : n ≤ 8) (hm : m < 999) (hl : 1 ≤ l0) (hl2 : l0 ≤ 999) (h5 : I row 5 = zI (n : Int)) (h6 : I row 6 = zI (m : Int)) (h8 : I row 8 = zI (l0 : Int)) :
    ∃ I1, f7_stepIn_68 N k row (cnt+1) I v2 (zI (o : Int)) (zI ((2 : Nat) : Int)) = some (v2, I1) ∧ (∀ x, x ≠ row → I1 x = I x) ∧
      (if l0 - 1 = 0 then I1 row 5 = zI ((n - 1 : Nat) : Int) ∧ I1 row 6 = zI 0 ∧ I1 row 7 = zI (-9) ∧ I1 row 8 = zI 0 ∧ (∀ j, j < 5 → I1 row j = I row j) ∧ (∀ j e, j < n - 1 → e < 3 → I1 row (9 + 3 * j + e) = I row (9 + 3 * (j + 1) + e))
       else I1 row 6 = zI ((m + 1 : Nat) : Int) ∧ I1 row 8 = zI ((l0 - 1 : Nat) : Int) ∧ ∀ j, j ≠ 6 → j ≠ 8 → I1 row j = I row j) := by
  have e6 : zI ((m : Int) + 1) = zI ((m + 1 : Nat) : Int) := rfl
  have e8 : zI ((l0 : Int) - 1) = zI ((l0 - 1 : Nat) : Int) := by rw [show (l0 : Int) - 1 = ((l0 - 1 : Nat) : Int) by omega]
  have s8 : st I row 6 (zI ((m + 1 : Nat) : Int)) row 8 = zI (l0 : Int) := by rw [st_j (by omega)]; exact h8
  by_cases c : l0 - 1 = 0
  · obtain ⟨I1, q1, q2, q3, q4, q5, q6, q7, q8⟩ := e7_endMove (N := N) (I := st (st I row 6 (zI ((m + 1 : Nat) : Int))) row 8 (zI ((l0 - 1 : Nat) : Int))) (k := row) (n := n) hN hn8 hn (by rw [st_j (by omega), st_j (by omega)]; exact h5)
    refine ⟨I1, ?_, fun x hx => by rw [q8 x hx, st_k hx, st_k hx], ?_⟩
    · rw [f7_stepIn_68, l_2, show zI ((2 : Nat) : Int) = zI 2 from rfl]
      simp (disch := omega) only [z_le, if_pos, letM_s, h6, l_1, l_0, z_add, e6, s8, z_sub, e8, st_s, z_eq, q1, clM_s]
    · rw [if_pos c]
      refine ⟨q2, q3, q4, q5, fun j hj => by rw [q6 j hj, st_j (by omega), st_j (by omega)], fun j e hj he => by rw [q7 j e hj he, st_j (by omega), st_j (by omega)]⟩
  · refine ⟨st (st I row 6 (zI ((m + 1 : Nat) : Int))) row 8 (zI ((l0 - 1 : Nat) : Int)), ?_, fun x hx => by rw [st_k hx, st_k hx], ?_⟩
    · rw [f7_stepIn_68, l_2, show zI ((2 : Nat) : Int) = zI 2 from rfl]
      simp (disch := omega) only [z_le, if_pos, letM_s, h6, l_1, l_0, z_add, e6, s8, z_sub, e8, st_s, z_eq, if_neg]
    · rw [if_neg c]
      exact ⟨by rw [st_j (by omega), st_s], st_s _ _ _ _, fun j a b => by rw [st_j b, st_j a]⟩
theorem e7_stepIn {N : Nat} {I : Mem} {k row : Nat} {s : Sg} (hN : 1100 ≤ N) (hk : row ≠ k) (hk8 : row ≠ k + 8) (hC : McC I k) (hn : 0 < s.2.2.2.2.2.1) (hO : OkS s) (hR : RowR (I row) s) :
    ∃ I1, f7_stepIn N I k row = some (zI (tkS s : Int), I1) ∧ RowR (I1 row) (stepS s) ∧ McC I1 k ∧ Cr I I1 k row := by
  obtain ⟨a, v, x, y, t, n, d, m, i, l⟩ := s
  replace hn : 0 < n := hn
  obtain ⟨I1, q1, q2, q3⟩ := e7_nextTicks hN hC hn hO hR
  have r1 : I1 row = I row := q3.1 row hk hk8
  have hx := nxtI_le hO
  obtain ⟨h1, h2, h3, h4, h5, h6, h7, h8⟩ := id hO
  obtain ⟨r0, r1', r2, r3, r4, r5, r6, r7, r8, r9⟩ := id hR
  have hit := h6 0 hn
  have hw := (r9 0 hn).2.2
  rw [show (9 + 3 * 0 + 2 : Nat) = 11 from rfl] at hw
  obtain ⟨b1, b2, b3, b4, w1, w2, -⟩ := id hit
  -- the clock first
  generalize htk : tkI a v (d 0).2.2 m i l = tk at *
  obtain ⟨I2, hI2⟩ : ∃ I2, I2 = st I1 row 4 (t + zI (tk : Int)) := ⟨_, rfl⟩
  have g2 : ∀ j, j ≠ 4 → I2 row j = I row j := fun j hj => by rw [hI2, st_j hj, r1]
  have g24 : I2 row 4 = t + zI (tk : Int) := by rw [hI2, st_s]
  have f2 : Cr I I2 k row := (q3.Cr row).tr (by rw [hI2]; exact Cr.st hk)
  have c2 : McC I2 k := q2.row (by rw [hI2, st_k (Ne.symm hk)]) (by rw [hI2, st_k (Ne.symm hk8)])
  have hR2 : RowR (I2 row) (a, v, x, y, t + zI (tk : Int), n, d, m, i, l) := by
    refine ⟨by rw [g2 0 (by omega)]; exact r0, by rw [g2 1 (by omega)]; exact r1', by rw [g2 2 (by omega)]; exact r2, by rw [g2 3 (by omega)]; exact r3, g24, by rw [g2 5 (by omega)]; exact r5, by rw [g2 6 (by omega)]; exact r6, by rw [g2 7 (by omega)]; exact r7, by rw [g2 8 (by omega)]; exact r8, fun j hj => ?_⟩
    rw [g2 _ (by omega), g2 _ (by omega), g2 _ (by omega)]
    exact r9 j hj
  have ha : f7_stepIn N I k row = (if I2 row 11 ≤ (0 : Int32) then clP (f7_lengthOf N I2 row (0 : Int32)) (fun q_6 I_7 => clP (f7_nextIndex N I_7 k row) (fun q_9 I_10 => clP (f7_isUnderWay N I_10 row) (fun q_12 I_13 => if q_12 = (0 : Int32) then f7_stepIn_58 N k row I_13 (zI (tk : Int)) q_6 q_9 q_6 (8 : Int32) else f7_stepIn_58 N k row I_13 (zI (tk : Int)) q_6 q_9 (I_13 row 8) (8 : Int32)))) else clM (f7_dropItem N I2 row (0 : Int32)) (fun I_51 => some (zI (tk : Int), I_51))) := by
    unfold f7_stepIn
    rw [q1]
    simp only [clP_s, letM_s]
    rw [show I1 row 4 = t by rw [r1]; exact r4, hI2]
  rw [ha]
  simp only [stepS, tkS, htk]
  by_cases c : 0 < (d 0).2.2
  · -- a wait
    have hm : m = 0 := by
      rcases Nat.eq_zero_or_pos m with q | q
      · exact q
      · have := (h8 q).2.1; omega
    obtain ⟨z1, z2⟩ := h7 hm
    subst hm; subst z1; subst z2
    obtain ⟨I3, s1, s2, s3, s4, s5⟩ := e7_drop (N := N) (I := I2) (k := row) (i := 0) (by omega) h5 hn (by rw [g2 5 (by omega)]; exact r5)
    refine ⟨I3, ?_, ?_, c2.row (s5 k (Ne.symm hk)) (s5 (k+8) (Ne.symm hk8)), f2.tr ⟨fun x _ _ e => s5 x e, fun j _ => by rw [s5 k (Ne.symm hk)]⟩⟩
    · rw [g2 11 (by omega), hw, l_0, if_neg (by rw [z_le (by omega) (by omega) (by omega) (by omega)]; omega), show zI 0 = zI ((0 : Nat) : Int) from rfl, s1]
      rfl
    · simp only [if_pos c]
      refine ⟨by rw [s3 0 (by omega) (by omega), g2 0 (by omega)]; exact r0, by rw [s3 1 (by omega) (by omega), g2 1 (by omega)]; exact r1', by rw [s3 2 (by omega) (by omega), g2 2 (by omega)]; exact r2, by rw [s3 3 (by omega) (by omega), g2 3 (by omega)]; exact r3, by rw [s3 4 (by omega) (by omega)]; exact g24, s2, by rw [s3 6 (by omega) (by omega), g2 6 (by omega)]; exact r6, by rw [s3 7 (by omega) (by omega), g2 7 (by omega)]; exact r7, by rw [s3 8 (by omega) (by omega), g2 8 (by omega)]; exact r8, fun j hj => ?_⟩
      have p0 := s4 j 0 hj (by omega)
      have p1 := s4 j 1 hj (by omega)
      have p2 := s4 j 2 hj (by omega)
      rw [if_neg (Nat.not_lt_zero j)] at p0 p1 p2
      rw [Nat.add_zero, Nat.add_zero] at p0
      rw [p0, p1, p2, g2 _ (by omega), g2 _ (by omega), g2 _ (by omega)]
      unfold dropD
      rw [if_neg (Nat.not_lt_zero j)]
      exact r9 (j + 1) (by omega)
  · -- a move
    have hw0 : (d 0).2.2 = 0 := by omega
    have hlen := lenI_pos hit hw0
    have hO2 : OkS (a, v, x, y, t + zI (tk : Int), n, d, m, i, l) := hO
    have e1 := e7_lengthOf N (I := I2) (k := row) (j := 0) (d := d 0) (by omega) hit (by rw [g2 _ (by omega)]; exact (r9 0 hn).1) (by rw [g2 _ (by omega)]; exact (r9 0 hn).2.1)
    obtain ⟨I3, s1, s2, s3⟩ := e7_nextIndex hN c2 hO2 hR2
    have r3' : I3 row = I2 row := s3.1 row hk hk8
    have hil : i < 100000 := by
      rcases Nat.eq_zero_or_pos m with q | q
      · have := h7 q; omega
      · have := h8 q; omega
    have e2 := e7_isUW N (I := I3) (k := row) (m := m) (i := i) (by rw [r3', g2 7 (by omega)]; exact r7) hil
    generalize hl0 : (if m = 0 then lenI (d 0) else l) = l0 at *
    have hl0b : 1 ≤ l0 ∧ m + l0 ≤ 999 := by
      by_cases q : m = 0
      · rw [if_pos q] at hl0; omega
      · rw [if_neg q] at hl0; have := h8 (by omega); omega
    -- all of 58 with the left steps l0
    have hb : (if I2 row 11 ≤ (0 : Int32) then clP (f7_lengthOf N I2 row (0 : Int32)) (fun q_6 I_7 => clP (f7_nextIndex N I_7 k row) (fun q_9 I_10 => clP (f7_isUnderWay N I_10 row) (fun q_12 I_13 => if q_12 = (0 : Int32) then f7_stepIn_58 N k row I_13 (zI (tk : Int)) q_6 q_9 q_6 (8 : Int32) else f7_stepIn_58 N k row I_13 (zI (tk : Int)) q_6 q_9 (I_13 row 8) (8 : Int32)))) else clM (f7_dropItem N I2 row (0 : Int32)) (fun I_51 => some (zI (tk : Int), I_51))) = f7_stepIn_58 N k row I3 (zI (tk : Int)) (zI (lenI (d 0) : Int)) (zI (nxtI a v m i l : Int)) (zI (l0 : Int)) (8 : Int32) := by
      rw [g2 11 (by omega), hw, l_0, if_pos (by rw [z_le (by omega) (by omega) (by omega) (by omega)]; omega), show zI 0 = zI ((0 : Nat) : Int) from rfl, e1]
      simp only [clP_s, s1, e2]
      by_cases q : m = 0
      · rw [if_pos q] at hl0 ⊢
        rw [show ((0 : Nat) : Int) = 0 from rfl, if_pos rfl, hl0]
      · rw [if_neg q] at hl0 ⊢
        rw [if_neg (by rw [show ((0 : Nat) : Int) = 0 from rfl, z_eq (by omega) (by omega) (by omega) (by omega)]; omega), r3', g2 8 (by omega), r8, hl0]
    rw [hb]
    unfold f7_stepIn_58
    have n8 : (zI (8 : Int)).toNatClampNeg = 8 := by rw [z_nat (by omega) (by omega)]; rfl
    obtain ⟨I4, hI4⟩ : ∃ I4, I4 = st (st I3 row 8 (zI (l0 : Int))) row 7 (zI (nxtI a v m i l : Int)) := ⟨_, rfl⟩
    have hc : (if ((8 : Int32) < (0 : Int32) ∨ 33 ≤ (8 : Int32).toNatClampNeg) then none else letM (st I3 row ((8 : Int32).toNatClampNeg) (zI (l0 : Int))) (fun I_17 => letM (st I_17 row 7 (zI (nxtI a v m i l : Int))) (fun I_18 => f7_stepIn_68 N k row N I_18 (zI (tk : Int)) (zI (lenI (d 0) : Int)) (0 : Int32)))) = f7_stepIn_68 N k row N I4 (zI (tk : Int)) (zI (lenI (d 0) : Int)) (zI ((0 : Nat) : Int)) := by
      simp (disch := omega) only [l_8, l_0, n8, z_lt, if_neg, letM_s]
      rw [hI4]
      rfl
    rw [hc]
    have g4 : ∀ j, j ≠ 4 → j ≠ 7 → j ≠ 8 → I4 row j = I row j := fun j a1 a2 a3 => by rw [hI4, st_j a2, st_j a3, r3', g2 j a1]
    have g44 : I4 row 4 = t + zI (tk : Int) := by rw [hI4, st_j (by omega), st_j (by omega), r3', g24]
    have g47 : I4 row 7 = zI (nxtI a v m i l : Int) := by rw [hI4, st_s]
    have g48 : I4 row 8 = zI (l0 : Int) := by rw [hI4, st_j (by omega), st_s]
    obtain ⟨cN, rfl⟩ : ∃ cN, N = cN + 1 + 1 + 1 := ⟨N - 3, by omega⟩
    rw [e7_step_ax (cN+1+1+1) (s := 0) (o := lenI (d 0)) (m := m) (dd := (d 0).1) (zI (tk : Int)) (by omega) b1 b2 hlen.1 hlen.2 (by omega) (by rw [g4 _ (by omega) (by omega) (by omega)]; exact (r9 0 hn).1) (by rw [g4 6 (by omega) (by omega) (by omega)]; exact r6)]
    rw [e7_step_ax (cN+1+1+1) (s := 0 + 1) (o := lenI (d 0)) (m := m) (dd := (d 0).2.1) (zI (tk : Int)) (by omega) b3 b4 hlen.1 hlen.2 (by omega) (by rw [st_j (by omega), g4 _ (by omega) (by omega) (by omega)]; exact (r9 0 hn).2.1) (by rw [st_j (by omega), g4 6 (by omega) (by omega) (by omega)]; exact r6)]
    obtain ⟨I6, hI6⟩ : ∃ I6, I6 = st (st I4 row (2 + 0) (I4 row (2 + 0) + (zI (wayZ (d 0).1 (lenI (d 0)) (m + 1)) - zI (wayZ (d 0).1 (lenI (d 0)) m)))) row (2 + (0 + 1)) (st I4 row (2 + 0) (I4 row (2 + 0) + (zI (wayZ (d 0).1 (lenI (d 0)) (m + 1)) - zI (wayZ (d 0).1 (lenI (d 0)) m))) row (2 + (0 + 1)) + (zI (wayZ (d 0).2.1 (lenI (d 0)) (m + 1)) - zI (wayZ (d 0).2.1 (lenI (d 0)) m))) := ⟨_, rfl⟩
    rw [← hI6]
    have g6 : ∀ j, j ≠ 2 → j ≠ 3 → I6 row j = I4 row j := fun j a1 a2 => by rw [hI6, st_j (by omega), st_j (by omega)]
    have g62 : I6 row 2 = x + (zI (wayZ (d 0).1 (lenI (d 0)) (m + 1)) - zI (wayZ (d 0).1 (lenI (d 0)) m)) := by
      rw [hI6, st_j (by omega), show (2 + 0 : Nat) = 2 from rfl, st_s, g4 2 (by omega) (by omega) (by omega), r2]
    have g63 : I6 row 3 = y + (zI (wayZ (d 0).2.1 (lenI (d 0)) (m + 1)) - zI (wayZ (d 0).2.1 (lenI (d 0)) m)) := by
      rw [hI6, show (2 + (0 + 1) : Nat) = 3 from rfl, st_s, st_j (by omega), g4 3 (by omega) (by omega) (by omega), r3]
    obtain ⟨I7, p1, p2, p3⟩ := e7_step_end (N := cN+1+1+1) (k := k) (row := row) (o := lenI (d 0)) (m := m) (l0 := l0) (cnt := cN) (n := n) (I := I6) (zI (tk : Int)) (by omega) hn h5 (by omega) hl0b.1 (by omega) (by rw [g6 5 (by omega) (by omega), g4 5 (by omega) (by omega) (by omega)]; exact r5) (by rw [g6 6 (by omega) (by omega), g4 6 (by omega) (by omega) (by omega)]; exact r6) (by rw [g6 8 (by omega) (by omega)]; exact g48)
    have f4 : Cr I I7 k row := by
      refine (f2.tr (s3.Cr row)).tr ⟨fun x1 a1 a2 a3 => ?_, fun j hj => ?_⟩
      · rw [p2 x1 a3, hI6, st_k a3, st_k a3, hI4, st_k a3, st_k a3]
      · rw [p2 k (Ne.symm hk), hI6, st_k (Ne.symm hk), st_k (Ne.symm hk), hI4, st_k (Ne.symm hk), st_k (Ne.symm hk)]
    have c7 : McC I7 k := s2.row (by rw [p2 k (Ne.symm hk), hI6, st_k (Ne.symm hk), st_k (Ne.symm hk), hI4, st_k (Ne.symm hk), st_k (Ne.symm hk)]) (by rw [p2 (k+8) (Ne.symm hk8), hI6, st_k (Ne.symm hk8), st_k (Ne.symm hk8), hI4, st_k (Ne.symm hk8), st_k (Ne.symm hk8)])
    refine ⟨I7, p1, ?_, c7, f4⟩
    simp only [if_neg c]
    by_cases c2 : l0 - 1 = 0
    · rw [if_pos c2] at p3
      obtain ⟨p5, p6, p7, p8, pj, pe⟩ := p3
      simp only [if_pos c2]
      refine ⟨by rw [pj 0 (by omega), g6 0 (by omega) (by omega), g4 0 (by omega) (by omega) (by omega)]; exact r0, by rw [pj 1 (by omega), g6 1 (by omega) (by omega), g4 1 (by omega) (by omega) (by omega)]; exact r1', by rw [pj 2 (by omega)]; exact g62, by rw [pj 3 (by omega)]; exact g63, by rw [pj 4 (by omega), g6 4 (by omega) (by omega)]; exact g44, p5, p6, p7, p8, fun j hj => ?_⟩
      have p0 := pe j 0 hj (by omega)
      have p1 := pe j 1 hj (by omega)
      have p2 := pe j 2 hj (by omega)
      rw [Nat.add_zero, Nat.add_zero] at p0
      rw [p0, p1, p2, g6 _ (by omega) (by omega), g6 _ (by omega) (by omega), g6 _ (by omega) (by omega), g4 _ (by omega) (by omega) (by omega), g4 _ (by omega) (by omega) (by omega), g4 _ (by omega) (by omega) (by omega)]
      unfold dropD
      rw [if_neg (Nat.not_lt_zero j)]
      exact r9 (j + 1) (by omega)
    · rw [if_neg c2] at p3
      obtain ⟨p6, p8, pj⟩ := p3
      simp only [if_neg c2]
      refine ⟨by rw [pj 0 (by omega) (by omega), g6 0 (by omega) (by omega), g4 0 (by omega) (by omega) (by omega)]; exact r0, by rw [pj 1 (by omega) (by omega), g6 1 (by omega) (by omega), g4 1 (by omega) (by omega) (by omega)]; exact r1', by rw [pj 2 (by omega) (by omega)]; exact g62, by rw [pj 3 (by omega) (by omega)]; exact g63, by rw [pj 4 (by omega) (by omega), g6 4 (by omega) (by omega)]; exact g44, by rw [pj 5 (by omega) (by omega), g6 5 (by omega) (by omega), g4 5 (by omega) (by omega) (by omega)]; exact r5, p6, by rw [pj 7 (by omega) (by omega), g6 7 (by omega) (by omega), if_neg (by omega)]; exact g47, p8, fun j hj => ?_⟩
      rw [pj _ (by omega) (by omega), pj _ (by omega) (by omega), pj _ (by omega) (by omega), g6 _ (by omega) (by omega), g6 _ (by omega) (by omega), g6 _ (by omega) (by omega), g4 _ (by omega) (by omega) (by omega), g4 _ (by omega) (by omega) (by omega), g4 _ (by omega) (by omega) (by omega)]
      exact r9 j hj
