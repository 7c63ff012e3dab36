/-! THE CLASS' PROFILE AND RAMP -/
theorem z_divN {a b : Nat} (ha : a < 2147483648) (hb : b < 2147483648) : zI (a : Int) / zI (b : Int) = zI ((a / b : Nat) : Int) := by
  rw [z_div (by omega) (by omega) (by omega) (by omega), Int.tdiv_eq_ediv_of_nonneg (by omega), Int.natCast_ediv]
theorem y_divN {a b : Nat} (ha : a < 9223372036854775808) (hb : b < 9223372036854775808) : yI (a : Int) / yI (b : Int) = yI ((a / b : Nat) : Int) := by
  rw [y_div (by omega) (by omega) (by omega) (by omega), Int.tdiv_eq_ediv_of_nonneg (by omega), Int.natCast_ediv]
theorem zN_inj {a b : Nat} (h : zI (a : Int) = zI (b : Int)) (ha : a < 2147483648) (hb : b < 2147483648) : a = b := by
  rw [z_eq (by omega) (by omega) (by omega) (by omega)] at h
  omega
theorem e1_root_29 (N : Nat) (I : Mem) (a0 a1 a2 : Int32) (M r : Nat) (hr1 : r * r ≤ M) (hr2 : M < (r + 1) * (r + 1)) (h0 : 0 < r) (hM : M < 1000000000000) : ∀ (d g v cnt : Nat), r ≤ g → g < 2147483648 → g - r < 2 ^ d → v + d ≤ 63 → d < cnt → f1_root_29 N a0 a1 a2 cnt I (yI (M : Int)) (yI (g : Int)) (zI (v : Int)) = some (zI (r : Int), I) := by
  intro d
  induction d with
  | zero =>
    intro g v cnt h1 h2 h3 h4 h5
    obtain ⟨cnt, rfl⟩ : ∃ c, cnt = c + 1 := ⟨cnt - 1, by omega⟩
    have hg : g = r := by omega
    subst hg
    have hn := nw_ge hr1 (Nat.le_refl g) h0
    have e : (yI (g : Int) + yI (M : Int) / yI (g : Int)) / yI 2 = yI (((g + M / g) / 2 : Nat) : Int) := by
      have hb : M / g ≤ M := Nat.div_le_self _ _
      rw [y_divN (by omega) (by omega), y_add, y_div (by omega) (by omega) (by omega) (by omega), Int.tdiv_eq_ediv_of_nonneg (by omega)]
      congr 1
    have hb2 : (g + M / g) / 2 < 9223372036854775808 := by have hb : M / g ≤ M := Nat.div_le_self _ _; omega
    rw [f1_root_29]
    simp (disch := omega) only [m_2, e, letM_s, clP_s, clM_s, l_m89910, l_m999, l_m9, l_m4, l_m3, l_m2, l_m1, l_0, l_1, l_2, l_3, l_4, l_5, l_6, l_7, l_8, l_9, l_10, l_11, l_12, l_13, l_14, l_18, l_31, l_32, l_33, l_43, l_45, l_48, l_57, l_64, l_66, l_80, l_97, l_100, l_109, l_118, l_119, l_200, l_255, l_462, l_500, l_676, l_999, l_1000, l_1001, l_9999, l_10000, l_99999, l_100000, l_447214, l_1000000000, m_m999, m_m9, m_0, m_1, m_2, m_4, m_9, m_255, m_500, m_999, m_9999, m_10000, m_99999, m_200000000, m_4294967295, m_1442695040888963407, m_6364136223846793005, z_add, z_sub, z_mul, z_neg, y_add, y_sub, y_mul, y_neg, z_toL, y_toI, cmp_lt, cmp_gt, cmp_le, cmp_ge, z_lt, z_le, z_eq, y_lt, y_le, y_eq, if_pos, if_neg]
  | succ d ih =>
    intro g v cnt h1 h2 h3 h4 h5
    obtain ⟨cnt, rfl⟩ : ∃ c, cnt = c + 1 := ⟨cnt - 1, by omega⟩
    have hn := nw_ge hr1 h1 (by omega)
    have e : (yI (g : Int) + yI (M : Int) / yI (g : Int)) / yI 2 = yI (((g + M / g) / 2 : Nat) : Int) := by
      have hb : M / g ≤ M := Nat.div_le_self _ _
      rw [y_divN (by omega) (by omega), y_add, y_div (by omega) (by omega) (by omega) (by omega), Int.tdiv_eq_ediv_of_nonneg (by omega)]
      congr 1
    have hb2 : (g + M / g) / 2 < 9223372036854775808 := by have hb : M / g ≤ M := Nat.div_le_self _ _; omega
    rcases Nat.lt_or_ge r g with q | q
    · have hh := nw_half hr2 q
      have hp : 2 ^ (d + 1) = 2 * 2 ^ d := by rw [Nat.pow_succ, Nat.mul_comm]
      have hi := ih ((g + M / g) / 2) (v + 1) cnt hn (by omega) (by omega) (by omega) (by omega)
      rw [f1_root_29]
      simp (disch := omega) only [m_2, e, letM_s, clP_s, clM_s, l_m89910, l_m999, l_m9, l_m4, l_m3, l_m2, l_m1, l_0, l_1, l_2, l_3, l_4, l_5, l_6, l_7, l_8, l_9, l_10, l_11, l_12, l_13, l_14, l_18, l_31, l_32, l_33, l_43, l_45, l_48, l_57, l_64, l_66, l_80, l_97, l_100, l_109, l_118, l_119, l_200, l_255, l_462, l_500, l_676, l_999, l_1000, l_1001, l_9999, l_10000, l_99999, l_100000, l_447214, l_1000000000, m_m999, m_m9, m_0, m_1, m_2, m_4, m_9, m_255, m_500, m_999, m_9999, m_10000, m_99999, m_200000000, m_4294967295, m_1442695040888963407, m_6364136223846793005, z_add, z_sub, z_mul, z_neg, y_add, y_sub, y_mul, y_neg, z_toL, y_toI, cmp_lt, cmp_gt, cmp_le, cmp_ge, z_lt, z_le, z_eq, y_lt, y_le, y_eq, if_pos, if_neg]
      exact hi
    · have hg : g = r := by omega
      subst hg
      rw [f1_root_29]
      simp (disch := omega) only [m_2, e, letM_s, clP_s, clM_s, l_m89910, l_m999, l_m9, l_m4, l_m3, l_m2, l_m1, l_0, l_1, l_2, l_3, l_4, l_5, l_6, l_7, l_8, l_9, l_10, l_11, l_12, l_13, l_14, l_18, l_31, l_32, l_33, l_43, l_45, l_48, l_57, l_64, l_66, l_80, l_97, l_100, l_109, l_118, l_119, l_200, l_255, l_462, l_500, l_676, l_999, l_1000, l_1001, l_9999, l_10000, l_99999, l_100000, l_447214, l_1000000000, m_m999, m_m9, m_0, m_1, m_2, m_4, m_9, m_255, m_500, m_999, m_9999, m_10000, m_99999, m_200000000, m_4294967295, m_1442695040888963407, m_6364136223846793005, z_add, z_sub, z_mul, z_neg, y_add, y_sub, y_mul, y_neg, z_toL, y_toI, cmp_lt, cmp_gt, cmp_le, cmp_ge, z_lt, z_le, z_eq, y_lt, y_le, y_eq, if_pos, if_neg]
theorem e1_root {N : Nat} (I : Mem) {a n s : Nat} (hN : 100 ≤ N) (ha : 1 ≤ a) (ha2 : a ≤ 999) (hn2 : n ≤ 1000) (hs : T a n ≤ s) (hs2 : s < 1073741824) : f1_root N I (zI (a : Int)) (zI (n : Int)) (zI (s : Int)) = some (zI (T a n : Int), I) := by
  unfold f1_root
  rcases Nat.eq_zero_or_pos n with h | h
  · subst h
    simp (disch := omega) only [T_0, letM_s, clP_s, clM_s, l_m89910, l_m999, l_m9, l_m4, l_m3, l_m2, l_m1, l_0, l_1, l_2, l_3, l_4, l_5, l_6, l_7, l_8, l_9, l_10, l_11, l_12, l_13, l_14, l_18, l_31, l_32, l_33, l_43, l_45, l_48, l_57, l_64, l_66, l_80, l_97, l_100, l_109, l_118, l_119, l_200, l_255, l_462, l_500, l_676, l_999, l_1000, l_1001, l_9999, l_10000, l_99999, l_100000, l_447214, l_1000000000, m_m999, m_m9, m_0, m_1, m_2, m_4, m_9, m_255, m_500, m_999, m_9999, m_10000, m_99999, m_200000000, m_4294967295, m_1442695040888963407, m_6364136223846793005, z_add, z_sub, z_mul, z_neg, y_add, y_sub, y_mul, y_neg, z_toL, y_toI, cmp_lt, cmp_gt, cmp_le, cmp_ge, z_lt, z_le, z_eq, y_lt, y_le, y_eq, if_pos, if_neg]
    rfl
  · have hd : 200000000 * n / a ≤ 200000000 * n := Nat.div_le_self _ _
    have e : yI 200000000 * yI (n : Int) = yI ((200000000 * n : Nat) : Int) := by rw [y_mul]; rfl
    have hT := T_ge ha ha2 h
    have hl := e1_root_29 N I (zI (a : Int)) (zI (n : Int)) (zI (s : Int)) (200000000 * n / a) (T a n) (isq_le _) (isq_lt _) (by omega) (by omega) 31 s 0 N hs (by omega) (by omega) (by omega) (by omega)
    simp (disch := omega) only [e, y_divN, letM_s, clP_s, clM_s, l_m89910, l_m999, l_m9, l_m4, l_m3, l_m2, l_m1, l_0, l_1, l_2, l_3, l_4, l_5, l_6, l_7, l_8, l_9, l_10, l_11, l_12, l_13, l_14, l_18, l_31, l_32, l_33, l_43, l_45, l_48, l_57, l_64, l_66, l_80, l_97, l_100, l_109, l_118, l_119, l_200, l_255, l_462, l_500, l_676, l_999, l_1000, l_1001, l_9999, l_10000, l_99999, l_100000, l_447214, l_1000000000, m_m999, m_m9, m_0, m_1, m_2, m_4, m_9, m_255, m_500, m_999, m_9999, m_10000, m_99999, m_200000000, m_4294967295, m_1442695040888963407, m_6364136223846793005, z_add, z_sub, z_mul, z_neg, y_add, y_sub, y_mul, y_neg, z_toL, y_toI, cmp_lt, cmp_gt, cmp_le, cmp_ge, z_lt, z_le, z_eq, y_lt, y_le, y_eq, if_pos, if_neg]
    exact hl
theorem e1_rootAfter {N : Nat} (I : Mem) {a n : Nat} (hN : 100 ≤ N) (ha : 1 ≤ a) (ha2 : a ≤ 999) (hn2 : n ≤ 999) : f1_rootAfter N I (zI (a : Int)) (zI (n : Int)) (zI (T a n : Int)) = some (zI (T a (n+1) : Int), I) := by
  unfold f1_rootAfter
  have hb := T_bd (n := n) ha (by omega)
  rcases Nat.eq_zero_or_pos n with h | h
  · subst h
    have h1 := T_bd (n := 1) ha (by omega)
    have hr := e1_root (N := N) I (a := a) (n := 1) (s := 447214) hN ha ha2 (by omega) (by omega) (by omega)
    simp (disch := omega) only [letM_s, clP_s, clM_s, l_m89910, l_m999, l_m9, l_m4, l_m3, l_m2, l_m1, l_0, l_1, l_2, l_3, l_4, l_5, l_6, l_7, l_8, l_9, l_10, l_11, l_12, l_13, l_14, l_18, l_31, l_32, l_33, l_43, l_45, l_48, l_57, l_64, l_66, l_80, l_97, l_100, l_109, l_118, l_119, l_200, l_255, l_462, l_500, l_676, l_999, l_1000, l_1001, l_9999, l_10000, l_99999, l_100000, l_447214, l_1000000000, m_m999, m_m9, m_0, m_1, m_2, m_4, m_9, m_255, m_500, m_999, m_9999, m_10000, m_99999, m_200000000, m_4294967295, m_1442695040888963407, m_6364136223846793005, z_add, z_sub, z_mul, z_neg, y_add, y_sub, y_mul, y_neg, z_toL, y_toI, cmp_lt, cmp_gt, cmp_le, cmp_ge, z_lt, z_le, z_eq, y_lt, y_le, y_eq, if_pos, if_neg]
    exact congrArg (fun x => clP x _) hr
  · have hq := T_after ha h
    have hd : (T a n + 1) / (2 * n) ≤ T a n + 1 := Nat.div_le_self _ _
    have e1 : zI 2 * zI (n : Int) = zI ((2 * n : Nat) : Int) := by rw [z_mul]; rfl
    have e2 : zI (T a n : Int) + zI 1 = zI ((T a n + 1 : Nat) : Int) := by rw [z_add]; rfl
    have e3 : zI ((T a n + 1 : Nat) : Int) + zI (((T a n + 1) / (2 * n) : Nat) : Int) = zI ((T a n + 1 + (T a n + 1) / (2 * n) : Nat) : Int) := by rw [z_add]; rfl
    have e4 : zI (n : Int) + zI 1 = zI ((n + 1 : Nat) : Int) := by rw [z_add]; rfl
    have hr := e1_root (N := N) I (a := a) (n := n + 1) (s := T a n + 1 + (T a n + 1) / (2 * n)) hN ha ha2 (by omega) hq (by omega)
    simp (disch := omega) only [l_1, l_2, e1, e2, e4, z_divN, e3, hr, letM_s, clP_s, clM_s, l_m89910, l_m999, l_m9, l_m4, l_m3, l_m2, l_m1, l_0, l_1, l_2, l_3, l_4, l_5, l_6, l_7, l_8, l_9, l_10, l_11, l_12, l_13, l_14, l_18, l_31, l_32, l_33, l_43, l_45, l_48, l_57, l_64, l_66, l_80, l_97, l_100, l_109, l_118, l_119, l_200, l_255, l_462, l_500, l_676, l_999, l_1000, l_1001, l_9999, l_10000, l_99999, l_100000, l_447214, l_1000000000, m_m999, m_m9, m_0, m_1, m_2, m_4, m_9, m_255, m_500, m_999, m_9999, m_10000, m_99999, m_200000000, m_4294967295, m_1442695040888963407, m_6364136223846793005, z_add, z_sub, z_mul, z_neg, y_add, y_sub, y_mul, y_neg, z_toL, y_toI, cmp_lt, cmp_gt, cmp_le, cmp_ge, z_lt, z_le, z_eq, y_lt, y_le, y_eq, if_pos, if_neg]
theorem e1_cruise (N : Nat) (I : Mem) {v : Nat} (hv : 1 ≤ v) (hv2 : v ≤ 999) : f1_cruiseInterval N I (zI (v : Int)) = some (zI (cr v : Int), I) := by
  unfold f1_cruiseInterval
  have e : zI (10000 + (v : Int) - 1) / zI (v : Int) = zI (cr v : Int) := by
    rw [show (10000 + (v : Int) - 1) = ((10000 + v - 1 : Nat) : Int) by omega, z_divN (by omega) (by omega)]
    rfl
  simp (disch := omega) only [letM_s, clP_s, clM_s, l_m89910, l_m999, l_m9, l_m4, l_m3, l_m2, l_m1, l_0, l_1, l_2, l_3, l_4, l_5, l_6, l_7, l_8, l_9, l_10, l_11, l_12, l_13, l_14, l_18, l_31, l_32, l_33, l_43, l_45, l_48, l_57, l_64, l_66, l_80, l_97, l_100, l_109, l_118, l_119, l_200, l_255, l_462, l_500, l_676, l_999, l_1000, l_1001, l_9999, l_10000, l_99999, l_100000, l_447214, l_1000000000, m_m999, m_m9, m_0, m_1, m_2, m_4, m_9, m_255, m_500, m_999, m_9999, m_10000, m_99999, m_200000000, m_4294967295, m_1442695040888963407, m_6364136223846793005, z_add, z_sub, z_mul, z_neg, y_add, y_sub, y_mul, y_neg, z_toL, y_toI, cmp_lt, cmp_gt, cmp_le, cmp_ge, z_lt, z_le, z_eq, y_lt, y_le, y_eq, if_pos, if_neg, e]
/-- a number of indices below the top index -/
def lowN (a c b : Nat) : Nat := min b (200000000 / (4 * a * (c + 1) * (c + 1)))
theorem lowN_up {a c b i : Nat} (ha : 1 ≤ a) (h : i < lowN a c b) : c < Rr a i := by
  refine R_low ha ?_
  have h1 : i + 1 ≤ 200000000 / (4 * a * (c + 1) * (c + 1)) := by unfold lowN at h; omega
  exact Nat.le_trans (Nat.mul_le_mul_right _ h1) (Nat.div_mul_le_self _ _)
theorem eJ_minL (N : Nat) (I : Mem) {a b : Nat} (ha : a < 9223372036854775808) (hb : b < 9223372036854775808) : fJ9_min_f86c9 N I (yI (a : Int)) (yI (b : Int)) = some (yI ((min a b : Nat) : Int), I) := by
  unfold fJ9_min_f86c9
  rcases Nat.lt_or_ge b a with q | q
  · rw [show min a b = b by omega]
    simp (disch := omega) only [letM_s, clP_s, clM_s, l_m89910, l_m999, l_m9, l_m4, l_m3, l_m2, l_m1, l_0, l_1, l_2, l_3, l_4, l_5, l_6, l_7, l_8, l_9, l_10, l_11, l_12, l_13, l_14, l_18, l_31, l_32, l_33, l_43, l_45, l_48, l_57, l_64, l_66, l_80, l_97, l_100, l_109, l_118, l_119, l_200, l_255, l_462, l_500, l_676, l_999, l_1000, l_1001, l_9999, l_10000, l_99999, l_100000, l_447214, l_1000000000, m_m999, m_m9, m_0, m_1, m_2, m_4, m_9, m_255, m_500, m_999, m_9999, m_10000, m_99999, m_200000000, m_4294967295, m_1442695040888963407, m_6364136223846793005, z_add, z_sub, z_mul, z_neg, y_add, y_sub, y_mul, y_neg, z_toL, y_toI, cmp_lt, cmp_gt, cmp_le, cmp_ge, z_lt, z_le, z_eq, y_lt, y_le, y_eq, if_pos, if_neg]
  · rw [show min a b = a by omega]
    simp (disch := omega) only [letM_s, clP_s, clM_s, l_m89910, l_m999, l_m9, l_m4, l_m3, l_m2, l_m1, l_0, l_1, l_2, l_3, l_4, l_5, l_6, l_7, l_8, l_9, l_10, l_11, l_12, l_13, l_14, l_18, l_31, l_32, l_33, l_43, l_45, l_48, l_57, l_64, l_66, l_80, l_97, l_100, l_109, l_118, l_119, l_200, l_255, l_462, l_500, l_676, l_999, l_1000, l_1001, l_9999, l_10000, l_99999, l_100000, l_447214, l_1000000000, m_m999, m_m9, m_0, m_1, m_2, m_4, m_9, m_255, m_500, m_999, m_9999, m_10000, m_99999, m_200000000, m_4294967295, m_1442695040888963407, m_6364136223846793005, z_add, z_sub, z_mul, z_neg, y_add, y_sub, y_mul, y_neg, z_toL, y_toI, cmp_lt, cmp_gt, cmp_le, cmp_ge, z_lt, z_le, z_eq, y_lt, y_le, y_eq, if_pos, if_neg]
theorem e1_low (N : Nat) (I : Mem) {a c b : Nat} (ha : 1 ≤ a) (ha2 : a ≤ 999) (hc : c ≤ 10000) (hb : b < 2147483648) : f1_rampAtLeast N I (zI (a : Int)) (zI (c : Int)) (zI (b : Int)) = some (zI (lowN a c b : Int), I) := by
  unfold f1_rampAtLeast
  have e1 : yI 4 * yI (a : Int) * yI ((c : Int) + 1) * yI ((c : Int) + 1) = yI ((4 * a * (c + 1) * (c + 1) : Nat) : Int) := by
    rw [y_mul, y_mul, y_mul]; rfl
  have h1 : 4 * a * (c + 1) * (c + 1) ≤ 4 * 999 * 10001 * 10001 := Nat.mul_le_mul (Nat.mul_le_mul (Nat.mul_le_mul_left _ ha2) (by omega)) (by omega)
  have h2 : 1 ≤ 4 * a * (c + 1) * (c + 1) := Nat.mul_pos (Nat.mul_pos (by omega) (by omega)) (by omega)
  have h3 : 200000000 / (4 * a * (c + 1) * (c + 1)) ≤ 200000000 := Nat.div_le_self _ _
  have e2 : yI 200000000 / yI ((4 * a * (c + 1) * (c + 1) : Nat) : Int) = yI ((200000000 / (4 * a * (c + 1) * (c + 1)) : Nat) : Int) := y_divN (a := 200000000) (by omega) (by omega)
  generalize hD : 4 * a * (c + 1) * (c + 1) = D at *
  simp (disch := omega) only [m_4, l_1, z_add, z_toL, letM_s, e1]
  have e3 := eJ_minL N I (a := b) (b := 200000000 / D) (by omega) (by omega)
  simp (disch := omega) only [m_200000000, e2, e3, letM_s, clP_s, clM_s, l_m89910, l_m999, l_m9, l_m4, l_m3, l_m2, l_m1, l_0, l_1, l_2, l_3, l_4, l_5, l_6, l_7, l_8, l_9, l_10, l_11, l_12, l_13, l_14, l_18, l_31, l_32, l_33, l_43, l_45, l_48, l_57, l_64, l_66, l_80, l_97, l_100, l_109, l_118, l_119, l_200, l_255, l_462, l_500, l_676, l_999, l_1000, l_1001, l_9999, l_10000, l_99999, l_100000, l_447214, l_1000000000, m_m999, m_m9, m_0, m_1, m_2, m_4, m_9, m_255, m_500, m_999, m_9999, m_10000, m_99999, m_200000000, m_4294967295, m_1442695040888963407, m_6364136223846793005, z_add, z_sub, z_mul, z_neg, y_add, y_sub, y_mul, y_neg, z_toL, y_toI, cmp_lt, cmp_gt, cmp_le, cmp_ge, z_lt, z_le, z_eq, y_lt, y_le, y_eq, if_pos, if_neg]
  unfold lowN
  rw [hD]
theorem eJ_max (N : Nat) (I : Mem) {a b : Int} (h1 : -2147483648 ≤ a) (h2 : a < 2147483648) (h3 : -2147483648 ≤ b) (h4 : b < 2147483648) : fJ9_max_7cf53 N I (zI a) (zI b) = some (zI (max a b), I) := by
  unfold fJ9_max_7cf53
  rcases Int.lt_or_le a b with q | q
  · rw [show max a b = b by omega]
    simp (disch := omega) only [letM_s, clP_s, clM_s, l_m89910, l_m999, l_m9, l_m4, l_m3, l_m2, l_m1, l_0, l_1, l_2, l_3, l_4, l_5, l_6, l_7, l_8, l_9, l_10, l_11, l_12, l_13, l_14, l_18, l_31, l_32, l_33, l_43, l_45, l_48, l_57, l_64, l_66, l_80, l_97, l_100, l_109, l_118, l_119, l_200, l_255, l_462, l_500, l_676, l_999, l_1000, l_1001, l_9999, l_10000, l_99999, l_100000, l_447214, l_1000000000, m_m999, m_m9, m_0, m_1, m_2, m_4, m_9, m_255, m_500, m_999, m_9999, m_10000, m_99999, m_200000000, m_4294967295, m_1442695040888963407, m_6364136223846793005, z_add, z_sub, z_mul, z_neg, y_add, y_sub, y_mul, y_neg, z_toL, y_toI, cmp_lt, cmp_gt, cmp_le, cmp_ge, z_lt, z_le, z_eq, y_lt, y_le, y_eq, if_pos, if_neg]
  · rw [show max a b = a by omega]
    simp (disch := omega) only [letM_s, clP_s, clM_s, l_m89910, l_m999, l_m9, l_m4, l_m3, l_m2, l_m1, l_0, l_1, l_2, l_3, l_4, l_5, l_6, l_7, l_8, l_9, l_10, l_11, l_12, l_13, l_14, l_18, l_31, l_32, l_33, l_43, l_45, l_48, l_57, l_64, l_66, l_80, l_97, l_100, l_109, l_118, l_119, l_200, l_255, l_462, l_500, l_676, l_999, l_1000, l_1001, l_9999, l_10000, l_99999, l_100000, l_447214, l_1000000000, m_m999, m_m9, m_0, m_1, m_2, m_4, m_9, m_255, m_500, m_999, m_9999, m_10000, m_99999, m_200000000, m_4294967295, m_1442695040888963407, m_6364136223846793005, z_add, z_sub, z_mul, z_neg, y_add, y_sub, y_mul, y_neg, z_toL, y_toI, cmp_lt, cmp_gt, cmp_le, cmp_ge, z_lt, z_le, z_eq, y_lt, y_le, y_eq, if_pos, if_neg]
theorem eJ_min (N : Nat) (I : Mem) {a b : Int} (h1 : -2147483648 ≤ a) (h2 : a < 2147483648) (h3 : -2147483648 ≤ b) (h4 : b < 2147483648) : fJ9_min_7cf53 N I (zI a) (zI b) = some (zI (min a b), I) := by
  unfold fJ9_min_7cf53
  rcases Int.lt_or_le b a with q | q
  · rw [show min a b = b by omega]
    simp (disch := omega) only [letM_s, clP_s, clM_s, l_m89910, l_m999, l_m9, l_m4, l_m3, l_m2, l_m1, l_0, l_1, l_2, l_3, l_4, l_5, l_6, l_7, l_8, l_9, l_10, l_11, l_12, l_13, l_14, l_18, l_31, l_32, l_33, l_43, l_45, l_48, l_57, l_64, l_66, l_80, l_97, l_100, l_109, l_118, l_119, l_200, l_255, l_462, l_500, l_676, l_999, l_1000, l_1001, l_9999, l_10000, l_99999, l_100000, l_447214, l_1000000000, m_m999, m_m9, m_0, m_1, m_2, m_4, m_9, m_255, m_500, m_999, m_9999, m_10000, m_99999, m_200000000, m_4294967295, m_1442695040888963407, m_6364136223846793005, z_add, z_sub, z_mul, z_neg, y_add, y_sub, y_mul, y_neg, z_toL, y_toI, cmp_lt, cmp_gt, cmp_le, cmp_ge, z_lt, z_le, z_eq, y_lt, y_le, y_eq, if_pos, if_neg]
  · rw [show min a b = a by omega]
    simp (disch := omega) only [letM_s, clP_s, clM_s, l_m89910, l_m999, l_m9, l_m4, l_m3, l_m2, l_m1, l_0, l_1, l_2, l_3, l_4, l_5, l_6, l_7, l_8, l_9, l_10, l_11, l_12, l_13, l_14, l_18, l_31, l_32, l_33, l_43, l_45, l_48, l_57, l_64, l_66, l_80, l_97, l_100, l_109, l_118, l_119, l_200, l_255, l_462, l_500, l_676, l_999, l_1000, l_1001, l_9999, l_10000, l_99999, l_100000, l_447214, l_1000000000, m_m999, m_m9, m_0, m_1, m_2, m_4, m_9, m_255, m_500, m_999, m_9999, m_10000, m_99999, m_200000000, m_4294967295, m_1442695040888963407, m_6364136223846793005, z_add, z_sub, z_mul, z_neg, y_add, y_sub, y_mul, y_neg, z_toL, y_toI, cmp_lt, cmp_gt, cmp_le, cmp_ge, z_lt, z_le, z_eq, y_lt, y_le, y_eq, if_pos, if_neg]
theorem eJ_abs (N : Nat) (I : Mem) {a : Int} (h1 : -2147483648 < a) (h2 : a < 2147483648) : fJ9_abs_0f7a4 N I (zI a) = some (zI (a.natAbs : Int), I) := by
  unfold fJ9_abs_0f7a4
  rcases Int.lt_or_le a 0 with q | q
  · rw [show (a.natAbs : Int) = -a by omega]
    simp (disch := omega) only [letM_s, clP_s, clM_s, l_m89910, l_m999, l_m9, l_m4, l_m3, l_m2, l_m1, l_0, l_1, l_2, l_3, l_4, l_5, l_6, l_7, l_8, l_9, l_10, l_11, l_12, l_13, l_14, l_18, l_31, l_32, l_33, l_43, l_45, l_48, l_57, l_64, l_66, l_80, l_97, l_100, l_109, l_118, l_119, l_200, l_255, l_462, l_500, l_676, l_999, l_1000, l_1001, l_9999, l_10000, l_99999, l_100000, l_447214, l_1000000000, m_m999, m_m9, m_0, m_1, m_2, m_4, m_9, m_255, m_500, m_999, m_9999, m_10000, m_99999, m_200000000, m_4294967295, m_1442695040888963407, m_6364136223846793005, z_add, z_sub, z_mul, z_neg, y_add, y_sub, y_mul, y_neg, z_toL, y_toI, cmp_lt, cmp_gt, cmp_le, cmp_ge, z_lt, z_le, z_eq, y_lt, y_le, y_eq, if_pos, if_neg]
  · rw [show (a.natAbs : Int) = a by omega]
    simp (disch := omega) only [letM_s, clP_s, clM_s, l_m89910, l_m999, l_m9, l_m4, l_m3, l_m2, l_m1, l_0, l_1, l_2, l_3, l_4, l_5, l_6, l_7, l_8, l_9, l_10, l_11, l_12, l_13, l_14, l_18, l_31, l_32, l_33, l_43, l_45, l_48, l_57, l_64, l_66, l_80, l_97, l_100, l_109, l_118, l_119, l_200, l_255, l_462, l_500, l_676, l_999, l_1000, l_1001, l_9999, l_10000, l_99999, l_100000, l_447214, l_1000000000, m_m999, m_m9, m_0, m_1, m_2, m_4, m_9, m_255, m_500, m_999, m_9999, m_10000, m_99999, m_200000000, m_4294967295, m_1442695040888963407, m_6364136223846793005, z_add, z_sub, z_mul, z_neg, y_add, y_sub, y_mul, y_neg, z_toL, y_toI, cmp_lt, cmp_gt, cmp_le, cmp_ge, z_lt, z_le, z_eq, y_lt, y_le, y_eq, if_pos, if_neg]
theorem eJ_maxL (N : Nat) (I : Mem) {a b : Int} (h1 : -9223372036854775808 ≤ a) (h2 : a < 9223372036854775808) (h3 : -9223372036854775808 ≤ b) (h4 : b < 9223372036854775808) : fJ9_max_f86c9 N I (yI a) (yI b) = some (yI (max a b), I) := by
  unfold fJ9_max_f86c9
  rcases Int.lt_or_le a b with q | q
  · rw [show max a b = b by omega]
    simp (disch := omega) only [letM_s, clP_s, clM_s, l_m89910, l_m999, l_m9, l_m4, l_m3, l_m2, l_m1, l_0, l_1, l_2, l_3, l_4, l_5, l_6, l_7, l_8, l_9, l_10, l_11, l_12, l_13, l_14, l_18, l_31, l_32, l_33, l_43, l_45, l_48, l_57, l_64, l_66, l_80, l_97, l_100, l_109, l_118, l_119, l_200, l_255, l_462, l_500, l_676, l_999, l_1000, l_1001, l_9999, l_10000, l_99999, l_100000, l_447214, l_1000000000, m_m999, m_m9, m_0, m_1, m_2, m_4, m_9, m_255, m_500, m_999, m_9999, m_10000, m_99999, m_200000000, m_4294967295, m_1442695040888963407, m_6364136223846793005, z_add, z_sub, z_mul, z_neg, y_add, y_sub, y_mul, y_neg, z_toL, y_toI, cmp_lt, cmp_gt, cmp_le, cmp_ge, z_lt, z_le, z_eq, y_lt, y_le, y_eq, if_pos, if_neg]
  · rw [show max a b = a by omega]
    simp (disch := omega) only [letM_s, clP_s, clM_s, l_m89910, l_m999, l_m9, l_m4, l_m3, l_m2, l_m1, l_0, l_1, l_2, l_3, l_4, l_5, l_6, l_7, l_8, l_9, l_10, l_11, l_12, l_13, l_14, l_18, l_31, l_32, l_33, l_43, l_45, l_48, l_57, l_64, l_66, l_80, l_97, l_100, l_109, l_118, l_119, l_200, l_255, l_462, l_500, l_676, l_999, l_1000, l_1001, l_9999, l_10000, l_99999, l_100000, l_447214, l_1000000000, m_m999, m_m9, m_0, m_1, m_2, m_4, m_9, m_255, m_500, m_999, m_9999, m_10000, m_99999, m_200000000, m_4294967295, m_1442695040888963407, m_6364136223846793005, z_add, z_sub, z_mul, z_neg, y_add, y_sub, y_mul, y_neg, z_toL, y_toI, cmp_lt, cmp_gt, cmp_le, cmp_ge, z_lt, z_le, z_eq, y_lt, y_le, y_eq, if_pos, if_neg]
/-! a move's ticks without a table -/
theorem mv_at {a c len n : Nat} (hl : len ≤ 999) (h1 : n ≤ len / 2) (h2 : ∀ i, i < n → c < Rr a i) (h3 : n < len / 2 → Rr a n ≤ c) : mv a c len = 2 * T a n + (len - 2 * n) * itv a c n := by
  have h := topN_un (most := len / 2) h1 h2 h3
  rw [topN_min (by omega)] at h
  have hc : mv a c len = _ := mv_closed a c (tp := topN a c 999) (fun i hi => topN_up hi) len
  rw [hc, Nat.min_comm, ← h]
theorem e1_ticks_67 (N : Nat) (I : Mem) {a c len n : Nat} (a0 : Int32) (ha : 1 ≤ a) (hc : c ≤ 10000) (hl : len ≤ 999) (hn : n ≤ len / 2) : f1_ticksOfMove_67 N a0 (zI (c : Int)) (zI (len : Int)) I (zI (n : Int)) (zI (T a n : Int)) (zI (T a (n+1) : Int)) = some (zI ((2 * T a n + (len - 2 * n) * itv a c n : Nat) : Int), I) := by
  unfold f1_ticksOfMove_67
  have h1 := T_bd (n := n) ha (by omega)
  have h2 := T_bd (n := n + 1) ha (by omega)
  have h3 := T_R a n
  have e := eJ_max N I (a := (T a (n+1) : Int) - (T a n : Int)) (b := (c : Int)) (by omega) (by omega) (by omega) (by omega)
  rw [show max ((T a (n+1) : Int) - (T a n : Int)) (c : Int) = (itv a c n : Int) by unfold itv; omega] at e
  simp (disch := omega) only [letM_s, clP_s, clM_s, l_m89910, l_m999, l_m9, l_m4, l_m3, l_m2, l_m1, l_0, l_1, l_2, l_3, l_4, l_5, l_6, l_7, l_8, l_9, l_10, l_11, l_12, l_13, l_14, l_18, l_31, l_32, l_33, l_43, l_45, l_48, l_57, l_64, l_66, l_80, l_97, l_100, l_109, l_118, l_119, l_200, l_255, l_462, l_500, l_676, l_999, l_1000, l_1001, l_9999, l_10000, l_99999, l_100000, l_447214, l_1000000000, m_m999, m_m9, m_0, m_1, m_2, m_4, m_9, m_255, m_500, m_999, m_9999, m_10000, m_99999, m_200000000, m_4294967295, m_1442695040888963407, m_6364136223846793005, z_add, z_sub, z_mul, z_neg, y_add, y_sub, y_mul, y_neg, z_toL, y_toI, cmp_lt, cmp_gt, cmp_le, cmp_ge, z_lt, z_le, z_eq, y_lt, y_le, y_eq, if_pos, if_neg, e]
  rw [Int.natCast_add, Int.natCast_mul, Int.natCast_mul, Int.natCast_sub (by omega), Int.natCast_mul]
  rfl
theorem e1_ticks_32 {N : Nat} (I : Mem) {a c len : Nat} (hN : 100 ≤ N) (ha : 1 ≤ a) (ha2 : a ≤ 999) (hc : c ≤ 10000) (hl : len ≤ 999) : ∀ (d n cnt : Nat), len / 2 - n ≤ d → d < cnt → n ≤ len / 2 → (∀ i, i < n → c < Rr a i) → f1_ticksOfMove_32 N (zI (a : Int)) (zI (c : Int)) (zI (len : Int)) cnt I (zI ((len / 2 : Nat) : Int)) (zI (n : Int)) (zI (T a n : Int)) (zI (T a (n+1) : Int)) = some (zI (mv a c len : Int), I) := by
  intro d
  induction d with
  | zero =>
    intro n cnt h1 h2 h3 h4
    obtain ⟨cnt, rfl⟩ : ∃ x, cnt = x + 1 := ⟨cnt - 1, by omega⟩
    rw [f1_ticksOfMove_32, mv_at hl h3 h4 (by omega), ← e1_ticks_67 N I (zI (a : Int)) ha hc hl h3]
    simp (disch := omega) only [letM_s, clP_s, clM_s, l_m89910, l_m999, l_m9, l_m4, l_m3, l_m2, l_m1, l_0, l_1, l_2, l_3, l_4, l_5, l_6, l_7, l_8, l_9, l_10, l_11, l_12, l_13, l_14, l_18, l_31, l_32, l_33, l_43, l_45, l_48, l_57, l_64, l_66, l_80, l_97, l_100, l_109, l_118, l_119, l_200, l_255, l_462, l_500, l_676, l_999, l_1000, l_1001, l_9999, l_10000, l_99999, l_100000, l_447214, l_1000000000, m_m999, m_m9, m_0, m_1, m_2, m_4, m_9, m_255, m_500, m_999, m_9999, m_10000, m_99999, m_200000000, m_4294967295, m_1442695040888963407, m_6364136223846793005, z_add, z_sub, z_mul, z_neg, y_add, y_sub, y_mul, y_neg, z_toL, y_toI, cmp_lt, cmp_gt, cmp_le, cmp_ge, z_lt, z_le, z_eq, y_lt, y_le, y_eq, if_pos, if_neg]
  | succ d ih =>
    intro n cnt h1 h2 h3 h4
    obtain ⟨cnt, rfl⟩ : ∃ x, cnt = x + 1 := ⟨cnt - 1, by omega⟩
    have b1 := T_bd (n := n) ha (by omega)
    have b2 := T_bd (n := n + 1) ha (by omega)
    have b3 := T_R a n
    rw [f1_ticksOfMove_32]
    by_cases q : n < len / 2 ∧ c < Rr a n
    · have hi := ih (n+1) cnt (by omega) (by omega) (by omega) (fun i hi => by
        by_cases e : i = n
        · rw [e]; exact q.2
        · exact h4 i (by omega))
      have hr := e1_rootAfter (N := N) I (n := n + 1) hN ha ha2 (by omega)
      rw [← hi]
      simp (disch := omega) only [letM_s, clP_s, clM_s, l_m89910, l_m999, l_m9, l_m4, l_m3, l_m2, l_m1, l_0, l_1, l_2, l_3, l_4, l_5, l_6, l_7, l_8, l_9, l_10, l_11, l_12, l_13, l_14, l_18, l_31, l_32, l_33, l_43, l_45, l_48, l_57, l_64, l_66, l_80, l_97, l_100, l_109, l_118, l_119, l_200, l_255, l_462, l_500, l_676, l_999, l_1000, l_1001, l_9999, l_10000, l_99999, l_100000, l_447214, l_1000000000, m_m999, m_m9, m_0, m_1, m_2, m_4, m_9, m_255, m_500, m_999, m_9999, m_10000, m_99999, m_200000000, m_4294967295, m_1442695040888963407, m_6364136223846793005, z_add, z_sub, z_mul, z_neg, y_add, y_sub, y_mul, y_neg, z_toL, y_toI, cmp_lt, cmp_gt, cmp_le, cmp_ge, z_lt, z_le, z_eq, y_lt, y_le, y_eq, if_pos, if_neg]
      exact congrArg (fun x => clP x _) hr
    · rw [mv_at hl h3 h4 (by omega), ← e1_ticks_67 N I (zI (a : Int)) ha hc hl h3]
      by_cases q1 : n < len / 2
      · simp (disch := omega) only [letM_s, clP_s, clM_s, l_m89910, l_m999, l_m9, l_m4, l_m3, l_m2, l_m1, l_0, l_1, l_2, l_3, l_4, l_5, l_6, l_7, l_8, l_9, l_10, l_11, l_12, l_13, l_14, l_18, l_31, l_32, l_33, l_43, l_45, l_48, l_57, l_64, l_66, l_80, l_97, l_100, l_109, l_118, l_119, l_200, l_255, l_462, l_500, l_676, l_999, l_1000, l_1001, l_9999, l_10000, l_99999, l_100000, l_447214, l_1000000000, m_m999, m_m9, m_0, m_1, m_2, m_4, m_9, m_255, m_500, m_999, m_9999, m_10000, m_99999, m_200000000, m_4294967295, m_1442695040888963407, m_6364136223846793005, z_add, z_sub, z_mul, z_neg, y_add, y_sub, y_mul, y_neg, z_toL, y_toI, cmp_lt, cmp_gt, cmp_le, cmp_ge, z_lt, z_le, z_eq, y_lt, y_le, y_eq, if_pos, if_neg]
      · simp (disch := omega) only [letM_s, clP_s, clM_s, l_m89910, l_m999, l_m9, l_m4, l_m3, l_m2, l_m1, l_0, l_1, l_2, l_3, l_4, l_5, l_6, l_7, l_8, l_9, l_10, l_11, l_12, l_13, l_14, l_18, l_31, l_32, l_33, l_43, l_45, l_48, l_57, l_64, l_66, l_80, l_97, l_100, l_109, l_118, l_119, l_200, l_255, l_462, l_500, l_676, l_999, l_1000, l_1001, l_9999, l_10000, l_99999, l_100000, l_447214, l_1000000000, m_m999, m_m9, m_0, m_1, m_2, m_4, m_9, m_255, m_500, m_999, m_9999, m_10000, m_99999, m_200000000, m_4294967295, m_1442695040888963407, m_6364136223846793005, z_add, z_sub, z_mul, z_neg, y_add, y_sub, y_mul, y_neg, z_toL, y_toI, cmp_lt, cmp_gt, cmp_le, cmp_ge, z_lt, z_le, z_eq, y_lt, y_le, y_eq, if_pos, if_neg]
theorem e1_ticks {N : Nat} (I : Mem) {a c len : Nat} (hN : 1000 ≤ N) (ha : 1 ≤ a) (ha2 : a ≤ 999) (hc : c ≤ 10000) (hl : len ≤ 999) : f1_ticksOfMove N I (zI (a : Int)) (zI (c : Int)) (zI (len : Int)) = some (zI (mv a c len : Int), I) := by
  unfold f1_ticksOfMove
  have e1 : zI (len : Int) / zI 2 = zI ((len / 2 : Nat) : Int) := z_divN (b := 2) (by omega) (by omega)
  have hlow : lowN a c (len / 2) ≤ len / 2 := Nat.min_le_left _ _
  have b1 := T_bd (n := lowN a c (len / 2)) ha (by omega)
  have r1 := e1_low N I (b := len / 2) ha ha2 hc (by omega)
  have r2 := e1_root (N := N) I (n := lowN a c (len / 2)) (s := 447214) (by omega) ha ha2 (by omega) (by omega) (by omega)
  have r3 := e1_rootAfter (N := N) I (n := lowN a c (len / 2)) (by omega) ha ha2 (by omega)
  have r4 := e1_ticks_32 (N := N) I (c := c) (len := len) (by omega) ha ha2 hc hl 999 (lowN a c (len / 2)) N (by omega) (by omega) hlow (fun i hi => lowN_up ha hi)
  simp only [l_2, e1, letM_s, r1, clP_s, l_447214]
  rw [show zI 447214 = zI ((447214 : Nat) : Int) from rfl, r2]
  simp only [clP_s, r3, r4]
/-- from which acceleration on to look -/
def cand (c len ticks : Nat) : Nat := min 999 (200000000 * (len / 2) / ((ticks * (c + 1) / (2 * c) + 1) * (ticks * (c + 1) / (2 * c) + 1))) + 1
theorem cand_up {a c len ticks : Nat} (ha : 1 ≤ a) (hc : 1 ≤ c) (hl : len ≤ 999) (h : a < cand c len ticks) : ticks < mv a c len := by
  unfold cand at h
  generalize hm : ticks * (c + 1) / (2 * c) + 1 = m at h
  have h1 : a ≤ 200000000 * (len / 2) / (m * m) := by omega
  have hm1 : 0 < m := by rw [← hm]; exact Nat.succ_pos _
  have hmp : 0 < m * m := Nat.mul_pos hm1 hm1
  rw [Nat.le_div_iff_mul_le hmp] at h1
  have h2 : m * m ≤ 200000000 * (len / 2) / a := by rw [Nat.le_div_iff_mul_le ha, Nat.mul_comm]; exact h1
  have h3 : m ≤ T a (len / 2) := isq_ge h2
  have h4 := mv_root (c := c) ha len hl
  have h5 : ticks * (c + 1) < m * (2 * c) := by
    have := Nat.lt_div_mul_add (a := ticks * (c + 1)) (b := 2 * c) (by omega)
    rw [← hm, Nat.add_mul, Nat.one_mul]
    exact this
  have h6 : m * (2 * c) ≤ T a (len / 2) * (2 * c) := Nat.mul_le_mul_right _ h3
  have h7 : T a (len / 2) * (2 * c) = 2 * T a (len / 2) * c := by grind
  exact Nat.lt_of_mul_lt_mul_right (Nat.lt_of_lt_of_le h5 (Nat.le_trans h6 (by rw [h7]; exact h4)))
theorem e1_cand (N : Nat) (I : Mem) {c len ticks : Nat} (hc : 1 ≤ c) (hc2 : c ≤ 10000) (hl : len ≤ 999) (ht : ticks ≤ 99999) : f1_leastCandidate N I (zI (c : Int)) (zI (len : Int)) (zI (ticks : Int)) = some (zI (cand c len ticks : Int), I) := by
  unfold f1_leastCandidate
  have h0 : ticks * (c + 1) ≤ 99999 * 10001 := Nat.mul_le_mul ht (by omega)
  have h1 : ticks * (c + 1) / (2 * c) ≤ ticks * (c + 1) := Nat.div_le_self _ _
  have e1 : yI (ticks : Int) * yI ((c : Int) + 1) = yI ((ticks * (c + 1) : Nat) : Int) := by rw [y_mul]; rfl
  have e2 : yI ((ticks * (c + 1) : Nat) : Int) / yI (2 * (c : Int)) = yI ((ticks * (c + 1) / (2 * c) : Nat) : Int) := y_divN (b := 2 * c) (by omega) (by omega)
  have e3 : zI (len : Int) / zI 2 = zI ((len / 2 : Nat) : Int) := z_divN (b := 2) (by omega) (by omega)
  unfold cand
  generalize hm : ticks * (c + 1) / (2 * c) = m at *
  generalize ticks * (c + 1) = tc at *
  have h2 : (m + 1) * (m + 1) ≤ 1000089999 * 1000089999 + 2000180000 := by
    have : m + 1 ≤ 1000090000 := by omega
    exact Nat.le_trans (Nat.mul_le_mul this this) (by omega)
  have h3 : 1 ≤ (m + 1) * (m + 1) := Nat.mul_pos (by omega) (by omega)
  have e4 : yI ((m : Int) + 1) * yI ((m : Int) + 1) = yI (((m + 1) * (m + 1) : Nat) : Int) := by rw [y_mul]; rfl
  have e5 : yI 200000000 * yI ((len / 2 : Nat) : Int) = yI ((200000000 * (len / 2) : Nat) : Int) := by rw [y_mul]; rfl
  have e6 : yI ((200000000 * (len / 2) : Nat) : Int) / yI (((m + 1) * (m + 1) : Nat) : Int) = yI ((200000000 * (len / 2) / ((m + 1) * (m + 1)) : Nat) : Int) := y_divN (by omega) (by omega)
  have h4 : 200000000 * (len / 2) / ((m + 1) * (m + 1)) ≤ 200000000 * (len / 2) := Nat.div_le_self _ _
  generalize (m + 1) * (m + 1) = D at *
  have e7 := eJ_minL N I (a := 999) (b := 200000000 * (len / 2) / D) (by omega) (by omega)
  simp (disch := omega) only [l_1, l_2, m_999, m_200000000, m_0, m_1, z_add, z_mul, z_toL, e1, e2, e3, e4, e5, e6, y_add, letM_s, z_le, cmp_ge, if_pos, if_neg, y_eq, l_0]
  rw [show yI 999 = yI ((999 : Nat) : Int) from rfl, e7]
  simp only [clP_s, y_toI, z_add]
  rfl
/-! the table of the roots -/
def RampR (I : Mem) (k a v : Nat) : Prop := I k 0 = zI (a : Int) ∧ I k 1 = zI (v : Int) ∧ I k 2 = zI (cr v : Int) ∧ I k 3 = zI (topN a (cr v) 999 : Int) ∧ ∀ j, j ≤ 1000 → I (k+1) j = zI (T a j : Int)
def RampC (I : Mem) (k : Nat) : Prop := ∀ a v : Nat, 1 ≤ a → a ≤ 999 → 1 ≤ v → v ≤ 999 → I k 0 = zI (a : Int) → (∀ j, j ≤ 1000 → I (k+1) j = zI (T a j : Int)) ∧ (I k 1 = zI (v : Int) → I k 2 = zI (cr v : Int) ∧ I k 3 = zI (topN a (cr v) 999 : Int))
theorem RampR.C {I : Mem} {k a v : Nat} (h : RampR I k a v) (ha : a ≤ 999) (hv : v ≤ 999) : RampC I k := by
  intro a' v' h1 h2 h3 h4 e
  obtain ⟨r0, r1, r2, r3, r4⟩ := h
  have ea : a' = a := zN_inj (e.symm.trans r0) (by omega) (by omega)
  subst ea
  refine ⟨r4, fun e1 => ?_⟩
  have ev : v' = v := zN_inj (e1.symm.trans r1) (by omega) (by omega)
  subst ev
  exact ⟨r2, r3⟩
theorem e2_fill {N : Nat} {k a : Nat} (hN : 100 ≤ N) (ha : 1 ≤ a) (ha2 : a ≤ 999) : ∀ (d i cnt : Nat) (I : Mem), i + d = 1000 → d < cnt → I k 0 = zI (a : Int) → (∀ j, j ≤ i → I (k+1) j = zI (T a j : Int)) → ∃ I1, f2_fillRoots_2 N k cnt I (zI (i : Int)) = some I1 ∧ (∀ j, j ≤ 1000 → I1 (k+1) j = zI (T a j : Int)) ∧ ∀ x, x ≠ k + 1 → I1 x = I x := by
  intro d
  induction d with
  | zero =>
    intro i cnt I h1 h2 h3 h4
    obtain ⟨cnt, rfl⟩ : ∃ x, cnt = x + 1 := ⟨cnt - 1, by omega⟩
    refine ⟨I, ?_, fun j hj => h4 j (by omega), fun x _ => rfl⟩
    rw [f2_fillRoots_2]
    simp (disch := omega) only [letM_s, clP_s, clM_s, l_m89910, l_m999, l_m9, l_m4, l_m3, l_m2, l_m1, l_0, l_1, l_2, l_3, l_4, l_5, l_6, l_7, l_8, l_9, l_10, l_11, l_12, l_13, l_14, l_18, l_31, l_32, l_33, l_43, l_45, l_48, l_57, l_64, l_66, l_80, l_97, l_100, l_109, l_118, l_119, l_200, l_255, l_462, l_500, l_676, l_999, l_1000, l_1001, l_9999, l_10000, l_99999, l_100000, l_447214, l_1000000000, m_m999, m_m9, m_0, m_1, m_2, m_4, m_9, m_255, m_500, m_999, m_9999, m_10000, m_99999, m_200000000, m_4294967295, m_1442695040888963407, m_6364136223846793005, z_add, z_sub, z_mul, z_neg, y_add, y_sub, y_mul, y_neg, z_toL, y_toI, cmp_lt, cmp_gt, cmp_le, cmp_ge, z_lt, z_le, z_eq, y_lt, y_le, y_eq, if_pos, if_neg]
  | succ d ih =>
    intro i cnt I h1 h2 h3 h4
    obtain ⟨cnt, rfl⟩ : ∃ x, cnt = x + 1 := ⟨cnt - 1, by omega⟩
    have hr := e1_rootAfter (N := N) I (n := i) hN ha ha2 (by omega)
    have hn : (zI (i : Int)).toNatClampNeg = i := by rw [z_nat (by omega) (by omega)]; rfl
    have hn1 : (zI ((i : Int) + 1)).toNatClampNeg = i + 1 := by rw [z_nat (by omega) (by omega)]; omega
    obtain ⟨I1, q1, q2, q3⟩ := ih (i+1) cnt (st I (k+1) (i+1) (zI (T a (i+1) : Int))) (by omega) (by omega) (by rw [st_k (by omega)]; exact h3) (fun j hj => by
      by_cases e : j = i + 1
      · subst e; rw [st_s]
      · rw [st_j e]; exact h4 j (by omega))
    refine ⟨I1, ?_, q2, fun x hx => by rw [q3 x hx, st_k hx]⟩
    rw [← q1, f2_fillRoots_2]
    have hg : ¬ (i : Int) + 1 ≥ 1001 := by omega
    simp (disch := omega) only [l_0, l_1, l_1001, z_add, hn, hn1, h3, h4 i (Nat.le_refl i), hr, z_le, z_lt, if_neg, clP_s, letM_s]
    rfl
theorem e2_rampInterval (N : Nat) {I : Mem} {k a n : Nat} (hr : ∀ j, j ≤ 1000 → I (k+1) j = zI (T a j : Int)) (hn : n ≤ 999) : f2_rampInterval N I k (zI (n : Int)) = some (zI (Rr a n : Int), I) := by
  unfold f2_rampInterval
  have hn0 : (zI (n : Int)).toNatClampNeg = n := by rw [z_nat (by omega) (by omega)]; rfl
  have hn1 : (zI ((n : Int) + 1)).toNatClampNeg = n + 1 := by rw [z_nat (by omega) (by omega)]; omega
  have h3 := T_R a n
  simp (disch := omega) only [l_0, l_1, l_1001, z_add, hn0, hn1, hr n (by omega), hr (n+1) (by omega), z_le, z_lt, if_neg, if_pos, z_sub]
  rw [show (T a (n+1) : Int) - (T a n : Int) = (Rr a n : Int) by omega]
theorem e2_findTop_15 (N : Nat) {I : Mem} {k a c : Nat} (ha : 1 ≤ a) (hr : ∀ j, j ≤ 1000 → I (k+1) j = zI (T a j : Int)) (hc : I k 2 = zI (c : Int)) (hc2 : c ≤ 10000) : ∀ (d i cnt : Nat), i + d = 999 → d < cnt → (∀ j, j < i → c < Rr a j) → f2_findTop_15 N k cnt I (zI (i : Int)) = some (zI (topN a c 999 : Int), I) := by
  intro d
  induction d with
  | zero =>
    intro i cnt h1 h2 h3
    obtain ⟨cnt, rfl⟩ : ∃ x, cnt = x + 1 := ⟨cnt - 1, by omega⟩
    rw [← topN_un (n := i) (by omega) h3 (by omega), f2_findTop_15]
    simp (disch := omega) only [letM_s, clP_s, clM_s, l_m89910, l_m999, l_m9, l_m4, l_m3, l_m2, l_m1, l_0, l_1, l_2, l_3, l_4, l_5, l_6, l_7, l_8, l_9, l_10, l_11, l_12, l_13, l_14, l_18, l_31, l_32, l_33, l_43, l_45, l_48, l_57, l_64, l_66, l_80, l_97, l_100, l_109, l_118, l_119, l_200, l_255, l_462, l_500, l_676, l_999, l_1000, l_1001, l_9999, l_10000, l_99999, l_100000, l_447214, l_1000000000, m_m999, m_m9, m_0, m_1, m_2, m_4, m_9, m_255, m_500, m_999, m_9999, m_10000, m_99999, m_200000000, m_4294967295, m_1442695040888963407, m_6364136223846793005, z_add, z_sub, z_mul, z_neg, y_add, y_sub, y_mul, y_neg, z_toL, y_toI, cmp_lt, cmp_gt, cmp_le, cmp_ge, z_lt, z_le, z_eq, y_lt, y_le, y_eq, if_pos, if_neg]
  | succ d ih =>
    intro i cnt h1 h2 h3
    obtain ⟨cnt, rfl⟩ : ∃ x, cnt = x + 1 := ⟨cnt - 1, by omega⟩
    have hR := e2_rampInterval N (n := i) hr (by omega)
    have b1 := T_bd (n := i + 1) ha (by omega)
    have b2 := T_R a i
    rw [f2_findTop_15]
    rcases Nat.lt_or_ge c (Rr a i) with q | q
    · have hi := ih (i+1) cnt (by omega) (by omega) (fun j hj => by
        by_cases e : j = i
        · rw [e]; exact q
        · exact h3 j (by omega))
      rw [← hi]
      simp (disch := omega) only [hR, hc, letM_s, clP_s, clM_s, l_m89910, l_m999, l_m9, l_m4, l_m3, l_m2, l_m1, l_0, l_1, l_2, l_3, l_4, l_5, l_6, l_7, l_8, l_9, l_10, l_11, l_12, l_13, l_14, l_18, l_31, l_32, l_33, l_43, l_45, l_48, l_57, l_64, l_66, l_80, l_97, l_100, l_109, l_118, l_119, l_200, l_255, l_462, l_500, l_676, l_999, l_1000, l_1001, l_9999, l_10000, l_99999, l_100000, l_447214, l_1000000000, m_m999, m_m9, m_0, m_1, m_2, m_4, m_9, m_255, m_500, m_999, m_9999, m_10000, m_99999, m_200000000, m_4294967295, m_1442695040888963407, m_6364136223846793005, z_add, z_sub, z_mul, z_neg, y_add, y_sub, y_mul, y_neg, z_toL, y_toI, cmp_lt, cmp_gt, cmp_le, cmp_ge, z_lt, z_le, z_eq, y_lt, y_le, y_eq, if_pos, if_neg]
      rfl
    · rw [← topN_un (n := i) (by omega) h3 (fun _ => q)]
      simp (disch := omega) only [hR, hc, letM_s, clP_s, clM_s, l_m89910, l_m999, l_m9, l_m4, l_m3, l_m2, l_m1, l_0, l_1, l_2, l_3, l_4, l_5, l_6, l_7, l_8, l_9, l_10, l_11, l_12, l_13, l_14, l_18, l_31, l_32, l_33, l_43, l_45, l_48, l_57, l_64, l_66, l_80, l_97, l_100, l_109, l_118, l_119, l_200, l_255, l_462, l_500, l_676, l_999, l_1000, l_1001, l_9999, l_10000, l_99999, l_100000, l_447214, l_1000000000, m_m999, m_m9, m_0, m_1, m_2, m_4, m_9, m_255, m_500, m_999, m_9999, m_10000, m_99999, m_200000000, m_4294967295, m_1442695040888963407, m_6364136223846793005, z_add, z_sub, z_mul, z_neg, y_add, y_sub, y_mul, y_neg, z_toL, y_toI, cmp_lt, cmp_gt, cmp_le, cmp_ge, z_lt, z_le, z_eq, y_lt, y_le, y_eq, if_pos, if_neg]
theorem e2_findTop {N : Nat} {I : Mem} {k a c : Nat} (hN : 1000 ≤ N) (ha : 1 ≤ a) (ha2 : a ≤ 999) (h0 : I k 0 = zI (a : Int)) (hr : ∀ j, j ≤ 1000 → I (k+1) j = zI (T a j : Int)) (hc : I k 2 = zI (c : Int)) (hc2 : c ≤ 10000) : f2_findTop N I k = some (zI (topN a c 999 : Int), I) := by
  unfold f2_findTop
  have r1 := e1_low N I (b := 999) ha ha2 hc2 (by omega)
  have hlow : lowN a c 999 ≤ 999 := Nat.min_le_left _ _
  rw [h0, hc, l_999, show zI 999 = zI ((999 : Nat) : Int) from rfl, r1]
  exact e2_findTop_15 N ha hr hc hc2 (999 - lowN a c 999) (lowN a c 999) N (by omega) (by omega) (fun j hj => lowN_up ha hj)
theorem e2_prepare_34 {N : Nat} {I : Mem} {k a v : Nat} (a1 : Int32) (hN : 1000 ≤ N) (ha : 1 ≤ a) (ha2 : a ≤ 999) (hv : 1 ≤ v) (hv2 : v ≤ 999) (h0 : I k 0 = zI (a : Int)) (hr : ∀ j, j ≤ 1000 → I (k+1) j = zI (T a j : Int)) : ∃ I1, f2_prepare_34 N k a1 (zI (v : Int)) I = some I1 ∧ RampR I1 k a v ∧ ∀ x, x ≠ k → I1 x = I x := by
  unfold f2_prepare_34
  have hc := cr_bd hv hv2
  have r1 := e1_cruise N (st I k 1 (zI (v : Int))) hv hv2
  have r2 := e2_findTop (N := N) (I := st (st I k 1 (zI (v : Int))) k 2 (zI (cr v : Int))) (k := k) (a := a) (c := cr v) hN ha ha2 (by rw [st_j (by omega), st_j (by omega)]; exact h0) (fun j hj => by rw [st_k (by omega), st_k (by omega)]; exact hr j hj) (st_s _ _ _ _) (by omega)
  refine ⟨st (st (st I k 1 (zI (v : Int))) k 2 (zI (cr v : Int))) k 3 (zI (topN a (cr v) 999 : Int)), ?_, ⟨?_, ?_, ?_, ?_, fun j hj => ?_⟩, fun x hx => ?_⟩
  · simp only [letM_s, st_s, r1, clP_s, r2]
  · rw [st_j (by omega), st_j (by omega), st_j (by omega)]; exact h0
  · rw [st_j (by omega), st_j (by omega), st_s]
  · rw [st_j (by omega), st_s]
  · rw [st_s]
  · rw [st_k (by omega), st_k (by omega), st_k (by omega)]; exact hr j hj
  · rw [st_k hx, st_k hx, st_k hx]
theorem e2_prepare_17 {N : Nat} {I : Mem} {k a v : Nat} (hN : 1001 ≤ N) (ha : 1 ≤ a) (ha2 : a ≤ 999) (hv : 1 ≤ v) (hv2 : v ≤ 999) (hC : RampC I k) (h00 : I (k+1) 0 = zI 0) : ∃ I1, f2_prepare_17 N k (zI (a : Int)) (zI (v : Int)) I = some I1 ∧ RampR I1 k a v ∧ ∀ x, x ≠ k → x ≠ k + 1 → I1 x = I x := by
  unfold f2_prepare_17
  by_cases e : I k 0 = zI (a : Int)
  · rw [if_pos e]
    obtain ⟨I1, q1, q2, q3⟩ := e2_prepare_34 (N := N) (k := k) (v := v) (zI (a : Int)) (by omega) ha ha2 hv hv2 e (hC a v ha ha2 hv hv2 e).1
    exact ⟨I1, q1, q2, fun x h1 _ => q3 x h1⟩
  · rw [if_neg e]
    obtain ⟨I2, p1, p2, p3⟩ := e2_fill (N := N) (k := k) (a := a) (by omega) ha ha2 1000 0 N (st I k 0 (zI (a : Int))) (by omega) (by omega) (st_s _ _ _ _) (fun j hj => by
      rw [show j = 0 by omega, st_k (by omega), h00, T_0]
      rfl)
    obtain ⟨I1, q1, q2, q3⟩ := e2_prepare_34 (N := N) (I := I2) (k := k) (v := v) (zI (a : Int)) (by omega) ha ha2 hv hv2 (by rw [p3 k (by omega), st_s]) p2
    refine ⟨I1, ?_, q2, fun x h1 h2 => by rw [q3 x h1, p3 x h2, st_k h1]⟩
    unfold f2_fillRoots
    have p1' : f2_fillRoots_2 N k N (st I k 0 (zI (a : Int))) (zI 0) = some I2 := p1
    simp only [letM_s, l_0, p1', clM_s, q1]
theorem e2_prepare {N : Nat} {I : Mem} {k a v : Nat} (hN : 1001 ≤ N) (ha : 1 ≤ a) (ha2 : a ≤ 999) (hv : 1 ≤ v) (hv2 : v ≤ 999) (hC : RampC I k) (h00 : I (k+1) 0 = zI 0) : ∃ I1, f2_prepare N I k (zI (a : Int)) (zI (v : Int)) = some I1 ∧ RampR I1 k a v ∧ ∀ x, x ≠ k → x ≠ k + 1 → I1 x = I x := by
  unfold f2_prepare
  obtain ⟨I1, q1, q2, q3⟩ := e2_prepare_17 hN ha ha2 hv hv2 hC h00
  by_cases e : I k 0 = zI (a : Int)
  · by_cases e1 : I k 1 = zI (v : Int)
    · refine ⟨I, by rw [if_pos e, if_pos e1], ?_, fun x _ _ => rfl⟩
      have h := hC a v ha ha2 hv hv2 e
      exact ⟨e, e1, (h.2 e1).1, (h.2 e1).2, h.1⟩
    · exact ⟨I1, by rw [if_pos e, if_neg e1, q1], q2, q3⟩
  · exact ⟨I1, by rw [if_neg e, q1], q2, q3⟩
theorem e2_intervalOf (N : Nat) {I : Mem} {k a v n : Nat} (ha : 1 ≤ a) (hv : 1 ≤ v) (hv2 : v ≤ 999) (h : RampR I k a v) (hn : n ≤ 999) : f2_intervalOf N I k (zI (n : Int)) = some (zI (itv a (cr v) n : Int), I) := by
  unfold f2_intervalOf
  have hc := cr_bd hv hv2
  have b1 := T_bd (n := n + 1) ha (by omega)
  have b2 := T_R a n
  have hR := e2_rampInterval N (n := n) h.2.2.2.2 hn
  have e := eJ_max N I (a := (Rr a n : Int)) (b := (cr v : Int)) (by omega) (by omega) (by omega) (by omega)
  rw [show max (Rr a n : Int) (cr v : Int) = (itv a (cr v) n : Int) by unfold itv; omega] at e
  simp only [hR, clP_s, h.2.2.1, e]
theorem e2_ticksOfMove (N : Nat) {I : Mem} {k a v len : Nat} (ha : 1 ≤ a) (hv : 1 ≤ v) (hv2 : v ≤ 999) (h : RampR I k a v) (hl : len ≤ 999) : f2_ticksOfMove N I k (zI (len : Int)) = some (zI (mv a (cr v) len : Int), I) := by
  unfold f2_ticksOfMove
  have ht := topN_le a (cr v) 999
  have hc : mv a (cr v) len = _ := mv_closed a (cr v) (tp := topN a (cr v) 999) (fun i hi => topN_up hi) len
  generalize hm : min (len / 2) (topN a (cr v) 999) = n at hc
  have e1 : zI (len : Int) / zI 2 = zI ((len / 2 : Nat) : Int) := z_divN (b := 2) (by omega) (by omega)
  have e2 := eJ_min N I (a := ((len / 2 : Nat) : Int)) (b := (topN a (cr v) 999 : Int)) (by omega) (by omega) (by omega) (by omega)
  rw [show min ((len / 2 : Nat) : Int) (topN a (cr v) 999 : Int) = (n : Int) by omega] at e2
  have e3 := e2_intervalOf N ha hv hv2 h (n := n) (by omega)
  have hn0 : (zI (n : Int)).toNatClampNeg = n := by rw [z_nat (by omega) (by omega)]; rfl
  rw [hc]
  simp (disch := omega) only [l_2, l_0, l_1001, e1, h.2.2.2.1, e2, clP_s, z_lt, if_neg, if_pos, hn0, e3, h.2.2.2.2 n (by omega), z_mul, z_sub, z_add]
  rw [Int.natCast_add, Int.natCast_mul, Int.natCast_mul, Int.natCast_sub (by omega), Int.natCast_mul]
  rfl
