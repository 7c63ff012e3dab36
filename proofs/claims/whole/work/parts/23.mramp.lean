/-! THE REFERENCE'S ROOTS AND RAMP, with what it keeps -/
theorem yN_bv (n : Nat) : (yI (n : Int)).toBitVec = BitVec.ofNat 64 n := by
  show (Int64.ofInt (n : Int)).toBitVec = _
  rw [Int64.toBitVec_ofInt]
  exact BitVec.ofInt_natCast 64 n
theorem y_or {a b : Nat} (ha : a < 18446744073709551616) (hb : b < 18446744073709551616) : yI (a : Int) ||| yI (b : Int) = yI ((a ||| b : Nat) : Int) := by
  refine Int64.toBitVec_inj.mp ?_
  rw [Int64.toBitVec_or, yN_bv, yN_bv, yN_bv]
  refine BitVec.eq_of_toNat_eq ?_
  rw [BitVec.toNat_or, BitVec.toNat_ofNat, BitVec.toNat_ofNat, BitVec.toNat_ofNat, Nat.mod_eq_of_lt (by omega), Nat.mod_eq_of_lt (by omega), Nat.mod_eq_of_lt]
  exact Nat.or_lt_two_pow (n := 64) (by omega) (by omega)
theorem y_bit : ∀ b : Nat, b < 19 → ((1 : Int64) <<< ((zI (b : Int)).toInt64 &&& 63)) = yI ((2 ^ b : Nat) : Int) := by decide +kernel
theorem e7_sq_6 (N : Nat) (I : Mem) (V : Nat) (hV : V < 274877906944) : ∀ (d m cnt : Nat), d ≤ 19 → d < cnt → 2 ^ d * m < 524288 → (2 ^ d * m) * (2 ^ d * m) ≤ V → V < (2 ^ d * m + 2 ^ d) * (2 ^ d * m + 2 ^ d) → f7_squareRoot_6 N (yI (V : Int)) cnt I (yI ((2 ^ d * m : Nat) : Int)) (zI ((d : Int) - 1)) = some (zI (isq V : Int), I) := by
  intro d
  induction d with
  | zero =>
    intro m cnt h1 h2 h3 h4 h5
    obtain ⟨cnt, rfl⟩ : ∃ x, cnt = x + 1 := ⟨cnt - 1, by omega⟩
    rw [f7_squareRoot_6]
    rw [← isq_un (r := 2 ^ 0 * m) h4 h5]
    simp (disch := omega) only [letM_s, clP_s, clM_s, l_m89910, l_m999, l_m9, l_m4, l_m3, l_m2, l_m1, l_0, l_1, l_2, l_3, l_4, l_5, l_6, l_7, l_8, l_9, l_10, l_11, l_12, l_13, l_14, l_18, l_31, l_32, l_33, l_43, l_45, l_48, l_57, l_64, l_66, l_80, l_97, l_100, l_109, l_118, l_119, l_200, l_255, l_462, l_500, l_676, l_999, l_1000, l_1001, l_9999, l_10000, l_99999, l_100000, l_447214, l_1000000000, m_m999, m_m9, m_0, m_1, m_2, m_4, m_9, m_255, m_500, m_999, m_9999, m_10000, m_99999, m_200000000, m_4294967295, m_1442695040888963407, m_6364136223846793005, z_add, z_sub, z_mul, z_neg, y_add, y_sub, y_mul, y_neg, z_toL, y_toI, cmp_lt, cmp_gt, cmp_le, cmp_ge, z_lt, z_le, z_eq, y_lt, y_le, y_eq, if_pos, if_neg]
  | succ b ih =>
    intro m cnt h1 h2 h3 h4 h5
    obtain ⟨cnt, rfl⟩ : ∃ x, cnt = x + 1 := ⟨cnt - 1, by omega⟩
    have hp : 2 ^ (b + 1) = 2 * 2 ^ b := by rw [Nat.pow_succ, Nat.mul_comm]
    have hb : 2 ^ b ≤ 2 ^ 18 := Nat.pow_le_pow_right (by omega) (by omega)
    have hb1 : 1 ≤ 2 ^ b := Nat.one_le_two_pow
    have e1 : 2 ^ (b + 1) * m = 2 ^ b * (2 * m) := by rw [hp, Nat.mul_comm 2, Nat.mul_assoc]
    have e2 : 2 ^ (b + 1) * m ||| 2 ^ b = 2 ^ b * (2 * m + 1) := by
      rw [← Nat.two_pow_add_eq_or_of_lt (by omega), Nat.mul_add, ← e1, Nat.mul_one]
    have e3 : 2 ^ b * (2 * m + 1) = 2 ^ b * (2 * m) + 2 ^ b := by rw [Nat.mul_add, Nat.mul_one]
    have hlt : 2 ^ b * (2 * m + 1) < 1048576 := by omega
    have hsq : (2 ^ b * (2 * m + 1)) * (2 ^ b * (2 * m + 1)) < 1048576 * 1048576 := Nat.mul_lt_mul'' hlt hlt
    have eb := y_bit b (by omega)
    have eo : yI ((2 ^ (b + 1) * m : Nat) : Int) ||| yI ((2 ^ b : Nat) : Int) = yI ((2 ^ b * (2 * m + 1) : Nat) : Int) := by rw [y_or (by omega) (by omega), e2]
    have em : yI ((2 ^ b * (2 * m + 1) : Nat) : Int) * yI ((2 ^ b * (2 * m + 1) : Nat) : Int) = yI (((2 ^ b * (2 * m + 1)) * (2 ^ b * (2 * m + 1)) : Nat) : Int) := by rw [y_mul]; rfl
    have ev : ((b + 1 : Nat) : Int) - 1 = (b : Int) := by omega
    rw [f7_squareRoot_6, ev]
    by_cases q : (2 ^ b * (2 * m + 1)) * (2 ^ b * (2 * m + 1)) ≤ V
    · have hi := ih (2 * m + 1) cnt (by omega) (by omega) (by
        rcases Nat.lt_or_ge (2 ^ b * (2 * m + 1)) 524288 with w | w
        · exact w
        · have := Nat.mul_le_mul w w
          omega) q (by
        have e4 : 2 ^ b * (2 * m + 1) + 2 ^ b = 2 ^ (b + 1) * m + 2 ^ (b + 1) := by omega
        rw [e4]; exact h5)
      rw [← hi]
      simp only [letM_s, eb, eo, em]
      simp (disch := omega) only [letM_s, clP_s, clM_s, l_m89910, l_m999, l_m9, l_m4, l_m3, l_m2, l_m1, l_0, l_1, l_2, l_3, l_4, l_5, l_6, l_7, l_8, l_9, l_10, l_11, l_12, l_13, l_14, l_18, l_31, l_32, l_33, l_43, l_45, l_48, l_57, l_64, l_66, l_80, l_97, l_100, l_109, l_118, l_119, l_200, l_255, l_462, l_500, l_676, l_999, l_1000, l_1001, l_9999, l_10000, l_99999, l_100000, l_447214, l_1000000000, m_m999, m_m9, m_0, m_1, m_2, m_4, m_9, m_255, m_500, m_999, m_9999, m_10000, m_99999, m_200000000, m_4294967295, m_1442695040888963407, m_6364136223846793005, z_add, z_sub, z_mul, z_neg, y_add, y_sub, y_mul, y_neg, z_toL, y_toI, cmp_lt, cmp_gt, cmp_le, cmp_ge, z_lt, z_le, z_eq, y_lt, y_le, y_eq, if_pos, if_neg]
      rfl
    · have hi := ih (2 * m) cnt (by omega) (by omega) (by omega) (by rw [← e1]; exact h4) (by
        have e4 : 2 ^ b * (2 * m) + 2 ^ b = 2 ^ b * (2 * m + 1) := e3.symm
        rw [e4]; omega)
      rw [← e1] at hi
      rw [← hi]
      simp only [letM_s, eb, eo, em]
      simp (disch := omega) only [letM_s, clP_s, clM_s, l_m89910, l_m999, l_m9, l_m4, l_m3, l_m2, l_m1, l_0, l_1, l_2, l_3, l_4, l_5, l_6, l_7, l_8, l_9, l_10, l_11, l_12, l_13, l_14, l_18, l_31, l_32, l_33, l_43, l_45, l_48, l_57, l_64, l_66, l_80, l_97, l_100, l_109, l_118, l_119, l_200, l_255, l_462, l_500, l_676, l_999, l_1000, l_1001, l_9999, l_10000, l_99999, l_100000, l_447214, l_1000000000, m_m999, m_m9, m_0, m_1, m_2, m_4, m_9, m_255, m_500, m_999, m_9999, m_10000, m_99999, m_200000000, m_4294967295, m_1442695040888963407, m_6364136223846793005, z_add, z_sub, z_mul, z_neg, y_add, y_sub, y_mul, y_neg, z_toL, y_toI, cmp_lt, cmp_gt, cmp_le, cmp_ge, z_lt, z_le, z_eq, y_lt, y_le, y_eq, if_pos, if_neg]
      rfl
theorem e7_sq {N : Nat} (I : Mem) {V : Nat} (hN : 100 ≤ N) (hV : V < 274877906944) : f7_squareRoot N I (yI (V : Int)) = some (zI (isq V : Int), I) := by
  unfold f7_squareRoot
  exact e7_sq_6 N I V (by omega) 19 0 N (by omega) (by omega) (by omega) (by omega) (by omega)
/-- what the reference keeps of roots and of the top index -/
def McC (I : Mem) (k : Nat) : Prop :=
  (∃ many : Nat, many ≤ 1001 ∧ I k 13 = zI (many : Int) ∧ ∀ a : Nat, 1 ≤ a → a ≤ 999 → I k 12 = zI (a : Int) → ∀ j, j < many → I (k+8) j = zI (T a j : Int)) ∧
  ∀ a v : Nat, 1 ≤ a → a ≤ 999 → 1 ≤ v → v ≤ 999 → I k 14 = zI (a : Int) → I k 15 = zI (v : Int) → I k 16 = zI (topN a (cr v) 999 : Int)
/-- nothing changes but what is kept -/
def Cs (I I1 : Mem) (k : Nat) : Prop := (∀ x, x ≠ k → x ≠ k + 8 → I1 x = I x) ∧ ∀ j, j < 12 → I1 k j = I k j
theorem Cs.rf {I : Mem} {k : Nat} : Cs I I k := ⟨fun _ _ _ => rfl, fun _ _ => rfl⟩
theorem Cs.tr {I I1 I2 : Mem} {k : Nat} (h : Cs I I1 k) (h2 : Cs I1 I2 k) : Cs I I2 k := ⟨fun x a b => (h2.1 x a b).trans (h.1 x a b), fun j a => (h2.2 j a).trans (h.2 j a)⟩
theorem e7_lay_18 {N : Nat} {k a w : Nat} (a2 : Int32) (hN : 1100 ≤ N) (ha : 1 ≤ a) (ha2 : a ≤ 999) (hw : w ≤ 1001) : ∀ (d many cnt : Nat) (I : Mem), many + d = max w many → d < cnt → many ≤ 1001 → I k 12 = zI (a : Int) → I k 13 = zI (many : Int) → (∀ j, j < many → I (k+8) j = zI (T a j : Int)) → (∀ a v : Nat, 1 ≤ a → a ≤ 999 → 1 ≤ v → v ≤ 999 → I k 14 = zI (a : Int) → I k 15 = zI (v : Int) → I k 16 = zI (topN a (cr v) 999 : Int)) →
    ∃ I1, f7_layRoots_18 N k (zI (a : Int)) (zI (w : Int)) cnt I = some I1 ∧ McC I1 k ∧ Cs I I1 k ∧ I1 k 12 = zI (a : Int) ∧ (∀ j, j < w → I1 (k+8) j = zI (T a j : Int)) ∧ ∀ j, 14 ≤ j → I1 k j = I k j := by
  intro d
  induction d with
  | zero =>
    intro many cnt I h1 h2 h3 h4 h5 h6 h7
    obtain ⟨cnt, rfl⟩ : ∃ x, cnt = x + 1 := ⟨cnt - 1, by omega⟩
    refine ⟨I, ?_, ⟨⟨many, h3, h5, fun b hb hb2 e j hj => ?_⟩, h7⟩, Cs.rf, h4, fun j hj => h6 j (by omega), fun _ _ => rfl⟩
    · rw [f7_layRoots_18]
      simp (disch := omega) only [h5, letM_s, clP_s, clM_s, l_m89910, l_m999, l_m9, l_m4, l_m3, l_m2, l_m1, l_0, l_1, l_2, l_3, l_4, l_5, l_6, l_7, l_8, l_9, l_10, l_11, l_12, l_13, l_14, l_18, l_31, l_32, l_33, l_43, l_45, l_48, l_57, l_64, l_66, l_80, l_97, l_100, l_109, l_118, l_119, l_200, l_255, l_462, l_500, l_676, l_999, l_1000, l_1001, l_9999, l_10000, l_99999, l_100000, l_447214, l_1000000000, m_m999, m_m9, m_0, m_1, m_2, m_4, m_9, m_255, m_500, m_999, m_9999, m_10000, m_99999, m_200000000, m_4294967295, m_1442695040888963407, m_6364136223846793005, z_add, z_sub, z_mul, z_neg, y_add, y_sub, y_mul, y_neg, z_toL, y_toI, cmp_lt, cmp_gt, cmp_le, cmp_ge, z_lt, z_le, z_eq, y_lt, y_le, y_eq, if_pos, if_neg]
    · rw [zN_inj (e.symm.trans h4) (by omega) (by omega)]
      exact h6 j hj
  | succ d ih =>
    intro many cnt I h1 h2 h3 h4 h5 h6 h7
    obtain ⟨cnt, rfl⟩ : ∃ x, cnt = x + 1 := ⟨cnt - 1, by omega⟩
    have hmw : many < w := by omega
    have hd : 200000000 * many / a ≤ 200000000 * many := Nat.div_le_self _ _
    have es := e7_sq (N := N) I (V := 200000000 * many / a) (by omega) (by omega)
    have e1 : yI 200000000 * yI (many : Int) = yI ((200000000 * many : Nat) : Int) := by rw [y_mul]; rfl
    have hn : (zI (many : Int)).toNatClampNeg = many := by rw [z_nat (by omega) (by omega)]; rfl
    have es' : f7_squareRoot N I (yI ((200000000 * many : Nat) : Int) / yI (a : Int)) = some (zI (T a many : Int), I) := by
      rw [y_divN (by omega) (by omega)]; exact es
    obtain ⟨I1, q1, q2, q3, q4, q5, q6⟩ := ih (many + 1) cnt (st (st I (k+8) many (zI (T a many : Int))) k 13 (zI ((many + 1 : Nat) : Int))) (by omega) (by omega) (by omega)
      (by rw [st_j (by omega), st_k (by omega)]; exact h4) (st_s _ _ _ _)
      (fun j hj => by
        rw [st_k (by omega)]
        by_cases e : j = many
        · rw [e, st_s]
        · rw [st_j e]; exact h6 j (by omega))
      (fun b v b1 b2 b3 b4 e e' => by
        rw [st_j (by omega), st_k (by omega)] at e e' ⊢
        exact h7 b v b1 b2 b3 b4 e e')
    refine ⟨I1, ?_, q2, ?_, q4, q5, fun j hj => ?_⟩
    · rw [← q1, f7_layRoots_18]
      simp (disch := omega) only [h5, hn, z_toL, m_200000000, e1, es', clP_s, letM_s, l_0, l_1, z_le, z_lt, y_eq, m_0, if_neg, st_k, st_s, z_add]
      rfl
    · refine Cs.tr ⟨fun x x1 x2 => ?_, fun j hj => ?_⟩ q3
      · rw [st_k x1, st_k x2]
      · rw [st_j (by omega), st_k (by omega)]
    · rw [q6 j hj, st_j (by omega), st_k (by omega)]
theorem e7_lay {N : Nat} {I : Mem} {k a w : Nat} (hN : 1100 ≤ N) (ha : 1 ≤ a) (ha2 : a ≤ 999) (hw : w ≤ 1001) (hC : McC I k) :
    ∃ I1, f7_layRoots N I k (zI (a : Int)) (zI (w : Int)) = some I1 ∧ McC I1 k ∧ Cs I I1 k ∧ (∀ j, j < w → I1 (k+8) j = zI (T a j : Int)) := by
  unfold f7_layRoots
  obtain ⟨⟨many, m1, m2, m3⟩, hT⟩ := hC
  by_cases e : I k 12 = zI (a : Int)
  · rw [if_pos e]
    obtain ⟨I1, q1, q2, q3, q4, q5, -⟩ := e7_lay_18 (N := N) (k := k) (a := a) (w := w) (zI (w : Int)) hN ha ha2 hw (max w many - many) many N I (by omega) (by omega) m1 e m2 (m3 a ha ha2 e) hT
    exact ⟨I1, q1, q2, q3, q5⟩
  · rw [if_neg e]
    obtain ⟨I1, q1, q2, q3, q4, q5, -⟩ := e7_lay_18 (N := N) (k := k) (a := a) (w := w) (zI (w : Int)) hN ha ha2 hw w 0 N (st (st I k 12 (zI (a : Int))) k 13 (zI 0)) (by omega) (by omega) (by omega)
      (by rw [st_j (by omega), st_s]) (st_s _ _ _ _) (fun j hj => by omega)
      (fun b v b1 b2 b3 b4 e e' => by
        rw [st_j (by omega), st_j (by omega)] at e e' ⊢
        exact hT b v b1 b2 b3 b4 e e')
    refine ⟨I1, ?_, q2, Cs.tr ⟨fun x x1 x2 => ?_, fun j hj => ?_⟩ q3, q5⟩
    · simp only [letM_s, l_0]; exact q1
    · rw [st_k x1, st_k x1]
    · rw [st_j (by omega), st_j (by omega)]
theorem e7_rampOf {N : Nat} {I : Mem} {k a n : Nat} (hN : 1100 ≤ N) (ha : 1 ≤ a) (ha2 : a ≤ 999) (hn : n ≤ 999) (hC : McC I k) :
    ∃ I1, f7_rampOf N I k (zI (a : Int)) (zI (n : Int)) = some (zI (Rr a n : Int), I1) ∧ McC I1 k ∧ Cs I I1 k := by
  obtain ⟨I1, q1, q2, q3, q4⟩ := e7_lay (N := N) (w := n + 2) hN ha ha2 (by omega) hC
  refine ⟨I1, ?_, q2, q3⟩
  unfold f7_rampOf
  have hn0 : (zI (n : Int)).toNatClampNeg = n := by rw [z_nat (by omega) (by omega)]; rfl
  have hn1 : (zI ((n : Int) + 1)).toNatClampNeg = n + 1 := by rw [z_nat (by omega) (by omega)]; omega
  have e1 : zI ((n : Int) + 2) = zI ((n + 2 : Nat) : Int) := rfl
  have h3 := T_R a n
  simp (disch := omega) only [l_2, z_add, e1, q1, clM_s, l_1, l_0, hn0, hn1, z_lt, if_neg, q4 n (by omega), q4 (n+1) (by omega), z_sub]
  rw [show (T a (n+1) : Int) - (T a n : Int) = (Rr a n : Int) by omega]
theorem e7_cruiseOf (N : Nat) (I : Mem) {v : Nat} (hv : 1 ≤ v) (hv2 : v ≤ 999) : f7_cruiseOf N I (zI (v : Int)) = some (zI (cr v : Int), I) := by
  unfold f7_cruiseOf
  have e : zI (10000 + (v : Int) - 1) / zI (v : Int) = zI (cr v : Int) := by
    rw [show (10000 + (v : Int) - 1) = ((10000 + v - 1 : Nat) : Int) by omega, z_divN (by omega) (by omega)]
    rfl
  simp (disch := omega) only [letM_s, clP_s, clM_s, l_m89910, l_m999, l_m9, l_m4, l_m3, l_m2, l_m1, l_0, l_1, l_2, l_3, l_4, l_5, l_6, l_7, l_8, l_9, l_10, l_11, l_12, l_13, l_14, l_18, l_31, l_32, l_33, l_43, l_45, l_48, l_57, l_64, l_66, l_80, l_97, l_100, l_109, l_118, l_119, l_200, l_255, l_462, l_500, l_676, l_999, l_1000, l_1001, l_9999, l_10000, l_99999, l_100000, l_447214, l_1000000000, m_m999, m_m9, m_0, m_1, m_2, m_4, m_9, m_255, m_500, m_999, m_9999, m_10000, m_99999, m_200000000, m_4294967295, m_1442695040888963407, m_6364136223846793005, z_add, z_sub, z_mul, z_neg, y_add, y_sub, y_mul, y_neg, z_toL, y_toI, cmp_lt, cmp_gt, cmp_le, cmp_ge, z_lt, z_le, z_eq, y_lt, y_le, y_eq, if_pos, if_neg, e]
theorem e7_topOf_3 {N : Nat} {k a v most : Nat} (hN : 1100 ≤ N) (ha : 1 ≤ a) (ha2 : a ≤ 999) (hv : 1 ≤ v) (hv2 : v ≤ 999) (hm : most ≤ 999) : ∀ (d i cnt : Nat) (I : Mem), i + d = most → d < cnt → McC I k → (∀ j, j < i → cr v < Rr a j) →
    ∃ I1, f7_topOf_3 N k (zI (a : Int)) (zI (v : Int)) (zI (most : Int)) cnt I (zI (i : Int)) = some (zI (topN a (cr v) most : Int), I1) ∧ McC I1 k ∧ Cs I I1 k := by
  have hc := cr_bd hv hv2
  intro d
  induction d with
  | zero =>
    intro i cnt I h1 h2 h3 h4
    obtain ⟨cnt, rfl⟩ : ∃ x, cnt = x + 1 := ⟨cnt - 1, by omega⟩
    refine ⟨I, ?_, h3, Cs.rf⟩
    rw [← topN_un (n := i) (by omega) h4 (by omega), f7_topOf_3]
    simp (disch := omega) only [letM_s, clP_s, clM_s, l_m89910, l_m999, l_m9, l_m4, l_m3, l_m2, l_m1, l_0, l_1, l_2, l_3, l_4, l_5, l_6, l_7, l_8, l_9, l_10, l_11, l_12, l_13, l_14, l_18, l_31, l_32, l_33, l_43, l_45, l_48, l_57, l_64, l_66, l_80, l_97, l_100, l_109, l_118, l_119, l_200, l_255, l_462, l_500, l_676, l_999, l_1000, l_1001, l_9999, l_10000, l_99999, l_100000, l_447214, l_1000000000, m_m999, m_m9, m_0, m_1, m_2, m_4, m_9, m_255, m_500, m_999, m_9999, m_10000, m_99999, m_200000000, m_4294967295, m_1442695040888963407, m_6364136223846793005, z_add, z_sub, z_mul, z_neg, y_add, y_sub, y_mul, y_neg, z_toL, y_toI, cmp_lt, cmp_gt, cmp_le, cmp_ge, z_lt, z_le, z_eq, y_lt, y_le, y_eq, if_pos, if_neg]
  | succ d ih =>
    intro i cnt I h1 h2 h3 h4
    obtain ⟨cnt, rfl⟩ : ∃ x, cnt = x + 1 := ⟨cnt - 1, by omega⟩
    obtain ⟨I1, q1, q2, q3⟩ := e7_rampOf (n := i) hN ha ha2 (by omega) h3
    have q4 := e7_cruiseOf N I1 hv hv2
    have b1 := T_bd (n := i + 1) ha (by omega)
    have b2 := T_R a i
    rw [f7_topOf_3]
    rcases Nat.lt_or_ge (cr v) (Rr a i) with q | q
    · obtain ⟨I2, r1, r2, r3⟩ := ih (i+1) cnt I1 (by omega) (by omega) q2 (fun j hj => by
        by_cases e : j = i
        · rw [e]; exact q
        · exact h4 j (by omega))
      refine ⟨I2, ?_, r2, q3.tr r3⟩
      rw [← r1]
      simp (disch := omega) only [q1, q4, letM_s, clP_s, clM_s, l_m89910, l_m999, l_m9, l_m4, l_m3, l_m2, l_m1, l_0, l_1, l_2, l_3, l_4, l_5, l_6, l_7, l_8, l_9, l_10, l_11, l_12, l_13, l_14, l_18, l_31, l_32, l_33, l_43, l_45, l_48, l_57, l_64, l_66, l_80, l_97, l_100, l_109, l_118, l_119, l_200, l_255, l_462, l_500, l_676, l_999, l_1000, l_1001, l_9999, l_10000, l_99999, l_100000, l_447214, l_1000000000, m_m999, m_m9, m_0, m_1, m_2, m_4, m_9, m_255, m_500, m_999, m_9999, m_10000, m_99999, m_200000000, m_4294967295, m_1442695040888963407, m_6364136223846793005, z_add, z_sub, z_mul, z_neg, y_add, y_sub, y_mul, y_neg, z_toL, y_toI, cmp_lt, cmp_gt, cmp_le, cmp_ge, z_lt, z_le, z_eq, y_lt, y_le, y_eq, if_pos, if_neg]
      rfl
    · refine ⟨I1, ?_, q2, q3⟩
      rw [← topN_un (n := i) (by omega) h4 (fun _ => q)]
      simp (disch := omega) only [q1, q4, letM_s, clP_s, clM_s, l_m89910, l_m999, l_m9, l_m4, l_m3, l_m2, l_m1, l_0, l_1, l_2, l_3, l_4, l_5, l_6, l_7, l_8, l_9, l_10, l_11, l_12, l_13, l_14, l_18, l_31, l_32, l_33, l_43, l_45, l_48, l_57, l_64, l_66, l_80, l_97, l_100, l_109, l_118, l_119, l_200, l_255, l_462, l_500, l_676, l_999, l_1000, l_1001, l_9999, l_10000, l_99999, l_100000, l_447214, l_1000000000, m_m999, m_m9, m_0, m_1, m_2, m_4, m_9, m_255, m_500, m_999, m_9999, m_10000, m_99999, m_200000000, m_4294967295, m_1442695040888963407, m_6364136223846793005, z_add, z_sub, z_mul, z_neg, y_add, y_sub, y_mul, y_neg, z_toL, y_toI, cmp_lt, cmp_gt, cmp_le, cmp_ge, z_lt, z_le, z_eq, y_lt, y_le, y_eq, if_pos, if_neg]
theorem e7_topOf {N : Nat} {I : Mem} {k a v most : Nat} (hN : 1100 ≤ N) (ha : 1 ≤ a) (ha2 : a ≤ 999) (hv : 1 ≤ v) (hv2 : v ≤ 999) (hm : most ≤ 999) (hC : McC I k) :
    ∃ I1, f7_topOf N I k (zI (a : Int)) (zI (v : Int)) (zI (most : Int)) = some (zI (topN a (cr v) most : Int), I1) ∧ McC I1 k ∧ Cs I I1 k :=
  e7_topOf_3 hN ha ha2 hv hv2 hm most 0 N I (by omega) (by omega) hC (fun j hj => by omega)
theorem e7_fullTop {N : Nat} {I : Mem} {k a v : Nat} (hN : 1100 ≤ N) (ha : 1 ≤ a) (ha2 : a ≤ 999) (hv : 1 ≤ v) (hv2 : v ≤ 999) (hC : McC I k) :
    ∃ I1, f7_fullTop N I k (zI (a : Int)) (zI (v : Int)) = some (zI (topN a (cr v) 999 : Int), I1) ∧ McC I1 k ∧ Cs I I1 k := by
  have h16 : ∃ I1, f7_fullTop_16 N k (zI (a : Int)) (zI (v : Int)) I = some (zI (topN a (cr v) 999 : Int), I1) ∧ McC I1 k ∧ Cs I I1 k := by
    unfold f7_fullTop_16
    obtain ⟨I1, q1, ⟨⟨many, m1, m2, m3⟩, hT⟩, q3⟩ := e7_topOf (most := 999) hN ha ha2 hv hv2 (by omega) hC
    refine ⟨st (st (st I1 k 16 (zI (topN a (cr v) 999 : Int))) k 14 (zI (a : Int))) k 15 (zI (v : Int)), ?_, ⟨⟨many, m1, ?_, fun b hb hb2 e j hj => ?_⟩, fun b w hb hb2 hw hw2 e e' => ?_⟩, q3.tr ⟨fun x x1 x2 => ?_, fun j hj => ?_⟩⟩
    · rw [l_999, show zI 999 = zI ((999 : Nat) : Int) from rfl, q1]
      simp only [clP_s, letM_s]
      rw [st_j (by omega), st_j (by omega), st_s]
    · rw [st_j (by omega), st_j (by omega), st_j (by omega)]; exact m2
    · rw [st_j (by omega), st_j (by omega), st_j (by omega)] at e
      rw [st_k (by omega), st_k (by omega), st_k (by omega)]
      exact m3 b hb hb2 e j hj
    · rw [st_j (by omega), st_s] at e
      rw [st_s] at e'
      rw [st_j (by omega), st_j (by omega), st_s, zN_inj e (by omega) (by omega), zN_inj e' (by omega) (by omega)]
    · rw [st_k x1, st_k x1, st_k x1]
    · rw [st_j (by omega), st_j (by omega), st_j (by omega)]
  unfold f7_fullTop
  by_cases e : I k 14 = zI (a : Int)
  · by_cases e1 : I k 15 = zI (v : Int)
    · exact ⟨I, by rw [if_pos e, if_pos e1, hC.2 a v ha ha2 hv hv2 e e1], hC, Cs.rf⟩
    · obtain ⟨I1, q⟩ := h16
      exact ⟨I1, by rw [if_pos e, if_neg e1]; exact q.1, q.2⟩
  · obtain ⟨I1, q⟩ := h16
    exact ⟨I1, by rw [if_neg e]; exact q.1, q.2⟩
theorem e7_intervalOf {N : Nat} {I : Mem} {k a v n : Nat} (hN : 1100 ≤ N) (ha : 1 ≤ a) (ha2 : a ≤ 999) (hv : 1 ≤ v) (hv2 : v ≤ 999) (hn : n ≤ 999) (hC : McC I k) :
    ∃ I1, f7_intervalOf N I k (zI (a : Int)) (zI (v : Int)) (zI (n : Int)) = some (zI (itv a (cr v) n : Int), I1) ∧ McC I1 k ∧ Cs I I1 k := by
  have hc := cr_bd hv hv2
  obtain ⟨I1, q1, q2, q3⟩ := e7_rampOf (n := n) hN ha ha2 hn hC
  have q4 := e7_cruiseOf N I1 hv hv2
  have b1 := T_bd (n := n + 1) ha (by omega)
  have b2 := T_R a n
  refine ⟨I1, ?_, q2, q3⟩
  unfold f7_intervalOf itv
  rcases Nat.lt_or_ge (cr v) (Rr a n) with q | q
  · rw [show max (Rr a n) (cr v) = Rr a n by omega]
    simp (disch := omega) only [q1, q4, letM_s, clP_s, clM_s, l_m89910, l_m999, l_m9, l_m4, l_m3, l_m2, l_m1, l_0, l_1, l_2, l_3, l_4, l_5, l_6, l_7, l_8, l_9, l_10, l_11, l_12, l_13, l_14, l_18, l_31, l_32, l_33, l_43, l_45, l_48, l_57, l_64, l_66, l_80, l_97, l_100, l_109, l_118, l_119, l_200, l_255, l_462, l_500, l_676, l_999, l_1000, l_1001, l_9999, l_10000, l_99999, l_100000, l_447214, l_1000000000, m_m999, m_m9, m_0, m_1, m_2, m_4, m_9, m_255, m_500, m_999, m_9999, m_10000, m_99999, m_200000000, m_4294967295, m_1442695040888963407, m_6364136223846793005, z_add, z_sub, z_mul, z_neg, y_add, y_sub, y_mul, y_neg, z_toL, y_toI, cmp_lt, cmp_gt, cmp_le, cmp_ge, z_lt, z_le, z_eq, y_lt, y_le, y_eq, if_pos, if_neg]
  · rw [show max (Rr a n) (cr v) = cr v by omega]
    simp (disch := omega) only [q1, q4, letM_s, clP_s, clM_s, l_m89910, l_m999, l_m9, l_m4, l_m3, l_m2, l_m1, l_0, l_1, l_2, l_3, l_4, l_5, l_6, l_7, l_8, l_9, l_10, l_11, l_12, l_13, l_14, l_18, l_31, l_32, l_33, l_43, l_45, l_48, l_57, l_64, l_66, l_80, l_97, l_100, l_109, l_118, l_119, l_200, l_255, l_462, l_500, l_676, l_999, l_1000, l_1001, l_9999, l_10000, l_99999, l_100000, l_447214, l_1000000000, m_m999, m_m9, m_0, m_1, m_2, m_4, m_9, m_255, m_500, m_999, m_9999, m_10000, m_99999, m_200000000, m_4294967295, m_1442695040888963407, m_6364136223846793005, z_add, z_sub, z_mul, z_neg, y_add, y_sub, y_mul, y_neg, z_toL, y_toI, cmp_lt, cmp_gt, cmp_le, cmp_ge, z_lt, z_le, z_eq, y_lt, y_le, y_eq, if_pos, if_neg]
/-- the index behind p, where so many steps remain -/
def idxA (p left tp : Nat) : Nat := if p + 1 ≤ min (left - 1) tp then p + 1 else if p ≤ min (left - 1) tp then p else p - 1
theorem e7_indexAfter (N : Nat) (I : Mem) {p left tp : Nat} (hp : p ≤ 100000) (hl : 1 ≤ left) (hl2 : left ≤ 100000) (ht : tp ≤ 100000) : f7_indexAfter N I (zI (p : Int)) (zI (left : Int)) (zI (tp : Int)) = some (zI (idxA p left tp : Int), I) := by
  have h14 : ∀ m : Nat, m = min (left - 1) tp → f7_indexAfter_14 N (zI (p : Int)) (zI (left : Int)) (zI (tp : Int)) I (zI (m : Int)) = some (zI (idxA p left tp : Int), I) := by
    intro m hm
    unfold f7_indexAfter_14 idxA
    rw [← hm]
    by_cases c1 : p + 1 ≤ m
    · rw [if_pos c1]
      simp (disch := omega) only [letM_s, clP_s, clM_s, l_m89910, l_m999, l_m9, l_m4, l_m3, l_m2, l_m1, l_0, l_1, l_2, l_3, l_4, l_5, l_6, l_7, l_8, l_9, l_10, l_11, l_12, l_13, l_14, l_18, l_31, l_32, l_33, l_43, l_45, l_48, l_57, l_64, l_66, l_80, l_97, l_100, l_109, l_118, l_119, l_200, l_255, l_462, l_500, l_676, l_999, l_1000, l_1001, l_9999, l_10000, l_99999, l_100000, l_447214, l_1000000000, m_m999, m_m9, m_0, m_1, m_2, m_4, m_9, m_255, m_500, m_999, m_9999, m_10000, m_99999, m_200000000, m_4294967295, m_1442695040888963407, m_6364136223846793005, z_add, z_sub, z_mul, z_neg, y_add, y_sub, y_mul, y_neg, z_toL, y_toI, cmp_lt, cmp_gt, cmp_le, cmp_ge, z_lt, z_le, z_eq, y_lt, y_le, y_eq, if_pos, if_neg]
      rfl
    · rw [if_neg c1]
      by_cases c2 : p ≤ m
      · rw [if_pos c2]
        simp (disch := omega) only [letM_s, clP_s, clM_s, l_m89910, l_m999, l_m9, l_m4, l_m3, l_m2, l_m1, l_0, l_1, l_2, l_3, l_4, l_5, l_6, l_7, l_8, l_9, l_10, l_11, l_12, l_13, l_14, l_18, l_31, l_32, l_33, l_43, l_45, l_48, l_57, l_64, l_66, l_80, l_97, l_100, l_109, l_118, l_119, l_200, l_255, l_462, l_500, l_676, l_999, l_1000, l_1001, l_9999, l_10000, l_99999, l_100000, l_447214, l_1000000000, m_m999, m_m9, m_0, m_1, m_2, m_4, m_9, m_255, m_500, m_999, m_9999, m_10000, m_99999, m_200000000, m_4294967295, m_1442695040888963407, m_6364136223846793005, z_add, z_sub, z_mul, z_neg, y_add, y_sub, y_mul, y_neg, z_toL, y_toI, cmp_lt, cmp_gt, cmp_le, cmp_ge, z_lt, z_le, z_eq, y_lt, y_le, y_eq, if_pos, if_neg]
      · rw [if_neg c2, Int.natCast_sub (by omega)]
        simp (disch := omega) only [letM_s, clP_s, clM_s, l_m89910, l_m999, l_m9, l_m4, l_m3, l_m2, l_m1, l_0, l_1, l_2, l_3, l_4, l_5, l_6, l_7, l_8, l_9, l_10, l_11, l_12, l_13, l_14, l_18, l_31, l_32, l_33, l_43, l_45, l_48, l_57, l_64, l_66, l_80, l_97, l_100, l_109, l_118, l_119, l_200, l_255, l_462, l_500, l_676, l_999, l_1000, l_1001, l_9999, l_10000, l_99999, l_100000, l_447214, l_1000000000, m_m999, m_m9, m_0, m_1, m_2, m_4, m_9, m_255, m_500, m_999, m_9999, m_10000, m_99999, m_200000000, m_4294967295, m_1442695040888963407, m_6364136223846793005, z_add, z_sub, z_mul, z_neg, y_add, y_sub, y_mul, y_neg, z_toL, y_toI, cmp_lt, cmp_gt, cmp_le, cmp_ge, z_lt, z_le, z_eq, y_lt, y_le, y_eq, if_pos, if_neg]
        rfl
  unfold f7_indexAfter
  by_cases c : tp ≤ left - 1
  · have := h14 tp (by omega)
    simp (disch := omega) only [letM_s, clP_s, clM_s, l_m89910, l_m999, l_m9, l_m4, l_m3, l_m2, l_m1, l_0, l_1, l_2, l_3, l_4, l_5, l_6, l_7, l_8, l_9, l_10, l_11, l_12, l_13, l_14, l_18, l_31, l_32, l_33, l_43, l_45, l_48, l_57, l_64, l_66, l_80, l_97, l_100, l_109, l_118, l_119, l_200, l_255, l_462, l_500, l_676, l_999, l_1000, l_1001, l_9999, l_10000, l_99999, l_100000, l_447214, l_1000000000, m_m999, m_m9, m_0, m_1, m_2, m_4, m_9, m_255, m_500, m_999, m_9999, m_10000, m_99999, m_200000000, m_4294967295, m_1442695040888963407, m_6364136223846793005, z_add, z_sub, z_mul, z_neg, y_add, y_sub, y_mul, y_neg, z_toL, y_toI, cmp_lt, cmp_gt, cmp_le, cmp_ge, z_lt, z_le, z_eq, y_lt, y_le, y_eq, if_pos, if_neg, this]
  · have := h14 (left - 1) (by omega)
    rw [Int.natCast_sub (by omega)] at this
    simp (disch := omega) only [letM_s, clP_s, clM_s, l_m89910, l_m999, l_m9, l_m4, l_m3, l_m2, l_m1, l_0, l_1, l_2, l_3, l_4, l_5, l_6, l_7, l_8, l_9, l_10, l_11, l_12, l_13, l_14, l_18, l_31, l_32, l_33, l_43, l_45, l_48, l_57, l_64, l_66, l_80, l_97, l_100, l_109, l_118, l_119, l_200, l_255, l_462, l_500, l_676, l_999, l_1000, l_1001, l_9999, l_10000, l_99999, l_100000, l_447214, l_1000000000, m_m999, m_m9, m_0, m_1, m_2, m_4, m_9, m_255, m_500, m_999, m_9999, m_10000, m_99999, m_200000000, m_4294967295, m_1442695040888963407, m_6364136223846793005, z_add, z_sub, z_mul, z_neg, y_add, y_sub, y_mul, y_neg, z_toL, y_toI, cmp_lt, cmp_gt, cmp_le, cmp_ge, z_lt, z_le, z_eq, y_lt, y_le, y_eq, if_pos, if_neg]
    exact this
/-- the indices of a move that nothing changes -/
theorem idxA_ud {k len tp : Nat} (h : k + 1 < len) : idxA (min (min k (len - 1 - k)) tp) (len - (k + 1)) tp = min (min (k + 1) (len - 1 - (k + 1))) tp := by
  unfold idxA
  by_cases c1 : min (min k (len - 1 - k)) tp + 1 ≤ min (len - (k + 1) - 1) tp
  · rw [if_pos c1]; omega
  · rw [if_neg c1]
    by_cases c2 : min (min k (len - 1 - k)) tp ≤ min (len - (k + 1) - 1) tp
    · rw [if_pos c2]; omega
    · rw [if_neg c2]; omega
theorem idxA_top {p left t1 t2 : Nat} (h : ∀ x, x ≤ p + 1 → x ≤ left - 1 → (x ≤ t1 ↔ x ≤ t2)) : idxA p left t1 = idxA p left t2 := by
  have h1 := h p (by omega)
  have h2 := h (p + 1) (Nat.le_refl _)
  unfold idxA
  simp only [show (p + 1 ≤ min (left - 1) t1) = (p + 1 ≤ min (left - 1) t2) from propext (by omega), show (p ≤ min (left - 1) t1) = (p ≤ min (left - 1) t2) from propext (by omega)]
theorem e7_ticksOf_47 {N : Nat} {k a v len tp : Nat} (a3 : Int32) (hN : 1100 ≤ N) (ha : 1 ≤ a) (ha2 : a ≤ 999) (hv : 1 ≤ v) (hv2 : v ≤ 999) (hl : len ≤ 999) (htp : tp ≤ 999) (htp2 : ∀ x, x ≤ len / 2 → (x ≤ tp ↔ x ≤ topN a (cr v) 999)) : ∀ (d i cnt : Nat) (I : Mem), i + 1 + d = len → d < cnt → McC I k →
    ∃ I1, f7_ticksOf_47 N k (zI (a : Int)) (zI (v : Int)) a3 cnt I (zI (tp : Int)) (zI ((min (min i (len - 1 - i)) (topN a (cr v) 999) : Nat) : Int)) (zI (sumN (fun k => itv a (cr v) (min (min k (len - 1 - k)) (topN a (cr v) 999))) (i+1) : Int)) (zI (d : Int)) = some (zI (mv a (cr v) len : Int), I1) ∧ McC I1 k ∧ Cs I I1 k := by
  have hmv := mv_bd (c := cr v) ha (cr_bd hv hv2).2 len hl
  rw [← mv_ud] at hmv ⊢
  intro d
  induction d with
  | zero =>
    intro i cnt I h1 h2 h3
    obtain ⟨cnt, rfl⟩ : ∃ x, cnt = x + 1 := ⟨cnt - 1, by omega⟩
    refine ⟨I, ?_, h3, Cs.rf⟩
    rw [f7_ticksOf_47, show len = i + 1 by omega]
    simp (disch := omega) only [letM_s, clP_s, clM_s, l_m89910, l_m999, l_m9, l_m4, l_m3, l_m2, l_m1, l_0, l_1, l_2, l_3, l_4, l_5, l_6, l_7, l_8, l_9, l_10, l_11, l_12, l_13, l_14, l_18, l_31, l_32, l_33, l_43, l_45, l_48, l_57, l_64, l_66, l_80, l_97, l_100, l_109, l_118, l_119, l_200, l_255, l_462, l_500, l_676, l_999, l_1000, l_1001, l_9999, l_10000, l_99999, l_100000, l_447214, l_1000000000, m_m999, m_m9, m_0, m_1, m_2, m_4, m_9, m_255, m_500, m_999, m_9999, m_10000, m_99999, m_200000000, m_4294967295, m_1442695040888963407, m_6364136223846793005, z_add, z_sub, z_mul, z_neg, y_add, y_sub, y_mul, y_neg, z_toL, y_toI, cmp_lt, cmp_gt, cmp_le, cmp_ge, z_lt, z_le, z_eq, y_lt, y_le, y_eq, if_pos, if_neg]
  | succ d ih =>
    intro i cnt I h1 h2 h3
    obtain ⟨cnt, rfl⟩ : ∃ x, cnt = x + 1 := ⟨cnt - 1, by omega⟩
    have ei := e7_indexAfter N I (p := min (min i (len - 1 - i)) (topN a (cr v) 999)) (left := d + 1) (tp := tp) (by omega) (by omega) (by omega) (by omega)
    have eid : idxA (min (min i (len - 1 - i)) (topN a (cr v) 999)) (d + 1) tp = min (min (i + 1) (len - 1 - (i + 1))) (topN a (cr v) 999) := by
      rw [idxA_top (t2 := topN a (cr v) 999) (fun x hx hx3 => htp2 x (by omega)), show d + 1 = len - (i + 1) by omega]
      exact idxA_ud (by omega)
    rw [eid] at ei
    obtain ⟨I1, q1, q2, q3⟩ := e7_intervalOf (n := min (min (i + 1) (len - 1 - (i + 1))) (topN a (cr v) 999)) hN ha ha2 hv hv2 (by omega) h3
    obtain ⟨I2, r1, r2, r3⟩ := ih (i+1) cnt I1 (by omega) (by omega) q2
    have hs : sumN (fun k => itv a (cr v) (min (min k (len - 1 - k)) (topN a (cr v) 999))) (i+1+1) ≤ sumN (fun k => itv a (cr v) (min (min k (len - 1 - k)) (topN a (cr v) 999))) len := sumN_mono _ (by omega)
    have hs2 : sumN (fun k => itv a (cr v) (min (min k (len - 1 - k)) (topN a (cr v) 999))) (i+1+1) = sumN (fun k => itv a (cr v) (min (min k (len - 1 - k)) (topN a (cr v) 999))) (i+1) + itv a (cr v) (min (min (i+1) (len - 1 - (i+1))) (topN a (cr v) 999)) := rfl
    refine ⟨I2, ?_, r2, q3.tr r3⟩
    rw [← r1, hs2, f7_ticksOf_47]
    simp (disch := omega) only [l_0, l_m1, z_le, if_neg, ei, clP_s, q1, letM_s, z_add]
    rw [show ((d + 1 : Nat) : Int) + -1 = (d : Int) by omega]
    rfl
theorem e7_ticksOf {N : Nat} {I : Mem} {k a v len : Nat} (hN : 1100 ≤ N) (ha : 1 ≤ a) (ha2 : a ≤ 999) (hv : 1 ≤ v) (hv2 : v ≤ 999) (hl1 : 1 ≤ len) (hl : len ≤ 999) (hC : McC I k) :
    ∃ I1, f7_ticksOf N I k (zI (a : Int)) (zI (v : Int)) (zI (len : Int)) = some (zI (mv a (cr v) len : Int), I1) ∧ McC I1 k ∧ Cs I I1 k := by
  have h25 : ∀ most : Nat, most ≤ 999 → len / 2 + 1 ≤ most → ∃ I1, f7_ticksOf_25 N k (zI (a : Int)) (zI (v : Int)) (zI (len : Int)) I (zI (most : Int)) (zI (v : Int)) (zI (a : Int)) = some (zI (mv a (cr v) len : Int), I1) ∧ McC I1 k ∧ Cs I I1 k := by
    intro most hm hm2
    unfold f7_ticksOf_25
    obtain ⟨I1, q1, q2, q3⟩ := e7_topOf (most := most) hN ha ha2 hv hv2 hm hC
    obtain ⟨I2, r1, r2, r3⟩ := e7_intervalOf (n := 0) hN ha ha2 hv hv2 (by omega) q2
    have ht := topN_min (a := a) (c := cr v) hm
    obtain ⟨I3, s1, s2, s3⟩ := e7_ticksOf_47 (N := N) (k := k) (tp := topN a (cr v) most) (zI (len : Int)) hN ha ha2 hv hv2 hl (by have := topN_le a (cr v) most; omega) (fun x hx => by omega) (len - 1) 0 N I2 (by omega) (by omega) r2
    refine ⟨I3, ?_, s2, (q3.tr r3).tr s3⟩
    rw [← s1]
    simp only [q1, clP_s, l_0, l_1]
    rw [show zI 0 = zI ((0 : Nat) : Int) from rfl, r1]
    simp only [clP_s, letM_s, z_sub]
    rw [show (len : Int) - 1 = ((len - 1 : Nat) : Int) by omega]
    have e1 : sumN (fun k => itv a (cr v) (min (min k (len - 1 - k)) (topN a (cr v) 999))) (0+1) = itv a (cr v) 0 := by
      show 0 + itv a (cr v) (min (min 0 (len - 1 - 0)) (topN a (cr v) 999)) = _
      rw [show min (min 0 (len - 1 - 0)) (topN a (cr v) 999) = 0 by omega, Nat.zero_add]
    rw [e1, show min (min 0 (len - 1 - 0)) (topN a (cr v) 999) = 0 by omega]
  unfold f7_ticksOf
  have e1 : zI (len : Int) / zI 2 = zI ((len / 2 : Nat) : Int) := z_divN (b := 2) (by omega) (by omega)
  have := h25 (len / 2 + 1) (by omega) (by omega)
  simp (disch := omega) only [l_2, e1, l_1, l_999, z_add, z_le, if_neg]
  exact this
