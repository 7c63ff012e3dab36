/-! THE CLASS' PUBLIC METHODS: approximation, the least acceleration, the greatest length -/
theorem e2_apx (N : Nat) (I : Mem) {k : Nat} {nn : Nat} (a1 : Int32) (ha : a1 = zI (nn : Int)) (hn : nn ≤ 999) : ∀ (e i cnt : Nat) (v r : Int32), i + e = nn + 1 → e < cnt → 1 ≤ i → f2_approximation_20 N k a1 cnt I v r (zI (i : Int)) = some (apx e v r i, I) := by
  intro e
  induction e with
  | zero =>
    intro i cnt v r h1 h2 h3
    obtain ⟨cnt, rfl⟩ : ∃ x, cnt = x + 1 := ⟨cnt - 1, by omega⟩
    subst ha
    rw [f2_approximation_20]
    simp (disch := omega) only [z_lt, if_pos]
    rfl
  | succ e ih =>
    intro i cnt v r h1 h2 h3
    obtain ⟨cnt, rfl⟩ : ∃ x, cnt = x + 1 := ⟨cnt - 1, by omega⟩
    have hi := ih (i + 1) cnt (v - (zI 2 * v + r) / zI (4 * (i : Int) + 1)) ((zI 2 * v + r) - (zI 2 * v + r) / zI (4 * (i : Int) + 1) * zI (4 * (i : Int) + 1)) (by omega) (by omega) (by omega)
    subst ha
    rw [show apx (e+1) v r i = apx e (v - (zI 2 * v + r) / zI (4 * (i : Int) + 1)) ((zI 2 * v + r) - (zI 2 * v + r) / zI (4 * (i : Int) + 1) * zI (4 * (i : Int) + 1)) (i + 1) from rfl, ← hi, f2_approximation_20]
    simp (disch := omega) only [l_0, l_1, l_2, l_4, letM_s, z_mul, z_add, z_lt, z_eq, if_neg]
    rfl
theorem c_apx {N : Nat} {I : Mem} {k : Nat} {g : GS} {z : Int} (hN : 8100 ≤ N) (hk : k = 0 ∨ k = 81) (hG : OkG g) (h : CInv I k g) (h1 : -2147483648 ≤ z) (h2 : z < 2147483648) : ∃ I1, f6_approximateInterval N I k (zI z) = some ((spApx g z).1, I1) ∧ CInv I1 k g ∧ ∀ x, (x < k ∨ k + 81 ≤ x) → I1 x = I x := by
  have hb := hG.S.b
  have e1 := c_idx N I h1 h2
  show ∃ I1, _ = some (if 0 ≤ z ∧ z ≤ 999 then apx z.toNat (zI (676 * T (sA (sG g)) 1) / zI 1000) (zI 0) 1 else zI (-2), I1) ∧ _
  unfold f6_approximateInterval
  by_cases c : 0 ≤ z ∧ z ≤ 999
  · rw [if_pos c] at e1 ⊢
    obtain ⟨I1, p1, p2, p3, p4⟩ := c_ramp hN hG h
    have ht := tag1 hk
    have e2 := e2_apx N I1 (k := k + 79) (nn := z.toNat) (zI z) (by rw [show (z.toNat : Int) = z by omega]) (by omega) z.toNat 1 N (zI (676 * T (sA (sG g)) 1) / zI 1000) (zI 0) (by omega) (by omega) (by omega)
    have hr := p2.2.2.2.2 1 (by omega)
    have e3 : f2_approximation N I1 (k+79) (zI z) = some (apx z.toNat (zI (676 * T (sA (sG g)) 1) / zI 1000) (zI 0) 1, I1) := by
      have e2' : f2_approximation_20 N (k+79) (zI z) N I1 (zI (676 * T (sA (sG g)) 1) / zI 1000) (zI 0) (zI 1) = _ := e2
      unfold f2_approximation
      rw [hr, l_0, l_1, l_676, l_1000]
      simp only [letM_s, z_mul]
      exact e2'
    refine ⟨I1, ?_, p3, fun x hx => p4 x (by omega) (by omega)⟩
    simp (disch := omega) only [e1, clP_s, l_0, z_eq, if_neg, p1, ht, not_true, if_false, e3]
  · rw [if_neg c] at e1 ⊢
    refine ⟨I, ?_, h, fun _ _ => rfl⟩
    simp (disch := omega) only [e1, letM_s, clP_s, clM_s, l_m89910, l_m999, l_m9, l_m4, l_m3, l_m2, l_m1, l_0, l_1, l_2, l_3, l_4, l_5, l_6, l_7, l_8, l_9, l_10, l_11, l_12, l_13, l_14, l_18, l_31, l_32, l_33, l_43, l_45, l_48, l_57, l_64, l_66, l_80, l_97, l_100, l_109, l_118, l_119, l_200, l_255, l_462, l_500, l_676, l_999, l_1000, l_1001, l_9999, l_10000, l_99999, l_100000, l_447214, l_1000000000, m_m999, m_m9, m_0, m_1, m_2, m_4, m_9, m_255, m_500, m_999, m_9999, m_10000, m_99999, m_200000000, m_4294967295, m_1442695040888963407, m_6364136223846793005, z_add, z_sub, z_mul, z_neg, y_add, y_sub, y_mul, y_neg, z_toL, y_toI, cmp_lt, cmp_gt, cmp_le, cmp_ge, z_lt, z_le, z_eq, y_lt, y_le, y_eq, if_pos, if_neg, ite_true, ite_false]
theorem lstA_skip {v len : Nat} {K : Int} : ∀ (d e a : Nat), (∀ b, a ≤ b → b < a + d → K < (mv b (cr v) len : Int)) → d ≤ e → lstA v len K e a = lstA v len K (e - d) (a + d) := by
  intro d
  induction d with
  | zero => intro e a _ _; rfl
  | succ d ih =>
    intro e a h1 h2
    obtain ⟨e, rfl⟩ : ∃ e', e = e' + 1 := ⟨e - 1, by omega⟩
    have := h1 a (Nat.le_refl _) (by omega)
    rw [lstA, if_neg (by omega), ih e (a + 1) (fun b q w => h1 b (by omega) (by omega)) (by omega), show e + 1 - (d + 1) = e - d by omega, show a + (d + 1) = a + 1 + d by omega]
theorem c_least_51 {N : Nat} {k c len v : Nat} {w : Int} (I : Mem) (hN : 8100 ≤ N) (hv : c = cr v) (hv1 : 1 ≤ v) (hv2 : v ≤ 999) (hl : len ≤ 999) (hw1 : 1 ≤ w) (hw2 : w ≤ 99999) : ∀ (e a cnt : Nat), a + e = 1000 → 1 ≤ a → e < cnt → f6_leastAcceleration_51 N k (zI (len : Int)) (zI w) cnt I (zI (c : Int)) (zI (a : Int)) = some (zI (lstA v len w e a), I) := by
  have hc := cr_bd hv1 hv2
  intro e
  induction e with
  | zero =>
    intro a cnt h1 h2 h3
    obtain ⟨cnt, rfl⟩ : ∃ x, cnt = x + 1 := ⟨cnt - 1, by omega⟩
    rw [f6_leastAcceleration_51]
    simp (disch := omega) only [letM_s, clP_s, clM_s, l_m89910, l_m999, l_m9, l_m4, l_m3, l_m2, l_m1, l_0, l_1, l_2, l_3, l_4, l_5, l_6, l_7, l_8, l_9, l_10, l_11, l_12, l_13, l_14, l_18, l_31, l_32, l_33, l_43, l_45, l_48, l_57, l_64, l_66, l_80, l_97, l_100, l_109, l_118, l_119, l_200, l_255, l_462, l_500, l_676, l_999, l_1000, l_1001, l_9999, l_10000, l_99999, l_100000, l_447214, l_1000000000, m_m999, m_m9, m_0, m_1, m_2, m_4, m_9, m_255, m_500, m_999, m_9999, m_10000, m_99999, m_200000000, m_4294967295, m_1442695040888963407, m_6364136223846793005, z_add, z_sub, z_mul, z_neg, y_add, y_sub, y_mul, y_neg, z_toL, y_toI, cmp_lt, cmp_gt, cmp_le, cmp_ge, z_lt, z_le, z_eq, y_lt, y_le, y_eq, if_pos, if_neg, ite_true, ite_false]
    rfl
  | succ e ih =>
    intro a cnt h1 h2 h3
    obtain ⟨cnt, rfl⟩ : ∃ x, cnt = x + 1 := ⟨cnt - 1, by omega⟩
    have e1 := e1_ticks (N := N) I (a := a) (c := c) (len := len) (by omega) h2 (by omega) (by omega) hl
    have hm := mv_bd9 (a := a) (c := c) (len := len) h2 (by omega) hl
    have hi := ih (a + 1) cnt (by omega) (by omega) (by omega)
    rw [show lstA v len w (e+1) a = if (mv a (cr v) len : Int) ≤ w then (a : Int) else lstA v len w e (a + 1) from rfl, ← hv]
    generalize mv a c len = M at *
    by_cases cc : (M : Int) ≤ w
    · rw [if_pos cc, f6_leastAcceleration_51]
      simp (disch := omega) only [e1, letM_s, clP_s, clM_s, l_m89910, l_m999, l_m9, l_m4, l_m3, l_m2, l_m1, l_0, l_1, l_2, l_3, l_4, l_5, l_6, l_7, l_8, l_9, l_10, l_11, l_12, l_13, l_14, l_18, l_31, l_32, l_33, l_43, l_45, l_48, l_57, l_64, l_66, l_80, l_97, l_100, l_109, l_118, l_119, l_200, l_255, l_462, l_500, l_676, l_999, l_1000, l_1001, l_9999, l_10000, l_99999, l_100000, l_447214, l_1000000000, m_m999, m_m9, m_0, m_1, m_2, m_4, m_9, m_255, m_500, m_999, m_9999, m_10000, m_99999, m_200000000, m_4294967295, m_1442695040888963407, m_6364136223846793005, z_add, z_sub, z_mul, z_neg, y_add, y_sub, y_mul, y_neg, z_toL, y_toI, cmp_lt, cmp_gt, cmp_le, cmp_ge, z_lt, z_le, z_eq, y_lt, y_le, y_eq, if_pos, if_neg, ite_true, ite_false]
    · rw [if_neg cc, ← hi, f6_leastAcceleration_51]
      simp (disch := omega) only [e1, letM_s, clP_s, clM_s, l_m89910, l_m999, l_m9, l_m4, l_m3, l_m2, l_m1, l_0, l_1, l_2, l_3, l_4, l_5, l_6, l_7, l_8, l_9, l_10, l_11, l_12, l_13, l_14, l_18, l_31, l_32, l_33, l_43, l_45, l_48, l_57, l_64, l_66, l_80, l_97, l_100, l_109, l_118, l_119, l_200, l_255, l_462, l_500, l_676, l_999, l_1000, l_1001, l_9999, l_10000, l_99999, l_100000, l_447214, l_1000000000, m_m999, m_m9, m_0, m_1, m_2, m_4, m_9, m_255, m_500, m_999, m_9999, m_10000, m_99999, m_200000000, m_4294967295, m_1442695040888963407, m_6364136223846793005, z_add, z_sub, z_mul, z_neg, y_add, y_sub, y_mul, y_neg, z_toL, y_toI, cmp_lt, cmp_gt, cmp_le, cmp_ge, z_lt, z_le, z_eq, y_lt, y_le, y_eq, if_pos, if_neg, ite_true, ite_false]
      rfl
theorem c_least {N : Nat} {I : Mem} {k : Nat} {g : GS} {z w : Int} (hN : 8100 ≤ N) (hG : OkG g) (h : CInv I k g) (h1 : -2147483648 ≤ z) (h2 : z < 2147483648) (h3 : -2147483648 ≤ w) (h4 : w < 2147483648) : f6_leastAcceleration N I k (zI z) (zI w) = some ((spLeast g z w).1, I) := by
  have hb := hG.S.b
  have e1 := c_bit N I (z := z) (w := 999) h1 h2 (by omega) (by omega)
  have e2 := c_bit N I (z := w) (w := 99999) h3 h4 (by omega) (by omega)
  show _ = some (zI (if 1 ≤ z ∧ z ≤ 999 ∧ 1 ≤ w ∧ w ≤ 99999 then lstA (sV (sG g)) z.toNat w 999 1 else -2), I)
  unfold f6_leastAcceleration
  by_cases c1 : 1 ≤ z ∧ z ≤ 999
  · rw [if_pos c1] at e1
    by_cases c2 : 1 ≤ w ∧ w ≤ 99999
    · rw [if_pos c2] at e2
      rw [if_pos ⟨c1.1, c1.2, c2.1, c2.2⟩]
      obtain ⟨len, rfl⟩ := Int.eq_ofNat_of_zero_le (show 0 ≤ z by omega)
      obtain ⟨wn, rfl⟩ := Int.eq_ofNat_of_zero_le (show 0 ≤ w by omega)
      rw [Int.toNat_natCast]
      have hc := cr_bd hb.2.2.1 hb.2.2.2.1
      have e3 := e1_cruise N I hb.2.2.1 hb.2.2.2.1
      have hsv := h.now.v
      obtain ⟨c, hcd⟩ : ∃ c, c = cr (sV (sG g)) := ⟨_, rfl⟩
      rw [← hcd] at e3 hc
      have hlc : (len : Int) * (c : Int) = ((len * c : Nat) : Int) := (Int.natCast_mul _ _).symm
      have hlc2 : len * c ≤ 999 * 10000 := Nat.mul_le_mul (by omega) (by omega)
      have e4 : zI (len : Int) * zI (c : Int) = zI ((len * c : Nat) : Int) := by rw [z_mul, hlc]
      have hge : ∀ a, len * c ≤ mv a c len := fun a => mv_ge a c len
      generalize len * c = P at *
      by_cases c3 : P ≤ wn
      · have e5 := e1_cand N I (c := c) (len := len) (ticks := wn) (by omega) hc.2 (by omega) (by omega)
        have hcb : 1 ≤ cand c len wn ∧ cand c len wn ≤ 1000 := by
          unfold cand
          exact ⟨Nat.succ_le_succ (Nat.zero_le _), Nat.succ_le_succ (Nat.min_le_left _ _)⟩
        have hsk := lstA_skip (v := sV (sG g)) (len := len) (K := (wn : Int)) (cand c len wn - 1) 999 1 (fun b q1 q2 => by
          have := cand_up (a := b) (c := c) (len := len) (ticks := wn) q1 (by omega) (by omega) (by omega)
          rw [← hcd]
          omega) (by omega)
        have e6 := c_least_51 (N := N) (k := k) (c := c) (len := len) (v := sV (sG g)) (w := (wn : Int)) I hN hcd hb.2.2.1 hb.2.2.2.1 (by omega) c2.1 c2.2 (1000 - cand c len wn) (cand c len wn) N (by omega) hcb.1 (by omega)
        rw [show 999 - (cand c len wn - 1) = 1000 - cand c len wn by omega, show 1 + (cand c len wn - 1) = cand c len wn by omega] at hsk
        rw [hsk]
        simp (disch := omega) only [e1, e2, hsv, e3, e4, e5, e6, clP_s, l_0, l_999, l_99999, z_eq, z_le, if_pos, if_neg]
      · have hsk := lstA_skip (v := sV (sG g)) (len := len) (K := (wn : Int)) 999 999 1 (fun b q1 q2 => by
          have := hge b
          rw [← hcd]
          omega) (by omega)
        rw [hsk]
        simp (disch := omega) only [e1, e2, hsv, e3, e4, clP_s, l_0, l_999, l_99999, l_m9, z_eq, z_le, if_pos, if_neg]
        rfl
    · rw [if_neg c2] at e2
      rw [if_neg (fun q => c2 ⟨q.2.2.1, q.2.2.2⟩)]
      simp (disch := omega) only [e1, e2, letM_s, clP_s, clM_s, l_m89910, l_m999, l_m9, l_m4, l_m3, l_m2, l_m1, l_0, l_1, l_2, l_3, l_4, l_5, l_6, l_7, l_8, l_9, l_10, l_11, l_12, l_13, l_14, l_18, l_31, l_32, l_33, l_43, l_45, l_48, l_57, l_64, l_66, l_80, l_97, l_100, l_109, l_118, l_119, l_200, l_255, l_462, l_500, l_676, l_999, l_1000, l_1001, l_9999, l_10000, l_99999, l_100000, l_447214, l_1000000000, m_m999, m_m9, m_0, m_1, m_2, m_4, m_9, m_255, m_500, m_999, m_9999, m_10000, m_99999, m_200000000, m_4294967295, m_1442695040888963407, m_6364136223846793005, z_add, z_sub, z_mul, z_neg, y_add, y_sub, y_mul, y_neg, z_toL, y_toI, cmp_lt, cmp_gt, cmp_le, cmp_ge, z_lt, z_le, z_eq, y_lt, y_le, y_eq, if_pos, if_neg, ite_true, ite_false]
  · rw [if_neg c1] at e1
    rw [if_neg (fun q => c1 ⟨q.1, q.2.1⟩)]
    simp (disch := omega) only [e1, letM_s, clP_s, clM_s, l_m89910, l_m999, l_m9, l_m4, l_m3, l_m2, l_m1, l_0, l_1, l_2, l_3, l_4, l_5, l_6, l_7, l_8, l_9, l_10, l_11, l_12, l_13, l_14, l_18, l_31, l_32, l_33, l_43, l_45, l_48, l_57, l_64, l_66, l_80, l_97, l_100, l_109, l_118, l_119, l_200, l_255, l_462, l_500, l_676, l_999, l_1000, l_1001, l_9999, l_10000, l_99999, l_100000, l_447214, l_1000000000, m_m999, m_m9, m_0, m_1, m_2, m_4, m_9, m_255, m_500, m_999, m_9999, m_10000, m_99999, m_200000000, m_4294967295, m_1442695040888963407, m_6364136223846793005, z_add, z_sub, z_mul, z_neg, y_add, y_sub, y_mul, y_neg, z_toL, y_toI, cmp_lt, cmp_gt, cmp_le, cmp_ge, z_lt, z_le, z_eq, y_lt, y_le, y_eq, if_pos, if_neg, ite_true, ite_false]
theorem grtL_eq {a v lo : Nat} {K : Int} (h1 : 0 < lo → (mv a (cr v) lo : Int) ≤ K) : ∀ t, lo ≤ t → (∀ l, lo < l → l ≤ t → K < (mv a (cr v) l : Int)) → grtL a v K t = if lo = 0 then -9 else (lo : Int) := by
  intro t
  induction t with
  | zero =>
    intro h2 _
    rw [if_pos (by omega)]
    rfl
  | succ t ih =>
    intro h2 h3
    rw [grtL]
    by_cases c : lo = t + 1
    · subst c
      rw [if_pos (h1 (by omega)), if_neg (by omega)]
      rfl
    · have := h3 (t + 1) (by omega) (Nat.le_refl _)
      rw [if_neg (by omega)]
      exact ih (by omega) (fun l q w => h3 l q (by omega))
theorem c_great_27 {N : Nat} {k kr a v : Nat} {w : Int} {I : Mem} (ha : 1 ≤ a) (hv : 1 ≤ v) (hv2 : v ≤ 999) (hR : RampR I kr a v) (hw2 : w ≤ 99999) (hw1 : 1 ≤ w) : ∀ (e lo hi r cnt : Nat), hi - lo ≤ e → e < cnt → lo < hi → hi ≤ 1000 → r + (hi - lo) ≤ 1000 → (0 < lo → (mv a (cr v) lo : Int) ≤ w) → (hi ≤ 999 → w < (mv a (cr v) hi : Int)) → f6_greatestLength_27 N k (zI w) cnt I kr (zI (lo : Int)) (zI (hi : Int)) (zI (r : Int)) = some (zI (grtL a v w 999), I) := by
  intro e
  induction e with
  | zero => intro lo hi r cnt h1 h2 h3; omega
  | succ e ih =>
    intro lo hi r cnt h1 h2 h3 h4 h5 h6 h7
    obtain ⟨cnt, rfl⟩ : ∃ x, cnt = x + 1 := ⟨cnt - 1, by omega⟩
    by_cases c1 : hi - lo ≤ 1
    · have hg := grtL_eq (a := a) (v := v) (lo := lo) (K := w) h6 999 (by omega) (fun l q1 q2 => by
        have e1 := h7 (by omega)
        have e2 := mv_mono a (cr v) (show hi ≤ l by omega)
        omega)
      rw [hg, f6_greatestLength_27]
      by_cases c2 : lo = 0
      · subst c2
        rw [if_pos rfl]
        by_cases c3 : 999 ≤ r
        · simp (disch := omega) only [letM_s, clP_s, clM_s, l_m89910, l_m999, l_m9, l_m4, l_m3, l_m2, l_m1, l_0, l_1, l_2, l_3, l_4, l_5, l_6, l_7, l_8, l_9, l_10, l_11, l_12, l_13, l_14, l_18, l_31, l_32, l_33, l_43, l_45, l_48, l_57, l_64, l_66, l_80, l_97, l_100, l_109, l_118, l_119, l_200, l_255, l_462, l_500, l_676, l_999, l_1000, l_1001, l_9999, l_10000, l_99999, l_100000, l_447214, l_1000000000, m_m999, m_m9, m_0, m_1, m_2, m_4, m_9, m_255, m_500, m_999, m_9999, m_10000, m_99999, m_200000000, m_4294967295, m_1442695040888963407, m_6364136223846793005, z_add, z_sub, z_mul, z_neg, y_add, y_sub, y_mul, y_neg, z_toL, y_toI, cmp_lt, cmp_gt, cmp_le, cmp_ge, z_lt, z_le, z_eq, y_lt, y_le, y_eq, if_pos, if_neg, ite_true, ite_false]
        · simp (disch := omega) only [letM_s, clP_s, clM_s, l_m89910, l_m999, l_m9, l_m4, l_m3, l_m2, l_m1, l_0, l_1, l_2, l_3, l_4, l_5, l_6, l_7, l_8, l_9, l_10, l_11, l_12, l_13, l_14, l_18, l_31, l_32, l_33, l_43, l_45, l_48, l_57, l_64, l_66, l_80, l_97, l_100, l_109, l_118, l_119, l_200, l_255, l_462, l_500, l_676, l_999, l_1000, l_1001, l_9999, l_10000, l_99999, l_100000, l_447214, l_1000000000, m_m999, m_m9, m_0, m_1, m_2, m_4, m_9, m_255, m_500, m_999, m_9999, m_10000, m_99999, m_200000000, m_4294967295, m_1442695040888963407, m_6364136223846793005, z_add, z_sub, z_mul, z_neg, y_add, y_sub, y_mul, y_neg, z_toL, y_toI, cmp_lt, cmp_gt, cmp_le, cmp_ge, z_lt, z_le, z_eq, y_lt, y_le, y_eq, if_pos, if_neg, ite_true, ite_false]
      · rw [if_neg c2]
        by_cases c3 : 999 ≤ r
        · simp (disch := omega) only [letM_s, clP_s, clM_s, l_m89910, l_m999, l_m9, l_m4, l_m3, l_m2, l_m1, l_0, l_1, l_2, l_3, l_4, l_5, l_6, l_7, l_8, l_9, l_10, l_11, l_12, l_13, l_14, l_18, l_31, l_32, l_33, l_43, l_45, l_48, l_57, l_64, l_66, l_80, l_97, l_100, l_109, l_118, l_119, l_200, l_255, l_462, l_500, l_676, l_999, l_1000, l_1001, l_9999, l_10000, l_99999, l_100000, l_447214, l_1000000000, m_m999, m_m9, m_0, m_1, m_2, m_4, m_9, m_255, m_500, m_999, m_9999, m_10000, m_99999, m_200000000, m_4294967295, m_1442695040888963407, m_6364136223846793005, z_add, z_sub, z_mul, z_neg, y_add, y_sub, y_mul, y_neg, z_toL, y_toI, cmp_lt, cmp_gt, cmp_le, cmp_ge, z_lt, z_le, z_eq, y_lt, y_le, y_eq, if_pos, if_neg, ite_true, ite_false]
        · simp (disch := omega) only [letM_s, clP_s, clM_s, l_m89910, l_m999, l_m9, l_m4, l_m3, l_m2, l_m1, l_0, l_1, l_2, l_3, l_4, l_5, l_6, l_7, l_8, l_9, l_10, l_11, l_12, l_13, l_14, l_18, l_31, l_32, l_33, l_43, l_45, l_48, l_57, l_64, l_66, l_80, l_97, l_100, l_109, l_118, l_119, l_200, l_255, l_462, l_500, l_676, l_999, l_1000, l_1001, l_9999, l_10000, l_99999, l_100000, l_447214, l_1000000000, m_m999, m_m9, m_0, m_1, m_2, m_4, m_9, m_255, m_500, m_999, m_9999, m_10000, m_99999, m_200000000, m_4294967295, m_1442695040888963407, m_6364136223846793005, z_add, z_sub, z_mul, z_neg, y_add, y_sub, y_mul, y_neg, z_toL, y_toI, cmp_lt, cmp_gt, cmp_le, cmp_ge, z_lt, z_le, z_eq, y_lt, y_le, y_eq, if_pos, if_neg, ite_true, ite_false]
    · have hd : zI ((lo : Int) + (hi : Int)) / zI 2 = zI (((lo + hi) / 2 : Nat) : Int) := z_divN (a := lo + hi) (b := 2) (by omega) (by omega)
      obtain ⟨m, hm⟩ : ∃ m, m = (lo + hi) / 2 := ⟨_, rfl⟩
      rw [← hm] at hd
      have e1 := e2_ticksOfMove N ha hv hv2 hR (len := m) (by omega)
      have hmb := mv_bd9 (a := a) (c := cr v) (len := m) ha (cr_bd hv hv2).2 (by omega)
      by_cases c2 : w < (mv a (cr v) m : Int)
      · have hi := ih lo m (r + 1) cnt (by omega) (by omega) (by omega) (by omega) (by omega) h6 (fun _ => c2)
        generalize mv a (cr v) m = M at *
        rw [← hi, f6_greatestLength_27]
        simp (disch := omega) only [hd, e1, letM_s, clP_s, clM_s, l_m89910, l_m999, l_m9, l_m4, l_m3, l_m2, l_m1, l_0, l_1, l_2, l_3, l_4, l_5, l_6, l_7, l_8, l_9, l_10, l_11, l_12, l_13, l_14, l_18, l_31, l_32, l_33, l_43, l_45, l_48, l_57, l_64, l_66, l_80, l_97, l_100, l_109, l_118, l_119, l_200, l_255, l_462, l_500, l_676, l_999, l_1000, l_1001, l_9999, l_10000, l_99999, l_100000, l_447214, l_1000000000, m_m999, m_m9, m_0, m_1, m_2, m_4, m_9, m_255, m_500, m_999, m_9999, m_10000, m_99999, m_200000000, m_4294967295, m_1442695040888963407, m_6364136223846793005, z_add, z_sub, z_mul, z_neg, y_add, y_sub, y_mul, y_neg, z_toL, y_toI, cmp_lt, cmp_gt, cmp_le, cmp_ge, z_lt, z_le, z_eq, y_lt, y_le, y_eq, if_pos, if_neg, ite_true, ite_false]
        rfl
      · have hi := ih m hi (r + 1) cnt (by omega) (by omega) (by omega) (by omega) (by omega) (fun _ => by omega) h7
        generalize mv a (cr v) m = M at *
        rw [← hi, f6_greatestLength_27]
        simp (disch := omega) only [hd, e1, letM_s, clP_s, clM_s, l_m89910, l_m999, l_m9, l_m4, l_m3, l_m2, l_m1, l_0, l_1, l_2, l_3, l_4, l_5, l_6, l_7, l_8, l_9, l_10, l_11, l_12, l_13, l_14, l_18, l_31, l_32, l_33, l_43, l_45, l_48, l_57, l_64, l_66, l_80, l_97, l_100, l_109, l_118, l_119, l_200, l_255, l_462, l_500, l_676, l_999, l_1000, l_1001, l_9999, l_10000, l_99999, l_100000, l_447214, l_1000000000, m_m999, m_m9, m_0, m_1, m_2, m_4, m_9, m_255, m_500, m_999, m_9999, m_10000, m_99999, m_200000000, m_4294967295, m_1442695040888963407, m_6364136223846793005, z_add, z_sub, z_mul, z_neg, y_add, y_sub, y_mul, y_neg, z_toL, y_toI, cmp_lt, cmp_gt, cmp_le, cmp_ge, z_lt, z_le, z_eq, y_lt, y_le, y_eq, if_pos, if_neg, ite_true, ite_false]
        rfl
theorem c_great {N : Nat} {I : Mem} {k : Nat} {g : GS} {z : Int} (hN : 8100 ≤ N) (hk : k = 0 ∨ k = 81) (hG : OkG g) (h : CInv I k g) (h1 : -2147483648 ≤ z) (h2 : z < 2147483648) : ∃ I1, f6_greatestLength N I k (zI z) = some ((spGreat g z).1, I1) ∧ CInv I1 k g ∧ ∀ x, (x < k ∨ k + 81 ≤ x) → I1 x = I x := by
  have hb := hG.S.b
  have e1 := c_bit N I (w := 99999) h1 h2 (by omega) (by omega)
  show ∃ I1, _ = some (zI (if 1 ≤ z ∧ z ≤ 99999 then grtL (sA (sG g)) (sV (sG g)) z 999 else -2), I1) ∧ _
  unfold f6_greatestLength
  by_cases c : 1 ≤ z ∧ z ≤ 99999
  · rw [if_pos c] at e1 ⊢
    obtain ⟨I1, p1, p2, p3, p4⟩ := c_ramp hN hG h
    have ht := tag1 hk
    have e2 := c_great_27 (N := N) (k := k) (w := z) hb.1 hb.2.2.1 hb.2.2.2.1 p2 c.2 c.1 1000 0 1000 0 N (by omega) (by omega) (by omega) (by omega) (by omega) (fun q => absurd q (Nat.lt_irrefl 0)) (fun q => by omega)
    have e2' : f6_greatestLength_27 N k (zI z) N I1 (k+79) (zI 0) (zI 1000) (zI 0) = _ := e2
    refine ⟨I1, ?_, p3, fun x hx => p4 x (by omega) (by omega)⟩
    simp (disch := omega) only [e1, clP_s, l_0, l_1000, l_99999, z_eq, if_neg, p1, ht, not_true, if_false, e2']
  · rw [if_neg c] at e1 ⊢
    refine ⟨I, ?_, h, fun _ _ => rfl⟩
    simp (disch := omega) only [e1, letM_s, clP_s, clM_s, l_m89910, l_m999, l_m9, l_m4, l_m3, l_m2, l_m1, l_0, l_1, l_2, l_3, l_4, l_5, l_6, l_7, l_8, l_9, l_10, l_11, l_12, l_13, l_14, l_18, l_31, l_32, l_33, l_43, l_45, l_48, l_57, l_64, l_66, l_80, l_97, l_100, l_109, l_118, l_119, l_200, l_255, l_462, l_500, l_676, l_999, l_1000, l_1001, l_9999, l_10000, l_99999, l_100000, l_447214, l_1000000000, m_m999, m_m9, m_0, m_1, m_2, m_4, m_9, m_255, m_500, m_999, m_9999, m_10000, m_99999, m_200000000, m_4294967295, m_1442695040888963407, m_6364136223846793005, z_add, z_sub, z_mul, z_neg, y_add, y_sub, y_mul, y_neg, z_toL, y_toI, cmp_lt, cmp_gt, cmp_le, cmp_ge, z_lt, z_le, z_eq, y_lt, y_le, y_eq, if_pos, if_neg, ite_true, ite_false]
