/-! class State: copies, halts -/
theorem e5_become_74 (N : Nat) {k0 k1 n : Nat} (hk : k1 + 3 < k0 ∨ k0 + 3 < k1) (hn : n ≤ 8) : ∀ (e i cnt : Nat) (I : Mem), i + e = n → e < cnt → I k0 5 = zI (n : Int) → ∃ I1, f5_become_74 N k0 k1 cnt I (zI (i : Int)) = some I1 ∧ (∀ c j, 1 ≤ c → c ≤ 3 → i ≤ j → j < n → I1 (k0+c) j = I (k1+c) j) ∧ (∀ c j, 1 ≤ c → c ≤ 3 → j < i → I1 (k0+c) j = I (k0+c) j) ∧ I1 k0 = I k0 ∧ Fs I I1 k0 := by
  intro e
  induction e with
  | zero =>
    intro i cnt I h1 h2 h3
    obtain ⟨cnt, rfl⟩ : ∃ x, cnt = x + 1 := ⟨cnt - 1, by omega⟩
    refine ⟨I, ?_, fun c j a b c d => by omega, fun _ _ _ _ _ => rfl, rfl, Fs.rf⟩
    rw [f5_become_74, h3]
    simp (disch := omega) only [letM_s, clP_s, clM_s, l_m89910, l_m999, l_m9, l_m4, l_m3, l_m2, l_m1, l_0, l_1, l_2, l_3, l_4, l_5, l_6, l_7, l_8, l_9, l_10, l_11, l_12, l_13, l_14, l_18, l_31, l_32, l_33, l_43, l_45, l_48, l_57, l_64, l_66, l_80, l_97, l_100, l_109, l_118, l_119, l_200, l_255, l_462, l_500, l_676, l_999, l_1000, l_1001, l_9999, l_10000, l_99999, l_100000, l_447214, l_1000000000, m_m999, m_m9, m_0, m_1, m_2, m_4, m_9, m_255, m_500, m_999, m_9999, m_10000, m_99999, m_200000000, m_4294967295, m_1442695040888963407, m_6364136223846793005, z_add, z_sub, z_mul, z_neg, y_add, y_sub, y_mul, y_neg, z_toL, y_toI, cmp_lt, cmp_gt, cmp_le, cmp_ge, z_lt, z_le, z_eq, y_lt, y_le, y_eq, if_pos, if_neg, ite_true, ite_false]
  | succ e ih =>
    intro i cnt I h1 h2 h3
    obtain ⟨cnt, rfl⟩ : ∃ x, cnt = x + 1 := ⟨cnt - 1, by omega⟩
    have e1 : (zI (i : Int)).toNatClampNeg = i := by rw [z_nat (by omega) (by omega)]; rfl
    obtain ⟨I2, hI2⟩ : ∃ I2, I2 = st I (k0+1) i (I (k1+1) i) := ⟨_, rfl⟩
    obtain ⟨I3, hI3⟩ : ∃ I3, I3 = st I2 (k0+2) i (I2 (k1+2) i) := ⟨_, rfl⟩
    obtain ⟨I4, hI4⟩ : ∃ I4, I4 = st I3 (k0+3) i (I3 (k1+3) i) := ⟨_, rfl⟩
    obtain ⟨I1, q1, q2, q3, q4, q5⟩ := ih (i + 1) cnt I4 (by omega) (by omega) (by rw [hI4, st_k (by omega), hI3, st_k (by omega), hI2, st_k (by omega)]; exact h3)
    have g : ∀ c j, 1 ≤ c → c ≤ 3 → j ≠ i → I4 (k0+c) j = I (k0+c) j := fun c j a b hj => by
      rcases (show c = 1 ∨ c = 2 ∨ c = 3 by omega) with rfl | rfl | rfl
      · rw [hI4, st_k (by omega), hI3, st_k (by omega), hI2, st_j hj]
      · rw [hI4, st_k (by omega), hI3, st_j hj, hI2, st_k (by omega)]
      · rw [hI4, st_j hj, hI3, st_k (by omega), hI2, st_k (by omega)]
    have gi : ∀ c, 1 ≤ c → c ≤ 3 → I4 (k0+c) i = I (k1+c) i := fun c a b => by
      rcases (show c = 1 ∨ c = 2 ∨ c = 3 by omega) with rfl | rfl | rfl
      · rw [hI4, st_k (by omega), hI3, st_k (by omega), hI2, st_s]
      · rw [hI4, st_k (by omega), hI3, st_s, hI2, st_k (by omega)]
      · rw [hI4, st_s, hI3, st_k (by omega), hI2, st_k (by omega)]
    have gk : ∀ c j, 1 ≤ c → c ≤ 3 → I4 (k1+c) j = I (k1+c) j := fun c j a b => by
      rw [hI4, st_k (by omega), hI3, st_k (by omega), hI2, st_k (by omega)]
    refine ⟨I1, ?_, fun c j a b hj hj2 => ?_, fun c j a b hj => by rw [q3 c j a b (by omega), g c j a b (by omega)], ?_, ?_⟩
    · rw [← q1, f5_become_74, h3]
      simp (disch := omega) only [e1, letM_s, clP_s, clM_s, l_m89910, l_m999, l_m9, l_m4, l_m3, l_m2, l_m1, l_0, l_1, l_2, l_3, l_4, l_5, l_6, l_7, l_8, l_9, l_10, l_11, l_12, l_13, l_14, l_18, l_31, l_32, l_33, l_43, l_45, l_48, l_57, l_64, l_66, l_80, l_97, l_100, l_109, l_118, l_119, l_200, l_255, l_462, l_500, l_676, l_999, l_1000, l_1001, l_9999, l_10000, l_99999, l_100000, l_447214, l_1000000000, m_m999, m_m9, m_0, m_1, m_2, m_4, m_9, m_255, m_500, m_999, m_9999, m_10000, m_99999, m_200000000, m_4294967295, m_1442695040888963407, m_6364136223846793005, z_add, z_sub, z_mul, z_neg, y_add, y_sub, y_mul, y_neg, z_toL, y_toI, cmp_lt, cmp_gt, cmp_le, cmp_ge, z_lt, z_le, z_eq, y_lt, y_le, y_eq, if_pos, if_neg, ite_true, ite_false, ← hI2, ← hI3, ← hI4]
      rfl
    · by_cases c' : j = i
      · subst c'
        rw [q3 c j a b (by omega), gi c a b]
      · rw [q2 c j a b (by omega) hj2, gk c _ a b]
    · rw [q4, hI4, st_k (by omega), hI3, st_k (by omega), hI2, st_k (by omega)]
    · refine Fs.tr ?_ q5
      rw [hI4, hI3, hI2]
      exact ((Fs.st (by omega) (by omega)).tr (Fs.st (by omega) (by omega))).tr (Fs.st (by omega) (by omega))
theorem cp_1 {I J : Mem} {k0 k1 j i : Nat} {p : Nat → Prop} (hk : k0 ≠ k1) (h1 : ∀ x, x ≠ k0 → J x = I x) (h2 : ∀ x, p x → J k0 x = I k1 x) (hj : j = i) : (∀ x, x ≠ k0 → st J k0 j (J k1 i) x = I x) ∧ ∀ x, (x = j ∨ p x) → st J k0 j (J k1 i) k0 x = I k1 x := by
  subst hj
  refine ⟨fun x hx => by rw [st_k hx, h1 x hx], fun x hx => ?_⟩
  by_cases c : x = j
  · rw [c, st_s, h1 _ (Ne.symm hk)]
  · rw [st_j c]; exact h2 x (hx.resolve_left c)
theorem e5_become {N : Nat} {I : Mem} {k0 k1 : Nat} {s : Sg} (hN : 100 ≤ N) (hk : k1 + 3 < k0 ∨ k0 + 3 < k1) (hn : nS s ≤ 8) (h : StR I k1 s) : ∃ I1, f5_become N I k0 k1 = some I1 ∧ StR I1 k0 s ∧ Fs I I1 k0 := by
  have hk' : k0 ≠ k1 := by omega
  obtain ⟨a, v, x, y, t, n, d, m, i, l⟩ := s
  have hn : n ≤ 8 := hn
  have c0 := cp_1 (I := I) (J := I) (k0 := k0) (k1 := k1) (p := fun _ => False) hk' (fun _ _ => rfl) (fun _ q => absurd q id) (show 0 = 0 from rfl)
  have c1 := cp_1 hk' c0.1 c0.2 (show 1 = 1 from rfl)
  have c2 := cp_1 hk' c1.1 c1.2 (show 2 = 2 from rfl)
  have c3 := cp_1 hk' c2.1 c2.2 (show 3 = 3 from rfl)
  have c4 := cp_1 hk' c3.1 c3.2 (show 4 = 4 from rfl)
  have c5 := cp_1 hk' c4.1 c4.2 (show 5 = 5 from rfl)
  have c9 := cp_1 hk' c5.1 c5.2 (show 9 = 9 from rfl)
  have c10 := cp_1 hk' c9.1 c9.2 (show 10 = 10 from rfl)
  have c11 := cp_1 hk' c10.1 c10.2 (show 11 = 11 from rfl)
  have hf : ∃ J : Mem, f5_become N I k0 k1 = f5_become_74 N k0 k1 N J (zI ((0 : Nat) : Int)) ∧ (∀ x, x ≠ k0 → J x = I x) ∧ ∀ x, (x = 11 ∨ x = 10 ∨ x = 9 ∨ x = 5 ∨ x = 4 ∨ x = 3 ∨ x = 2 ∨ x = 1 ∨ x = 0 ∨ False) → J k0 x = I k1 x := by
    refine ⟨_, ?_, c11.1, c11.2⟩
    unfold f5_become
    simp only [letM_s]
    rfl
  obtain ⟨J, f1, f2, f3⟩ := hf
  obtain ⟨r0, r1, r2, r3, r4, r5, r9, rp, ri⟩ := h
  obtain ⟨I1, q1, q2, q3, q4, q5⟩ := e5_become_74 N (k0 := k0) (k1 := k1) hk hn n 0 N J (by omega) (by omega) (by rw [f3 5 (by omega)]; exact r5)
  refine ⟨I1, by rw [f1, q1], ⟨by rw [q4, f3 0 (by omega)]; exact r0, by rw [q4, f3 1 (by omega)]; exact r1, by rw [q4, f3 2 (by omega)]; exact r2, by rw [q4, f3 3 (by omega)]; exact r3, by rw [q4, f3 4 (by omega)]; exact r4, by rw [q4, f3 5 (by omega)]; exact r5, by rw [q4, f3 9 (by omega)]; exact r9, fun hm => by rw [q4, f3 10 (by omega), f3 11 (by omega)]; exact rp hm, fun j hj => ?_⟩, fun z hz => by rw [q5 z hz, f2 z (by omega)]⟩
  rw [q2 1 j (by omega) (by omega) (by omega) hj, q2 2 j (by omega) (by omega) (by omega) hj, q2 3 j (by omega) (by omega) (by omega) hj, f2 _ (by omega), f2 _ (by omega), f2 _ (by omega)]
  exact ri j hj
theorem e5_halt {N : Nat} {I : Mem} {k : Nat} {s : Sg} (hN : 100 ≤ N) (hO : OkS s) (hm : sM s ≠ 0) (h : StR I k s) : ∃ I1, f5_halt N I k = some (zI (sI s : Int), I1) ∧ StR I1 k (stopS s) ∧ Fs I I1 k := by
  have hb := m_bd hO
  obtain ⟨a, v, x, y, t, n, d, m, i, l⟩ := s
  have hm : m ≠ 0 := hm
  have hn0 : 0 < n := (hO.2.2.2.2.2.2.2 (by omega)).1
  have hb : m ≤ 999 ∧ i ≤ 999 ∧ l ≤ 999 := hb
  obtain ⟨r0, r1, r2, r3, r4, r5, r9, rp, ri⟩ := h
  obtain ⟨p10, p11⟩ := rp (by omega)
  obtain ⟨I2, hI2⟩ : ∃ I2, I2 = st (st I k 5 (zI 1)) k 10 (zI (i : Int)) := ⟨_, rfl⟩
  have g : ∀ j, j ≠ 5 → j ≠ 10 → I2 k j = I k j := fun j a b => by rw [hI2, st_j b, st_j a]
  have g10 : I2 k 10 = zI (i : Int) := by rw [hI2, st_s]
  have gx : ∀ z, z ≠ k → I2 z = I z := fun z hz => by rw [hI2, st_k hz, st_k hz]
  have hS : StR I2 k (a, v, x, y, t, 1, d, m, i, i) := by
    refine ⟨by rw [g 0 (by omega) (by omega)]; exact r0, by rw [g 1 (by omega) (by omega)]; exact r1, by rw [g 2 (by omega) (by omega)]; exact r2, by rw [g 3 (by omega) (by omega)]; exact r3, by rw [g 4 (by omega) (by omega)]; exact r4, by rw [hI2, st_j (by omega), st_s]; rfl, by rw [g 9 (by omega) (by omega)]; exact r9, fun _ => ⟨g10, by rw [g 11 (by omega) (by omega)]; exact p11⟩, fun j hj => ?_⟩
    have hj : j < 1 := hj
    rw [gx _ (by omega), gx _ (by omega), gx _ (by omega)]
    exact ri j (by omega)
  have hF : Fs I I2 k := fun z hz => gx z (by omega)
  have s11 : st I k 5 (zI 1) k 11 = zI (i : Int) := by rw [st_j (by omega)]; exact p11
  have g11 : I2 k 11 = zI (i : Int) := by rw [g 11 (by omega) (by omega)]; exact p11
  by_cases c : i = 0
  · subst c
    obtain ⟨I1, q1, q2, q3, q4⟩ := e5_drop (N := N) (j := 0) hN (show (1 : Nat) ≤ 8 by omega) (show 0 < 1 by omega) hS
    have q1' : f5_dropItem N I2 k (zI 0) = some I1 := q1
    refine ⟨I1, ?_, ?_, hF.tr q4⟩
    · unfold f5_halt
      have t11 : I1 k 11 = zI 0 := q3.trans g11
      have u10 : I2 k 10 = zI 0 := g10
      have u11 : st I k 5 (zI 1) k 11 = zI 0 := s11
      have uI : st (st I k 5 (zI 1)) k 10 (zI 0) = I2 := hI2.symm
      simp (disch := omega) only [letM_s, clM_s, l_0, l_1, u11, uI, u10, q1', t11, if_pos]
      rfl
    · show StR I1 k (if 0 = 0 then (a, v, x, y, t, 0, d, 0, 0, 0) else (a, v, x, y, t, 1, d, m, 0, 0))
      rw [if_pos rfl]
      obtain ⟨w0, w1, w2, w3, w4, w5, w9, wp, wi⟩ := q2
      exact ⟨w0, w1, w2, w3, w4, w5, w9, fun q => absurd q (Nat.lt_irrefl 0), fun j hj => absurd hj (Nat.not_lt_zero j)⟩
  · refine ⟨I2, ?_, ?_, hF⟩
    · unfold f5_halt
      have uI : st (st I k 5 (zI 1)) k 10 (zI (i : Int)) = I2 := hI2.symm
      simp (disch := omega) only [letM_s, clM_s, l_0, l_1, s11, uI, g10, g11, z_eq, if_neg]
    · show StR I2 k (if i = 0 then (a, v, x, y, t, 0, d, 0, 0, 0) else (a, v, x, y, t, 1, d, m, i, i))
      rw [if_neg c]
      exact hS
theorem e5_left (N : Nat) {I : Mem} {k j : Nat} {s : Sg} (hO : OkS s) (hj : j < nS s) (h : StR I k s) : f5_stepsLeftOf N I k (zI (j : Int)) = some (zI (if j = 0 ∧ sM s ≠ 0 then (sL s : Int) else (lenI (sD s j) : Int)), I) := by
  have hb := m_bd hO
  obtain ⟨a, v, x, y, t, n, d, m, i, l⟩ := s
  have hj : j < n := hj
  have hb : m ≤ 999 ∧ i ≤ 999 ∧ l ≤ 999 := hb
  obtain ⟨o1, o2, o3, o4, o5, o6, o7, o8⟩ := hO
  obtain ⟨r0, r1, r2, r3, r4, r5, r9, rp, ri⟩ := h
  have e1 := e5_lengthOf N r5 o5 hj (o6 j hj) (ri j hj).1 (ri j hj).2.1
  have e2 := e5_isMoving N r9 hb.1
  have g : ∀ q : Int, q = (if j = 0 ∧ m ≠ 0 then (l : Int) else (lenI (d j) : Int)) → f5_stepsLeftOf N I k (zI (j : Int)) = some (zI q, I) → f5_stepsLeftOf N I k (zI (j : Int)) = some (zI (if j = 0 ∧ m ≠ 0 then (l : Int) else (lenI (d j) : Int)), I) := fun q h1 h2 => by rw [← h1]; exact h2
  by_cases c : j = 0
  · subst c
    by_cases c2 : m = 0
    · subst c2
      rw [if_pos rfl] at e2
      have e1' : f5_lengthOf N I k (zI 0) = some (zI (lenI (d 0) : Int), I) := e1
      refine g (lenI (d 0) : Int) (if_neg (fun q => q.2 rfl)).symm ?_
      unfold f5_stepsLeftOf
      simp (disch := omega) only [show ((0 : Nat) : Int) = 0 from rfl, e1', e2, letM_s, clP_s, clM_s, l_m89910, l_m999, l_m9, l_m4, l_m3, l_m2, l_m1, l_0, l_1, l_2, l_3, l_4, l_5, l_6, l_7, l_8, l_9, l_10, l_11, l_12, l_13, l_14, l_18, l_31, l_32, l_33, l_43, l_45, l_48, l_57, l_64, l_66, l_80, l_97, l_100, l_109, l_118, l_119, l_200, l_255, l_462, l_500, l_676, l_999, l_1000, l_1001, l_9999, l_10000, l_99999, l_100000, l_447214, l_1000000000, m_m999, m_m9, m_0, m_1, m_2, m_4, m_9, m_255, m_500, m_999, m_9999, m_10000, m_99999, m_200000000, m_4294967295, m_1442695040888963407, m_6364136223846793005, z_add, z_sub, z_mul, z_neg, y_add, y_sub, y_mul, y_neg, z_toL, y_toI, cmp_lt, cmp_gt, cmp_le, cmp_ge, z_lt, z_le, z_eq, y_lt, y_le, y_eq, if_pos, if_neg, ite_true, ite_false]
    · rw [if_neg c2] at e2
      have p := (rp (by omega)).1
      refine g (l : Int) (if_pos ⟨rfl, c2⟩).symm ?_
      unfold f5_stepsLeftOf
      simp (disch := omega) only [show ((0 : Nat) : Int) = 0 from rfl, e2, p, letM_s, clP_s, clM_s, l_m89910, l_m999, l_m9, l_m4, l_m3, l_m2, l_m1, l_0, l_1, l_2, l_3, l_4, l_5, l_6, l_7, l_8, l_9, l_10, l_11, l_12, l_13, l_14, l_18, l_31, l_32, l_33, l_43, l_45, l_48, l_57, l_64, l_66, l_80, l_97, l_100, l_109, l_118, l_119, l_200, l_255, l_462, l_500, l_676, l_999, l_1000, l_1001, l_9999, l_10000, l_99999, l_100000, l_447214, l_1000000000, m_m999, m_m9, m_0, m_1, m_2, m_4, m_9, m_255, m_500, m_999, m_9999, m_10000, m_99999, m_200000000, m_4294967295, m_1442695040888963407, m_6364136223846793005, z_add, z_sub, z_mul, z_neg, y_add, y_sub, y_mul, y_neg, z_toL, y_toI, cmp_lt, cmp_gt, cmp_le, cmp_ge, z_lt, z_le, z_eq, y_lt, y_le, y_eq, if_pos, if_neg, ite_true, ite_false]
  · refine g (lenI (d j) : Int) (if_neg (fun q => c q.1)).symm ?_
    unfold f5_stepsLeftOf
    simp (disch := omega) only [e1, letM_s, clP_s, clM_s, l_m89910, l_m999, l_m9, l_m4, l_m3, l_m2, l_m1, l_0, l_1, l_2, l_3, l_4, l_5, l_6, l_7, l_8, l_9, l_10, l_11, l_12, l_13, l_14, l_18, l_31, l_32, l_33, l_43, l_45, l_48, l_57, l_64, l_66, l_80, l_97, l_100, l_109, l_118, l_119, l_200, l_255, l_462, l_500, l_676, l_999, l_1000, l_1001, l_9999, l_10000, l_99999, l_100000, l_447214, l_1000000000, m_m999, m_m9, m_0, m_1, m_2, m_4, m_9, m_255, m_500, m_999, m_9999, m_10000, m_99999, m_200000000, m_4294967295, m_1442695040888963407, m_6364136223846793005, z_add, z_sub, z_mul, z_neg, y_add, y_sub, y_mul, y_neg, z_toL, y_toI, cmp_lt, cmp_gt, cmp_le, cmp_ge, z_lt, z_le, z_eq, y_lt, y_le, y_eq, if_pos, if_neg, ite_true, ite_false]
