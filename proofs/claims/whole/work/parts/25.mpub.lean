/-! RUNS of steps; the reference's public methods but the text's -/
abbrev nS (s : Sg) : Nat := s.2.2.2.2.2.1
def runS : Nat → Int → Sg → Nat × Sg
  | 0, _, s => (0, s)
  | f+1, K, s => if nS s = 0 ∨ K < (tkS s : Int) then (0, s) else ((runS f (K - (tkS s : Int)) (stepS s)).1 + 1, (runS f (K - (tkS s : Int)) (stepS s)).2)
theorem runS_ok : ∀ (f : Nat) (K : Int) (s : Sg), OkS s → OkS (runS f K s).2 := by
  intro f
  induction f with
  | zero => intro K s h; exact h
  | succ f ih =>
    intro K s h
    unfold runS
    by_cases c : nS s = 0 ∨ K < (tkS s : Int)
    · rw [if_pos c]; exact h
    · rw [if_neg c]
      exact ih _ _ (OkS_step h (Nat.pos_of_ne_zero (fun q => c (Or.inl q))))
theorem runS_le : ∀ (f : Nat) (K : Int) (s : Sg), (runS f K s).1 ≤ f := by
  intro f
  induction f with
  | zero => intro K s; exact Nat.le_refl _
  | succ f ih =>
    intro K s
    unfold runS
    by_cases c : nS s = 0 ∨ K < (tkS s : Int)
    · rw [if_pos c]; exact Nat.zero_le _
    · rw [if_neg c]; have := ih (K - (tkS s : Int)) (stepS s); show _ + 1 ≤ f + 1; omega
/-- more rounds than steps are left change nothing -/
theorem runS_fuel : ∀ (f f' : Nat) (K : Int) (s : Sg), OkS s → mu s ≤ f → mu s ≤ f' → runS f K s = runS f' K s := by
  intro f
  induction f with
  | zero =>
    intro f' K s h h1 h2
    have hn : nS s = 0 := by
      rcases Nat.eq_zero_or_pos (nS s) with q | q
      · exact q
      · have := mu_step h q; omega
    cases f' with
    | zero => rfl
    | succ f' => rw [runS, runS, if_pos (Or.inl hn)]
  | succ f ih =>
    intro f' K s h h1 h2
    by_cases c : nS s = 0 ∨ K < (tkS s : Int)
    · cases f' with
      | zero => rw [show runS (f+1) K s = (0, s) from by rw [runS, if_pos c]]; rfl
      | succ f' => rw [show runS (f+1) K s = (0, s) from by rw [runS, if_pos c], show runS (f'+1) K s = (0, s) from by rw [runS, if_pos c]]
    · have hn : 0 < nS s := Nat.pos_of_ne_zero (fun q => c (Or.inl q))
      have hm := mu_step h hn
      cases f' with
      | zero => omega
      | succ f' =>
        have e := ih f' (K - (tkS s : Int)) (stepS s) (OkS_step h hn) (by omega) (by omega)
        rw [show runS (f+1) K s = ((runS f (K - (tkS s : Int)) (stepS s)).1 + 1, (runS f (K - (tkS s : Int)) (stepS s)).2) from by rw [runS, if_neg c], e, show runS (f'+1) K s = ((runS f' (K - (tkS s : Int)) (stepS s)).1 + 1, (runS f' (K - (tkS s : Int)) (stepS s)).2) from by rw [runS, if_neg c]]
theorem runS_mu : ∀ (f : Nat) (K : Int) (s : Sg), OkS s → (runS f K s).1 ≤ mu s := by
  intro f
  induction f with
  | zero => intro K s h; exact Nat.zero_le _
  | succ f ih =>
    intro K s h
    unfold runS
    by_cases c : nS s = 0 ∨ K < (tkS s : Int)
    · rw [if_pos c]; exact Nat.zero_le _
    · rw [if_neg c]
      have hn : 0 < nS s := Nat.pos_of_ne_zero (fun q => c (Or.inl q))
      have := ih (K - (tkS s : Int)) (stepS s) (OkS_step h hn)
      have := mu_step h hn
      show _ + 1 ≤ mu s
      omega
/-- no step takes longer than this -/
theorem tkS_bd {s : Sg} (h : OkS s) (hn : 0 < nS s) : 1 ≤ tkS s ∧ tkS s ≤ 20000 := by
  obtain ⟨a, v, x, y, t, n, d, m, i, l⟩ := s
  have hn : 0 < n := hn
  obtain ⟨h1, h2, h3, h4, h5, h6, h7, h8⟩ := h
  show 1 ≤ tkI a v (d 0).2.2 m i l ∧ tkI a v (d 0).2.2 m i l ≤ 20000
  have hi := h6 0 hn
  obtain ⟨-, -, -, -, w1, w2, -⟩ := hi
  unfold tkI
  by_cases c : 0 < (d 0).2.2
  · rw [if_pos c]; omega
  · rw [if_neg c]
    have b1 := cr_bd h3 h4
    have b2 := R_flat (n := 0) (m := nxtI a v m i l) h1 (Nat.zero_le _)
    have b3 : T a 1 ≤ 14143 := by
      have q1 := T_le h1 1
      have q2 : 1 * (T a 1 * T a 1) ≤ a * (T a 1 * T a 1) := Nat.mul_le_mul_right _ h1
      have q3 : T a 1 * T a 1 < 14144 * 14144 := by omega
      have := sq_lt q3
      omega
    have b4 := T_R a 0
    have b5 := T_0 a
    rw [Nat.zero_add] at b4
    unfold itv
    generalize Rr a (nxtI a v m i l) = q at *
    generalize cr v = c at *
    exact ⟨Nat.le_trans (by omega) (Nat.le_max_right q c), Nat.max_le.mpr ⟨by omega, by omega⟩⟩
/-- a run on a row of the reference -/
theorem e7_runIn_5 {N : Nat} {k row : Nat} (a2 : Int32) (hN : 8100 ≤ N) (hk : row ≠ k) (hk8 : row ≠ k + 8) : ∀ (f cnt c : Nat) (K : Int) (I : Mem) (s : Sg), mu s ≤ f → f < cnt → c + mu s ≤ 100000 → 0 ≤ K → K ≤ 100000 → McC I k → OkS s → RowR (I row) s →
    ∃ I1, f7_runIn_5 N k row a2 cnt I (zI (c : Int)) (zI K) = some (zI ((c + (runS f K s).1 : Nat) : Int), I1) ∧ RowR (I1 row) (runS f K s).2 ∧ McC I1 k ∧ Cr I I1 k row := by
  intro f
  induction f with
  | zero =>
    intro cnt c K I s h1 h2 h3 h4 h5 hC hO hR
    obtain ⟨cnt, rfl⟩ : ∃ x, cnt = x + 1 := ⟨cnt - 1, by omega⟩
    have hn : nS s = 0 := by
      rcases Nat.eq_zero_or_pos (nS s) with q | q
      · exact q
      · have := mu_step hO q; omega
    refine ⟨I, ?_, hR, hC, Cr.rf⟩
    obtain ⟨a, v, x, y, t, n, d, m, i, l⟩ := s
    have hn : n = 0 := hn
    have r5 := hR.2.2.2.2.2.1
    subst hn
    rw [f7_runIn_5, r5]
    simp (disch := omega) only [letM_s, clP_s, clM_s, l_m89910, l_m999, l_m9, l_m4, l_m3, l_m2, l_m1, l_0, l_1, l_2, l_3, l_4, l_5, l_6, l_7, l_8, l_9, l_10, l_11, l_12, l_13, l_14, l_18, l_31, l_32, l_33, l_43, l_45, l_48, l_57, l_64, l_66, l_80, l_97, l_100, l_109, l_118, l_119, l_200, l_255, l_462, l_500, l_676, l_999, l_1000, l_1001, l_9999, l_10000, l_99999, l_100000, l_447214, l_1000000000, m_m999, m_m9, m_0, m_1, m_2, m_4, m_9, m_255, m_500, m_999, m_9999, m_10000, m_99999, m_200000000, m_4294967295, m_1442695040888963407, m_6364136223846793005, z_add, z_sub, z_mul, z_neg, y_add, y_sub, y_mul, y_neg, z_toL, y_toI, cmp_lt, cmp_gt, cmp_le, cmp_ge, z_lt, z_le, z_eq, y_lt, y_le, y_eq, if_pos, if_neg, ite_true, ite_false]
    rfl
  | succ f ih =>
    intro cnt c K I s h1 h2 h3 h4 h5 hC hO hR
    obtain ⟨cnt, rfl⟩ : ∃ x, cnt = x + 1 := ⟨cnt - 1, by omega⟩
    have hm8 := mu_le hO
    by_cases hn : nS s = 0
    · refine ⟨I, ?_, by unfold runS; rw [if_pos (Or.inl hn)]; exact hR, hC, Cr.rf⟩
      unfold runS
      rw [if_pos (Or.inl hn)]
      obtain ⟨a, v, x, y, t, n, d, m, i, l⟩ := s
      have hn : n = 0 := hn
      have r5 := hR.2.2.2.2.2.1
      subst hn
      rw [f7_runIn_5, r5]
      simp (disch := omega) only [letM_s, clP_s, clM_s, l_m89910, l_m999, l_m9, l_m4, l_m3, l_m2, l_m1, l_0, l_1, l_2, l_3, l_4, l_5, l_6, l_7, l_8, l_9, l_10, l_11, l_12, l_13, l_14, l_18, l_31, l_32, l_33, l_43, l_45, l_48, l_57, l_64, l_66, l_80, l_97, l_100, l_109, l_118, l_119, l_200, l_255, l_462, l_500, l_676, l_999, l_1000, l_1001, l_9999, l_10000, l_99999, l_100000, l_447214, l_1000000000, m_m999, m_m9, m_0, m_1, m_2, m_4, m_9, m_255, m_500, m_999, m_9999, m_10000, m_99999, m_200000000, m_4294967295, m_1442695040888963407, m_6364136223846793005, z_add, z_sub, z_mul, z_neg, y_add, y_sub, y_mul, y_neg, z_toL, y_toI, cmp_lt, cmp_gt, cmp_le, cmp_ge, z_lt, z_le, z_eq, y_lt, y_le, y_eq, if_pos, if_neg, ite_true, ite_false]
      rfl
    · have hn0 : 0 < nS s := by omega
      have hb := tkS_bd hO hn0
      have hnt : ∃ I1, f7_nextTicks N I k row = some (zI (tkS s : Int), I1) ∧ McC I1 k ∧ Cs I I1 k := by
        obtain ⟨a, v, x, y, t, n, d, m, i, l⟩ := s
        exact e7_nextTicks (by omega) hC hn0 hO hR
      have r5 : I row 5 = zI (nS s : Int) := by
        obtain ⟨a, v, x, y, t, n, d, m, i, l⟩ := s
        exact hR.2.2.2.2.2.1
      have hn8 : nS s ≤ 8 := by
        obtain ⟨a, v, x, y, t, n, d, m, i, l⟩ := s
        exact hO.2.2.2.2.1
      obtain ⟨I1, q1, q2, q3⟩ := hnt
      have hrow : I1 row = I row := q3.1 row hk hk8
      by_cases hK : K < (tkS s : Int)
      · refine ⟨I1, ?_, by unfold runS; rw [if_pos (Or.inr hK), hrow]; exact hR, q2, q3.Cr row⟩
        unfold runS
        rw [if_pos (Or.inr hK), f7_runIn_5, r5]
        simp (disch := omega) only [q1, letM_s, clP_s, clM_s, l_m89910, l_m999, l_m9, l_m4, l_m3, l_m2, l_m1, l_0, l_1, l_2, l_3, l_4, l_5, l_6, l_7, l_8, l_9, l_10, l_11, l_12, l_13, l_14, l_18, l_31, l_32, l_33, l_43, l_45, l_48, l_57, l_64, l_66, l_80, l_97, l_100, l_109, l_118, l_119, l_200, l_255, l_462, l_500, l_676, l_999, l_1000, l_1001, l_9999, l_10000, l_99999, l_100000, l_447214, l_1000000000, m_m999, m_m9, m_0, m_1, m_2, m_4, m_9, m_255, m_500, m_999, m_9999, m_10000, m_99999, m_200000000, m_4294967295, m_1442695040888963407, m_6364136223846793005, z_add, z_sub, z_mul, z_neg, y_add, y_sub, y_mul, y_neg, z_toL, y_toI, cmp_lt, cmp_gt, cmp_le, cmp_ge, z_lt, z_le, z_eq, y_lt, y_le, y_eq, if_pos, if_neg, ite_true, ite_false]
        rfl
      · obtain ⟨I2, s1, s2, s3, s4⟩ := e7_stepIn (N := N) (by omega) hk hk8 q2 hn0 hO (by rw [hrow]; exact hR)
        have hms := mu_step hO hn0
        obtain ⟨I3, t1, t2, t3, t4⟩ := ih cnt (c+1) (K - (tkS s : Int)) I2 (stepS s) (by omega) (by omega) (by omega) (by omega) (by omega) s3 (OkS_step hO hn0) s2
        refine ⟨I3, ?_, by unfold runS; rw [if_neg (fun q => q.elim hn hK)]; exact t2, t3, ((q3.Cr row).tr s4).tr t4⟩
        unfold runS
        rw [if_neg (fun q => q.elim hn hK), f7_runIn_5, r5]
        simp (disch := omega) only [q1, s1, letM_s, clP_s, clM_s, l_m89910, l_m999, l_m9, l_m4, l_m3, l_m2, l_m1, l_0, l_1, l_2, l_3, l_4, l_5, l_6, l_7, l_8, l_9, l_10, l_11, l_12, l_13, l_14, l_18, l_31, l_32, l_33, l_43, l_45, l_48, l_57, l_64, l_66, l_80, l_97, l_100, l_109, l_118, l_119, l_200, l_255, l_462, l_500, l_676, l_999, l_1000, l_1001, l_9999, l_10000, l_99999, l_100000, l_447214, l_1000000000, m_m999, m_m9, m_0, m_1, m_2, m_4, m_9, m_255, m_500, m_999, m_9999, m_10000, m_99999, m_200000000, m_4294967295, m_1442695040888963407, m_6364136223846793005, z_add, z_sub, z_mul, z_neg, y_add, y_sub, y_mul, y_neg, z_toL, y_toI, cmp_lt, cmp_gt, cmp_le, cmp_ge, z_lt, z_le, z_eq, y_lt, y_le, y_eq, if_pos, if_neg, ite_true, ite_false]
        rw [show ((c : Int) + 1) = ((c + 1 : Nat) : Int) from rfl, t1, show c + 1 + (runS f (K - ↑(tkS s)) (stepS s)).1 = c + ((runS f (K - ↑(tkS s)) (stepS s)).1 + 1) by omega]
theorem e7_copy_2 (N : Nat) {k0 k1 : Nat} (h01 : k0 ≠ k1) : ∀ (e i cnt : Nat) (I : Mem), i + e = 33 → e < cnt → ∃ I1, f7_copy_2 N k0 k1 cnt I (zI (i : Int)) = some I1 ∧ (∀ j, i ≤ j → j < 33 → I1 k1 j = I k0 j) ∧ (∀ j, j < i → I1 k1 j = I k1 j) ∧ ∀ x, x ≠ k1 → I1 x = I x := by
  intro e
  induction e with
  | zero =>
    intro i cnt I h1 h2
    obtain ⟨cnt, rfl⟩ : ∃ x, cnt = x + 1 := ⟨cnt - 1, by omega⟩
    refine ⟨I, ?_, fun j a b => by omega, fun _ _ => rfl, fun _ _ => rfl⟩
    rw [f7_copy_2]
    simp (disch := omega) only [letM_s, clP_s, clM_s, l_m89910, l_m999, l_m9, l_m4, l_m3, l_m2, l_m1, l_0, l_1, l_2, l_3, l_4, l_5, l_6, l_7, l_8, l_9, l_10, l_11, l_12, l_13, l_14, l_18, l_31, l_32, l_33, l_43, l_45, l_48, l_57, l_64, l_66, l_80, l_97, l_100, l_109, l_118, l_119, l_200, l_255, l_462, l_500, l_676, l_999, l_1000, l_1001, l_9999, l_10000, l_99999, l_100000, l_447214, l_1000000000, m_m999, m_m9, m_0, m_1, m_2, m_4, m_9, m_255, m_500, m_999, m_9999, m_10000, m_99999, m_200000000, m_4294967295, m_1442695040888963407, m_6364136223846793005, z_add, z_sub, z_mul, z_neg, y_add, y_sub, y_mul, y_neg, z_toL, y_toI, cmp_lt, cmp_gt, cmp_le, cmp_ge, z_lt, z_le, z_eq, y_lt, y_le, y_eq, if_pos, if_neg, ite_true, ite_false]
  | succ e ih =>
    intro i cnt I h1 h2
    obtain ⟨cnt, rfl⟩ : ∃ x, cnt = x + 1 := ⟨cnt - 1, by omega⟩
    obtain ⟨I1, q1, q2, q3, q4⟩ := ih (i + 1) cnt (st I k1 i (I k0 i)) (by omega) (by omega)
    have n1 : (zI (i : Int)).toNatClampNeg = i := by rw [z_nat (by omega) (by omega)]; rfl
    refine ⟨I1, ?_, fun j a b => ?_, fun j hj => by rw [q3 j (by omega), st_j (by omega)], fun x hx => by rw [q4 x hx, st_k hx]⟩
    · rw [← q1, f7_copy_2]
      simp (disch := omega) only [n1, letM_s, clP_s, clM_s, l_m89910, l_m999, l_m9, l_m4, l_m3, l_m2, l_m1, l_0, l_1, l_2, l_3, l_4, l_5, l_6, l_7, l_8, l_9, l_10, l_11, l_12, l_13, l_14, l_18, l_31, l_32, l_33, l_43, l_45, l_48, l_57, l_64, l_66, l_80, l_97, l_100, l_109, l_118, l_119, l_200, l_255, l_462, l_500, l_676, l_999, l_1000, l_1001, l_9999, l_10000, l_99999, l_100000, l_447214, l_1000000000, m_m999, m_m9, m_0, m_1, m_2, m_4, m_9, m_255, m_500, m_999, m_9999, m_10000, m_99999, m_200000000, m_4294967295, m_1442695040888963407, m_6364136223846793005, z_add, z_sub, z_mul, z_neg, y_add, y_sub, y_mul, y_neg, z_toL, y_toI, cmp_lt, cmp_gt, cmp_le, cmp_ge, z_lt, z_le, z_eq, y_lt, y_le, y_eq, if_pos, if_neg, ite_true, ite_false]
      rfl
    · by_cases c : j = i
      · subst c; rw [q3 j (by omega), st_s]
      · rw [q2 j (by omega) b, st_k h01]
theorem e7_copy {N : Nat} {I : Mem} {k0 k1 : Nat} (hN : 100 ≤ N) (h01 : k0 ≠ k1) : ∃ I1, f7_copy N I k0 k1 = some I1 ∧ (∀ j, j < 33 → I1 k1 j = I k0 j) ∧ ∀ x, x ≠ k1 → I1 x = I x := by
  obtain ⟨I1, q1, q2, -, q4⟩ := e7_copy_2 N h01 33 0 N I (by omega) (by omega)
  exact ⟨I1, q1, fun j hj => q2 j (Nat.zero_le _) hj, q4⟩
/-! the whole state: text, state, remembered states, slots -/
abbrev GS : Type := Nat × (Nat → Int) × Sg × Nat × Nat × (Nat → Sg) × (Nat → Option Sg)
def remG : GS → GS
  | (tl, tx, s, hc, he, hh, sv) => (tl, tx, s, min (hc + 1) 14, he + 1, fun i => if i = 0 then s else hh (i - 1), sv)
def setG : GS → Sg → GS
  | (tl, tx, _, hc, he, hh, sv), s => (tl, tx, s, hc, he, hh, sv)
def OkG : GS → Prop
  | (tl, tx, s, hc, he, hh, sv) => tl ≤ 80 ∧ (∀ j, j < tl → 0 ≤ tx j ∧ tx j ≤ 255) ∧ OkS s ∧ hc ≤ 14 ∧ hc ≤ he ∧ he ≤ 100000 ∧ (∀ i, i < hc → OkS (hh i)) ∧ ∀ b z, sv b = some z → OkS z
def MInv (I : Mem) (k : Nat) : GS → Prop
  | (tl, tx, s, hc, he, hh, sv) => I k 1 = zI (tl : Int) ∧ (∀ j, j < tl → I (k+1) j = zI (tx j)) ∧ RowR (I (k+2)) s ∧ I k 7 = zI (hc : Int) ∧ I k 8 = zI ((he % 14 : Nat) : Int) ∧ (∀ i, i < hc → RowR (fun j => I (k+5) (33 * ((he - 1 - i) % 14) + j)) (hh i)) ∧ (∀ b, b < 2 → (sv b = none → I (k+7) b = zI 0) ∧ ∀ z, sv b = some z → I (k+7) b = zI 1 ∧ RowR (fun j => I (k+6) (33 * b + j)) z) ∧ McC I k
def sG (g : GS) : Sg := g.2.2.1
theorem MInv.now {I : Mem} {k : Nat} {g : GS} (h : MInv I k g) : RowR (I (k+2)) (sG g) := h.2.2.1
theorem MInv.C {I : Mem} {k : Nat} {g : GS} (h : MInv I k g) : McC I k := h.2.2.2.2.2.2.2
theorem OkG.S {g : GS} (h : OkG g) : OkS (sG g) := h.2.2.1
theorem MInv.set {I I1 : Mem} {k : Nat} {g : GS} {s : Sg} (h : MInv I k g) (hx : ∀ x, x ≠ k → x ≠ k+2 → x ≠ k+3 → x ≠ k+4 → x ≠ k+8 → I1 x = I x) (hk : ∀ j, j < 12 → j ≠ 2 → I1 k j = I k j) (hR : RowR (I1 (k+2)) s) (hC : McC I1 k) : MInv I1 k (setG g s) := by
  obtain ⟨tl, tx, s0, hc, he, hh, sv⟩ := g
  obtain ⟨h1, h2, h3, h4, h5, h6, h7, h8⟩ := h
  refine ⟨by rw [hk 1 (by omega) (by omega)]; exact h1, fun j hj => by rw [hx (k+1) (by omega) (by omega) (by omega) (by omega) (by omega)]; exact h2 j hj, hR, by rw [hk 7 (by omega) (by omega)]; exact h4, by rw [hk 8 (by omega) (by omega)]; exact h5, fun i hi => ?_, fun b hb => ?_, hC⟩
  · rw [hx (k+5) (by omega) (by omega) (by omega) (by omega) (by omega)]; exact h6 i hi
  · rw [hx (k+7) (by omega) (by omega) (by omega) (by omega) (by omega), hx (k+6) (by omega) (by omega) (by omega) (by omega) (by omega)]; exact h7 b hb
theorem setG_self (g : GS) : setG g (sG g) = g := by
  obtain ⟨tl, tx, s0, hc, he, hh, sv⟩ := g
  rfl
/-- only kept things and scratch rows changed -/
theorem MInv.same {I I1 : Mem} {k : Nat} {g : GS} (h : MInv I k g) (hx : ∀ x, x ≠ k → x ≠ k+3 → x ≠ k+4 → x ≠ k+8 → I1 x = I x) (hk : ∀ j, j < 12 → j ≠ 2 → I1 k j = I k j) (hC : McC I1 k) : MInv I1 k g := by
  have := h.set (s := sG g) (fun x a _ b c e => hx x a b c e) hk (by rw [hx (k+2) (by omega) (by omega) (by omega) (by omega)]; exact h.now) hC
  rwa [setG_self] at this
theorem MInv.cs {I I1 : Mem} {k : Nat} {g : GS} (h : MInv I k g) (hc : Cs I I1 k) (hC : McC I1 k) : MInv I1 k g := h.same (fun x a _ _ e => hc.1 x a e) (fun j a _ => hc.2 j a) hC
theorem MInv.tr {I I1 : Mem} {k : Nat} {g : GS} (h : MInv I k g) (hc : Cr I I1 k (k+3)) (hC : McC I1 k) : MInv I1 k g := h.same (fun x a b _ e => hc.1 x a e b) (fun j a _ => hc.2 j a) hC
theorem MInv.row {I I1 : Mem} {k : Nat} {g : GS} {s : Sg} (h : MInv I k g) (hc : Cr I I1 k (k+2)) (hR : RowR (I1 (k+2)) s) (hC : McC I1 k) : MInv I1 k (setG g s) := h.set (fun x a b _ _ e => hc.1 x a e b) (fun j a _ => hc.2 j a) hR hC
theorem OkG.set {g : GS} {s : Sg} (h : OkG g) (hs : OkS s) : OkG (setG g s) := by
  obtain ⟨tl, tx, s0, hc, he, hh, sv⟩ := g
  obtain ⟨h1, h2, h3, h4, h5, h6, h7, h8⟩ := h
  exact ⟨h1, h2, hs, h4, h5, h6, h7, h8⟩
theorem OkG.rem {g : GS} (h : OkG g) (he : g.2.2.2.2.1 < 100000) : OkG (remG g) := by
  obtain ⟨tl, tx, s0, hc, he', hh, sv⟩ := g
  have he : he' < 100000 := he
  obtain ⟨h1, h2, h3, h4, h5, h6, h7, h8⟩ := h
  refine ⟨h1, h2, h3, by omega, by omega, by omega, fun i hi => ?_, h8⟩
  by_cases c : i = 0
  · show OkS (if i = 0 then s0 else hh (i - 1)); rw [if_pos c]; exact h3
  · show OkS (if i = 0 then s0 else hh (i - 1)); rw [if_neg c]; exact h7 _ (by omega)
theorem setG_set (g : GS) (s s' : Sg) : setG (setG g s) s' = setG g s' := by
  obtain ⟨tl, tx, s0, hc, he, hh, sv⟩ := g
  rfl
theorem sG_set (g : GS) (s : Sg) : sG (setG g s) = s := by
  obtain ⟨tl, tx, s0, hc, he, hh, sv⟩ := g
  rfl
theorem sG_rem (g : GS) : sG (remG g) = sG g := by
  obtain ⟨tl, tx, s0, hc, he, hh, sv⟩ := g
  rfl
theorem e7_note_2 (N : Nat) {k p : Nat} (hp : p < 14) : ∀ (e i cnt : Nat) (I : Mem), i + e = 33 → e < cnt → I k 8 = zI (p : Int) → ∃ I1, f7_note_2 N k cnt I (zI (i : Int)) = f7_note_2 N k 1 I1 (zI ((33 : Nat) : Int)) ∧ (∀ j, i ≤ j → j < 33 → I1 (k+5) (33 * p + j) = I (k+2) j) ∧ (∀ j, (j < 33 * p + i ∨ 33 * p + 33 ≤ j) → I1 (k+5) j = I (k+5) j) ∧ ∀ x, x ≠ k+5 → I1 x = I x := by
  intro e
  induction e with
  | zero =>
    intro i cnt I h1 h2 h3
    obtain ⟨cnt, rfl⟩ : ∃ x, cnt = x + 1 := ⟨cnt - 1, by omega⟩
    refine ⟨I, ?_, fun j a b => by omega, fun _ _ => rfl, fun _ _ => rfl⟩
    rw [show i = 33 by omega, f7_note_2, f7_note_2]
    simp (disch := omega) only [l_33, z_le, if_pos]
  | succ e ih =>
    intro i cnt I h1 h2 h3
    obtain ⟨cnt, rfl⟩ : ∃ x, cnt = x + 1 := ⟨cnt - 1, by omega⟩
    obtain ⟨I1, q1, q2, q3, q4⟩ := ih (i + 1) cnt (st I (k+5) (33 * p + i) (I (k+2) i)) (by omega) (by omega) (by rw [st_k (by omega)]; exact h3)
    have n1 : (zI (i : Int)).toNatClampNeg = i := by rw [z_nat (by omega) (by omega)]; rfl
    have n2 : (zI (33 * (p : Int) + (i : Int))).toNatClampNeg = 33 * p + i := by rw [z_nat (by omega) (by omega)]; omega
    refine ⟨I1, ?_, fun j a b => ?_, fun j hj => ?_, fun x hx => by rw [q4 x hx, st_k hx]⟩
    · rw [← q1, f7_note_2, h3]
      simp (disch := omega) only [l_33, l_0, l_1, n1, z_mul, z_add, n2, z_le, z_lt, if_neg, letM_s]
      rfl
    · by_cases c : j = i
      · subst c; rw [q3 _ (by omega), st_s]
      · rw [q2 j (by omega) b, st_k (by omega)]
    · rw [q3 j (by omega), st_j (by omega)]
theorem e7_note {N : Nat} {I : Mem} {k : Nat} {g : GS} (hN : 100 ≤ N) (hG : OkG g) (h : MInv I k g) : ∃ I1, f7_note N I k = some I1 ∧ MInv I1 k (remG g) ∧ (∀ x, x ≠ k → x ≠ k+5 → I1 x = I x) := by
  obtain ⟨tl, tx, s, hc, he, hh, sv⟩ := g
  obtain ⟨g1, g2, g3, g4, g5, g6, g7, g8⟩ := hG
  obtain ⟨h1, h2, h3, h4, h5, h6, h7, h8⟩ := h
  have hp : he % 14 < 14 := Nat.mod_lt _ (by omega)
  obtain ⟨I1, q1, q2, q3, q4⟩ := e7_note_2 N (k := k) hp 33 0 N I (by omega) (by omega) h5
  have e8 : I1 k 8 = zI ((he % 14 : Nat) : Int) := by rw [q4 k (by omega)]; exact h5
  have e7 : I1 k 7 = zI (hc : Int) := by rw [q4 k (by omega)]; exact h4
  obtain ⟨I2, hI2⟩ : ∃ I2, I2 = st I1 k 8 (zI (((he + 1) % 14 : Nat) : Int)) := ⟨_, rfl⟩
  obtain ⟨I3, hI3⟩ : ∃ I3, I3 = st I2 k 7 (zI ((min (hc + 1) 14 : Nat) : Int)) := ⟨_, rfl⟩
  have hval : zI (((he % 14 : Nat) : Int) + 1) - zI (((he % 14 : Nat) : Int) + 1) / zI 14 * zI 14 = zI (((he + 1) % 14 : Nat) : Int) := by
    rw [z_div (by omega) (by omega) (by omega) (by omega), z_mul, z_sub, Int.tdiv_eq_ediv_of_nonneg (by omega)]
    congr 1
    omega
  have hs : f7_note_2 N k 1 I1 (zI ((33 : Nat) : Int)) = some I3 := by
    have e27 : I2 k 7 = zI (hc : Int) := by rw [hI2, st_j (by omega)]; exact e7
    rw [f7_note_2]
    by_cases c : 14 ≤ hc
    · rw [hI3, show min (hc + 1) 14 = 14 by omega]
      simp (disch := omega) only [l_33, z_le, if_pos, e8, letM_s, l_1, l_14, z_add, hval, ← hI2, e27]
      rfl
    · rw [hI3, show min (hc + 1) 14 = hc + 1 by omega]
      simp (disch := omega) only [l_33, z_le, if_pos, if_neg, e8, letM_s, l_1, l_14, z_add, hval, ← hI2, e27]
      rfl
  have fx : ∀ x, x ≠ k → x ≠ k+5 → I3 x = I x := fun x a b => by rw [hI3, st_k a, hI2, st_k a, q4 x b]
  have fk : ∀ j, j ≠ 7 → j ≠ 8 → I3 k j = I k j := fun j a b => by rw [hI3, st_j a, hI2, st_j b, q4 k (by omega)]
  have f5 : I3 (k+5) = I1 (k+5) := by rw [hI3, st_k (by omega), hI2, st_k (by omega)]
  refine ⟨I3, ?_, ⟨by rw [fk 1 (by omega) (by omega)]; exact h1, fun j hj => by rw [fx (k+1) (by omega) (by omega)]; exact h2 j hj, by rw [fx (k+2) (by omega) (by omega)]; exact h3, by rw [hI3, st_s], by rw [hI3, st_j (by omega), hI2, st_s], fun i hi => ?_, fun b hb => ?_, ?_⟩, fx⟩
  · unfold f7_note
    rw [l_0, show zI 0 = zI ((0 : Nat) : Int) from rfl, q1, hs]
  · rw [f5]
    by_cases c : i = 0
    · subst c
      show RowR _ (if (0 : Nat) = 0 then s else hh (0 - 1))
      rw [if_pos rfl]
      refine h3.eq g3 (fun j hj => ?_)
      rw [show (he + 1 - 1 - 0) % 14 = he % 14 by rw [Nat.sub_zero, Nat.add_sub_cancel]]
      exact q2 j (Nat.zero_le _) hj
    · show RowR _ (if i = 0 then s else hh (i - 1))
      rw [if_neg c]
      have hi' : i < min (hc + 1) 14 := hi
      refine (h6 (i - 1) (by omega)).eq (g7 (i - 1) (by omega)) (fun j hj => ?_)
      rw [show he + 1 - 1 - i = he - 1 - (i - 1) by omega]
      exact q3 _ (by omega)
  · rw [fx (k+7) (by omega) (by omega), fx (k+6) (by omega) (by omega)]; exact h7 b hb
  · refine ⟨?_, fun a v a1 a2 a3 a4 => ?_⟩
    · rw [fk 13 (by omega) (by omega), fk 12 (by omega) (by omega), fx (k+8) (by omega) (by omega)]; exact h8.1
    · rw [fk 14 (by omega) (by omega), fk 15 (by omega) (by omega), fk 16 (by omega) (by omega)]; exact h8.2 a v a1 a2 a3 a4
