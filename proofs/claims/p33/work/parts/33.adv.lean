/-! class State: advance is a run of steps -/
def itS : Nat → Sg → Sg
  | 0, s => s
  | j+1, s => itS j (stepS s)
def tsum : Nat → Sg → Nat
  | 0, _ => 0
  | j+1, s => tkS s + tsum j (stepS s)
def Rn : Nat → Int → Sg → Prop
  | 0, _, _ => True
  | j+1, K, s => nS s ≠ 0 ∧ (tkS s : Int) ≤ K ∧ Rn j (K - (tkS s : Int)) (stepS s)
theorem runS_add : ∀ (j f : Nat) (K : Int) (s : Sg), Rn j K s → runS (j + f) K s = (j + (runS f (K - (tsum j s : Int)) (itS j s)).1, (runS f (K - (tsum j s : Int)) (itS j s)).2) := by
  intro j
  induction j with
  | zero =>
    intro f K s _
    show runS (0 + f) K s = (0 + (runS f (K - ((0 : Nat) : Int)) s).1, (runS f (K - ((0 : Nat) : Int)) s).2)
    rw [Nat.zero_add, Nat.zero_add, show K - ((0 : Nat) : Int) = K by omega]
  | succ j ih =>
    intro f K s h
    obtain ⟨h1, h2, h3⟩ := h
    have e := ih f (K - (tkS s : Int)) (stepS s) h3
    have e2 : K - (tkS s : Int) - (tsum j (stepS s) : Int) = K - (tsum (j+1) s : Int) := by
      show _ = K - ((tkS s + tsum j (stepS s) : Nat) : Int)
      omega
    rw [e2] at e
    rw [show j + 1 + f = (j + f) + 1 by omega, runS, if_neg (fun q => q.elim h1 (fun q => by omega)), e]
    show (j + _ + 1, _) = _
    rw [show ∀ z : Nat, j + z + 1 = j + 1 + z from fun z => by omega]
    rfl
theorem Rn_ok : ∀ (j : Nat) (K : Int) (s : Sg), OkS s → Rn j K s → OkS (itS j s) ∧ mu (itS j s) + j ≤ mu s := by
  intro j
  induction j with
  | zero => intro K s h _; exact ⟨h, Nat.le_refl _⟩
  | succ j ih =>
    intro K s h hr
    have hn : 0 < nS s := Nat.pos_of_ne_zero hr.1
    have h2 := ih _ _ (OkS_step h hn) hr.2.2
    have h3 := mu_step h hn
    refine ⟨h2.1, ?_⟩
    show mu (itS j (stepS s)) + (j + 1) ≤ mu s
    omega
theorem Rn_t : ∀ (j : Nat) (K : Int) (s : Sg), 0 ≤ K → Rn j K s → (tsum j s : Int) ≤ K := by
  intro j
  induction j with
  | zero => intro K s h _; exact h
  | succ j ih =>
    intro K s h hr
    have h2 := ih (K - (tkS s : Int)) (stepS s) (by have := hr.2.1; omega) hr.2.2
    show ((tkS s + tsum j (stepS s) : Nat) : Int) ≤ K
    omega
theorem itS_t : ∀ (j : Nat) (s : Sg), sT (itS j s) = sT s + zI (tsum j s : Int) := by
  intro j
  induction j with
  | zero => intro s; show sT s = sT s + zI ((0 : Nat) : Int); rw [show zI ((0 : Nat) : Int) = 0 from rfl, Int32.add_zero]
  | succ j ih =>
    intro s
    show sT (itS j (stepS s)) = sT s + zI ((tkS s + tsum j (stepS s) : Nat) : Int)
    rw [ih, sT_step, Int32.add_assoc, z_add]
    rfl
theorem stepS_av (s : Sg) : sA (stepS s) = sA s ∧ sV (stepS s) = sV s := by
  obtain ⟨a, v, x, y, t, n, d, m, i, l⟩ := s
  unfold stepS
  by_cases c : 0 < (d 0).2.2
  · simp only [if_pos c]; exact ⟨trivial, trivial⟩
  · simp only [if_neg c]
    by_cases c2 : (if m = 0 then lenI (d 0) else l) - 1 = 0
    · simp only [if_pos c2]; exact ⟨trivial, trivial⟩
    · simp only [if_neg c2]; exact ⟨trivial, trivial⟩
theorem itS_av : ∀ (j : Nat) (s : Sg), sA (itS j s) = sA s ∧ sV (itS j s) = sV s := by
  intro j
  induction j with
  | zero => intro s; exact ⟨rfl, rfl⟩
  | succ j ih =>
    intro s
    have h1 := ih (stepS s)
    have h2 := stepS_av s
    exact ⟨h1.1.trans h2.1, h1.2.trans h2.2⟩
/-- steps left of a first item that is a move -/
def l0S : Sg → Nat | (_, _, _, _, _, _, d, m, _, l) => if m = 0 then lenI (d 0) else l
theorem z_tele (x p q r : Int32) : x + (q - p) + (r - q) = x + (r - p) := by
  rw [Int32.add_assoc]
  congr 1
  grind
/-- where the steps of a move lead -/
theorem itS_mv : ∀ (j a v : Nat) (x y t : Int32) (n : Nat) (d : Nat → Itm) (m i l : Nat), (d 0).2.2 ≤ 0 → 1 ≤ j → j ≤ l0S (a, v, x, y, t, n, d, m, i, l) →
    (j = l0S (a, v, x, y, t, n, d, m, i, l) → itS j (a, v, x, y, t, n, d, m, i, l) = (a, v, x + (zI (wayZ (d 0).1 (lenI (d 0)) (m + j)) - zI (wayZ (d 0).1 (lenI (d 0)) m)), y + (zI (wayZ (d 0).2.1 (lenI (d 0)) (m + j)) - zI (wayZ (d 0).2.1 (lenI (d 0)) m)), t + zI (tsum j (a, v, x, y, t, n, d, m, i, l) : Int), n - 1, dropD d 0, 0, 0, 0)) ∧
    (j < l0S (a, v, x, y, t, n, d, m, i, l) → itS j (a, v, x, y, t, n, d, m, i, l) = (a, v, x + (zI (wayZ (d 0).1 (lenI (d 0)) (m + j)) - zI (wayZ (d 0).1 (lenI (d 0)) m)), y + (zI (wayZ (d 0).2.1 (lenI (d 0)) (m + j)) - zI (wayZ (d 0).2.1 (lenI (d 0)) m)), t + zI (tsum j (a, v, x, y, t, n, d, m, i, l) : Int), n, d, m + j, sI (itS j (a, v, x, y, t, n, d, m, i, l)), l0S (a, v, x, y, t, n, d, m, i, l) - j)) := by
  intro j
  induction j with
  | zero => intro a v x y t n d m i l _ h; omega
  | succ j ih =>
    intro a v x y t n d m i l hw h1 h2
    have hw' : ¬ 0 < (d 0).2.2 := by omega
    generalize hl0 : l0S (a, v, x, y, t, n, d, m, i, l) = l0 at *
    have hl0' : (if m = 0 then lenI (d 0) else l) = l0 := hl0
    have ht := itS_t (j+1) (a, v, x, y, t, n, d, m, i, l)
    have htk : tkS (a, v, x, y, t, n, d, m, i, l) = tkI a v (d 0).2.2 m i l := rfl
    by_cases c : l0 - 1 = 0
    · have hj : j = 0 := by omega
      subst hj
      have e : itS (0 + 1) (a, v, x, y, t, n, d, m, i, l) = (a, v, x + (zI (wayZ (d 0).1 (lenI (d 0)) (m + 1)) - zI (wayZ (d 0).1 (lenI (d 0)) m)), y + (zI (wayZ (d 0).2.1 (lenI (d 0)) (m + 1)) - zI (wayZ (d 0).2.1 (lenI (d 0)) m)), t + zI (tkI a v (d 0).2.2 m i l : Int), n - 1, dropD d 0, 0, 0, 0) := by
        show stepS (a, v, x, y, t, n, d, m, i, l) = _
        unfold stepS
        simp only [if_neg hw', hl0', if_pos c]
      refine ⟨fun _ => ?_, fun q => by omega⟩
      rw [e]
      rfl
    · have e : stepS (a, v, x, y, t, n, d, m, i, l) = (a, v, x + (zI (wayZ (d 0).1 (lenI (d 0)) (m + 1)) - zI (wayZ (d 0).1 (lenI (d 0)) m)), y + (zI (wayZ (d 0).2.1 (lenI (d 0)) (m + 1)) - zI (wayZ (d 0).2.1 (lenI (d 0)) m)), t + zI (tkI a v (d 0).2.2 m i l : Int), n, d, m + 1, nxtI a v m i l, l0 - 1) := by
        unfold stepS
        simp only [if_neg hw', hl0', if_neg c]
      by_cases cj : j = 0
      · subst cj
        refine ⟨fun q => by omega, fun q => ?_⟩
        show stepS (a, v, x, y, t, n, d, m, i, l) = _
        rw [e]
        show _ = (a, v, _, _, t + zI ((tkS (a, v, x, y, t, n, d, m, i, l) + 0 : Nat) : Int), n, d, m + 1, sI (stepS (a, v, x, y, t, n, d, m, i, l)), l0 - 1)
        rw [e]
        rfl
      · have hs := ih a v (x + (zI (wayZ (d 0).1 (lenI (d 0)) (m + 1)) - zI (wayZ (d 0).1 (lenI (d 0)) m))) (y + (zI (wayZ (d 0).2.1 (lenI (d 0)) (m + 1)) - zI (wayZ (d 0).2.1 (lenI (d 0)) m))) (t + zI (tkI a v (d 0).2.2 m i l : Int)) n d (m + 1) (nxtI a v m i l) (l0 - 1) hw (by omega)
        have hl1 : ∀ x y t, l0S (a, v, x, y, t, n, d, m + 1, nxtI a v m i l, l0 - 1) = l0 - 1 := fun _ _ _ => by unfold l0S; exact if_neg (by omega)
        rw [hl1] at hs
        obtain ⟨s1, s2⟩ := hs (by omega)
        rw [z_tele, z_tele, Int32.add_assoc, z_add, show m + 1 + j = m + (j + 1) by omega] at s1 s2
        have ets : (tkI a v (d 0).2.2 m i l : Int) + (tsum j (stepS (a, v, x, y, t, n, d, m, i, l)) : Int) = (tsum (j+1) (a, v, x, y, t, n, d, m, i, l) : Int) := rfl
        rw [e] at ets
        rw [ets] at s1 s2
        refine ⟨fun q => ?_, fun q => ?_⟩
        · show itS j (stepS (a, v, x, y, t, n, d, m, i, l)) = _
          rw [e]
          exact s1 (by omega)
        · show itS j (stepS (a, v, x, y, t, n, d, m, i, l)) = (a, v, _, _, _, n, d, m + (j + 1), sI (itS j (stepS (a, v, x, y, t, n, d, m, i, l))), l0 - (j + 1))
          rw [e, show l0 - (j + 1) = l0 - 1 - j by omega]
          exact s2 (by omega)
/-- a whole move -/
theorem wm_1 {a v len : Nat} {n : Nat} {d : Nat → Itm} (hw : (d 0).2.2 ≤ 0) (hn : n ≠ 0) : ∀ (e m : Nat) (x y t : Int32) (i : Nat) (K : Int), 1 ≤ m → m + e = len → i = min (min (m - 1) (len - 1 - (m - 1))) (topN a (cr v) 999) → (sumN (fun j => itv a (cr v) (min (min (m + j) (len - 1 - (m + j))) (topN a (cr v) 999))) e : Int) ≤ K → Rn e K (a, v, x, y, t, n, d, m, i, e) ∧ tsum e (a, v, x, y, t, n, d, m, i, e) = sumN (fun j => itv a (cr v) (min (min (m + j) (len - 1 - (m + j))) (topN a (cr v) 999))) e := by
  intro e
  induction e with
  | zero => intro m x y t i K _ _ _ _; exact ⟨trivial, rfl⟩
  | succ e ih =>
    intro m x y t i K h1 h2 h3 h4
    have hw' : ¬ 0 < (d 0).2.2 := by omega
    have hx : nxtI a v m i (e + 1) = min (min m (len - 1 - m)) (topN a (cr v) 999) := by
      unfold nxtI
      rw [if_neg (by omega), h3]
      have := idxA_ud (k := m - 1) (len := len) (tp := topN a (cr v) 999) (by omega)
      rw [show m - 1 + 1 = m by omega, show len - m = e + 1 by omega] at this
      exact this
    have htk : tkS (a, v, x, y, t, n, d, m, i, e + 1) = itv a (cr v) (min (min m (len - 1 - m)) (topN a (cr v) 999)) := by
      show tkI a v (d 0).2.2 m i (e + 1) = _
      unfold tkI
      rw [if_neg hw', hx]
    rw [sumN_s] at h4 ⊢
    have e1 : (fun i_1 => (fun j => itv a (cr v) (min (min (m + j) (len - 1 - (m + j))) (topN a (cr v) 999))) (i_1 + 1)) = fun j => itv a (cr v) (min (min (m + 1 + j) (len - 1 - (m + 1 + j))) (topN a (cr v) 999)) := by
      funext j
      show itv a (cr v) (min (min (m + (j + 1)) (len - 1 - (m + (j + 1)))) (topN a (cr v) 999)) = _
      rw [show m + (j + 1) = m + 1 + j by omega]
    rw [e1] at h4 ⊢
    have e0 : itv a (cr v) (min (min (m + 0) (len - 1 - (m + 0))) (topN a (cr v) 999)) = tkS (a, v, x, y, t, n, d, m, i, e + 1) := htk.symm
    rw [e0] at h4 ⊢
    show ((n ≠ 0 ∧ (tkS (a, v, x, y, t, n, d, m, i, e + 1) : Int) ≤ K ∧ Rn e (K - (tkS (a, v, x, y, t, n, d, m, i, e + 1) : Int)) (stepS (a, v, x, y, t, n, d, m, i, e + 1))) ∧ tkS (a, v, x, y, t, n, d, m, i, e + 1) + tsum e (stepS (a, v, x, y, t, n, d, m, i, e + 1)) = _)
    generalize tkS (a, v, x, y, t, n, d, m, i, e + 1) = tk at *
    by_cases ce : e = 0
    · subst ce
      exact ⟨⟨hn, by omega, trivial⟩, rfl⟩
    · have es : ∃ x' y' t', stepS (a, v, x, y, t, n, d, m, i, e + 1) = (a, v, x', y', t', n, d, m + 1, nxtI a v m i (e + 1), e) := by
        unfold stepS
        simp only [if_neg hw', show ((if m = 0 then lenI (d 0) else e + 1) - 1 = 0) = False from eq_false (by rw [if_neg (by omega)]; omega), if_false]
        exact ⟨_, _, _, by rw [if_neg (show ¬ m = 0 by omega)]; rfl⟩
      obtain ⟨x', y', t', es⟩ := es
      obtain ⟨g1, g2⟩ := ih (m + 1) x' y' t' (nxtI a v m i (e + 1)) (K - tk) (by omega) (by omega) (by rw [hx]; rfl) (by omega)
      rw [es, g2]
      exact ⟨⟨hn, by omega, g1⟩, rfl⟩
theorem wm_0 {a v : Nat} {x y t : Int32} {n : Nat} {d : Nat → Itm} {i l : Nat} {K : Int} (hw : (d 0).2.2 ≤ 0) (hn : n ≠ 0) (hl : 1 ≤ lenI (d 0)) (hK : (mv a (cr v) (lenI (d 0)) : Int) ≤ K) : Rn (lenI (d 0)) K (a, v, x, y, t, n, d, 0, i, l) ∧ tsum (lenI (d 0)) (a, v, x, y, t, n, d, 0, i, l) = mv a (cr v) (lenI (d 0)) := by
  have hw' : ¬ 0 < (d 0).2.2 := by omega
  rw [← mv_ud] at hK ⊢
  generalize hlen : lenI (d 0) = len at *
  obtain ⟨e, rfl⟩ : ∃ e, len = e + 1 := ⟨len - 1, by omega⟩
  have htk : tkS (a, v, x, y, t, n, d, 0, i, l) = itv a (cr v) (min (min 0 (e + 1 - 1 - 0)) (topN a (cr v) 999)) := by
    show tkI a v (d 0).2.2 0 i l = _
    unfold tkI nxtI
    rw [if_neg hw', if_pos rfl]
    rw [Nat.zero_min, Nat.zero_min]
  rw [sumN_s] at hK ⊢
  have e1 : (fun i_1 => (fun j => itv a (cr v) (min (min j (e + 1 - 1 - j)) (topN a (cr v) 999))) (i_1 + 1)) = fun j => itv a (cr v) (min (min (1 + j) (e + 1 - 1 - (1 + j))) (topN a (cr v) 999)) := by
    funext j
    show itv a (cr v) (min (min (j + 1) (e + 1 - 1 - (j + 1))) (topN a (cr v) 999)) = _
    rw [show j + 1 = 1 + j by omega]
  rw [e1] at hK ⊢
  have e0 : itv a (cr v) (min (min 0 (e + 1 - 1 - 0)) (topN a (cr v) 999)) = tkS (a, v, x, y, t, n, d, 0, i, l) := htk.symm
  rw [e0] at hK ⊢
  show ((n ≠ 0 ∧ (tkS (a, v, x, y, t, n, d, 0, i, l) : Int) ≤ K ∧ Rn e (K - (tkS (a, v, x, y, t, n, d, 0, i, l) : Int)) (stepS (a, v, x, y, t, n, d, 0, i, l))) ∧ tkS (a, v, x, y, t, n, d, 0, i, l) + tsum e (stepS (a, v, x, y, t, n, d, 0, i, l)) = _)
  generalize tkS (a, v, x, y, t, n, d, 0, i, l) = tk at *
  by_cases ce : e = 0
  · subst ce
    exact ⟨⟨hn, by omega, trivial⟩, rfl⟩
  · have es : ∃ x' y' t', stepS (a, v, x, y, t, n, d, 0, i, l) = (a, v, x', y', t', n, d, 1, 0, e) := by
      unfold stepS
      have cc : ¬ (e + 1 - 1 = 0) := by omega
      simp only [if_neg hw', if_true, hlen, if_neg cc]
      exact ⟨_, _, _, rfl⟩
    obtain ⟨x', y', t', es⟩ := es
    obtain ⟨g1, g2⟩ := wm_1 (a := a) (v := v) (len := e + 1) hw hn e 1 x' y' t' 0 (K - tk) (by omega) (by omega) (by omega) (by omega)
    rw [es, g2]
    exact ⟨⟨hn, by omega, g1⟩, rfl⟩
theorem e5_next (N : Nat) {I : Mem} {k a v m i l : Nat} (h9 : I k 9 = zI (m : Int)) (h10 : 0 < m → I k 10 = zI (l : Int) ∧ I k 11 = zI (i : Int)) (hm : m ≤ 1000) (hl : 0 < m → 1 ≤ l ∧ l ≤ 1000 ∧ i ≤ l) : f5_nextIndex N I k (zI (topN a (cr v) 999 : Int)) = some (zI (nxtI a v m i l : Int), I) := by
  unfold nxtI
  have ht := topN_le a (cr v) 999
  generalize topN a (cr v) 999 = tp at *
  by_cases c : m = 0
  · subst c
    have h9' : I k 9 = zI 0 := h9
    unfold f5_nextIndex
    rw [if_pos rfl]
    simp (disch := omega) only [h9', letM_s, clP_s, clM_s, l_m89910, l_m999, l_m9, l_m4, l_m3, l_m2, l_m1, l_0, l_1, l_2, l_3, l_4, l_5, l_6, l_7, l_8, l_9, l_10, l_11, l_12, l_13, l_14, l_18, l_31, l_32, l_33, l_43, l_45, l_48, l_57, l_64, l_66, l_80, l_97, l_100, l_109, l_118, l_119, l_200, l_255, l_462, l_500, l_676, l_999, l_1000, l_1001, l_9999, l_10000, l_99999, l_100000, l_447214, l_1000000000, m_m999, m_m9, m_0, m_1, m_2, m_4, m_9, m_255, m_500, m_999, m_9999, m_10000, m_99999, m_200000000, m_4294967295, m_1442695040888963407, m_6364136223846793005, z_add, z_sub, z_mul, z_neg, y_add, y_sub, y_mul, y_neg, z_toL, y_toI, cmp_lt, cmp_gt, cmp_le, cmp_ge, z_lt, z_le, z_eq, y_lt, y_le, y_eq, if_pos, if_neg, ite_true, ite_false]
    rfl
  · rw [if_neg c]
    obtain ⟨q1, q2⟩ := h10 (by omega)
    obtain ⟨b1, b2, b3⟩ := hl (by omega)
    have hq : min (l - 1) tp ≤ 1000 := by omega
    have e1 := eJ_min N I (a := (l : Int) - 1) (b := (tp : Int)) (by omega) (by omega) (by omega) (by omega)
    rw [show min ((l : Int) - 1) (tp : Int) = ((min (l - 1) tp : Nat) : Int) by omega] at e1
    unfold idxA
    by_cases c1 : i + 1 ≤ min (l - 1) tp
    · rw [if_pos c1]
      generalize min (l - 1) tp = q at *
      unfold f5_nextIndex
      simp (disch := omega) only [h9, q1, q2, e1, letM_s, clP_s, clM_s, l_m89910, l_m999, l_m9, l_m4, l_m3, l_m2, l_m1, l_0, l_1, l_2, l_3, l_4, l_5, l_6, l_7, l_8, l_9, l_10, l_11, l_12, l_13, l_14, l_18, l_31, l_32, l_33, l_43, l_45, l_48, l_57, l_64, l_66, l_80, l_97, l_100, l_109, l_118, l_119, l_200, l_255, l_462, l_500, l_676, l_999, l_1000, l_1001, l_9999, l_10000, l_99999, l_100000, l_447214, l_1000000000, m_m999, m_m9, m_0, m_1, m_2, m_4, m_9, m_255, m_500, m_999, m_9999, m_10000, m_99999, m_200000000, m_4294967295, m_1442695040888963407, m_6364136223846793005, z_add, z_sub, z_mul, z_neg, y_add, y_sub, y_mul, y_neg, z_toL, y_toI, cmp_lt, cmp_gt, cmp_le, cmp_ge, z_lt, z_le, z_eq, y_lt, y_le, y_eq, if_pos, if_neg, ite_true, ite_false]
      rfl
    · rw [if_neg c1]
      by_cases c2 : i ≤ min (l - 1) tp
      · rw [if_pos c2]
        generalize min (l - 1) tp = q at *
        unfold f5_nextIndex
        simp (disch := omega) only [h9, q1, q2, e1, letM_s, clP_s, clM_s, l_m89910, l_m999, l_m9, l_m4, l_m3, l_m2, l_m1, l_0, l_1, l_2, l_3, l_4, l_5, l_6, l_7, l_8, l_9, l_10, l_11, l_12, l_13, l_14, l_18, l_31, l_32, l_33, l_43, l_45, l_48, l_57, l_64, l_66, l_80, l_97, l_100, l_109, l_118, l_119, l_200, l_255, l_462, l_500, l_676, l_999, l_1000, l_1001, l_9999, l_10000, l_99999, l_100000, l_447214, l_1000000000, m_m999, m_m9, m_0, m_1, m_2, m_4, m_9, m_255, m_500, m_999, m_9999, m_10000, m_99999, m_200000000, m_4294967295, m_1442695040888963407, m_6364136223846793005, z_add, z_sub, z_mul, z_neg, y_add, y_sub, y_mul, y_neg, z_toL, y_toI, cmp_lt, cmp_gt, cmp_le, cmp_ge, z_lt, z_le, z_eq, y_lt, y_le, y_eq, if_pos, if_neg, ite_true, ite_false]
      · rw [if_neg c2]
        generalize min (l - 1) tp = q at *
        unfold f5_nextIndex
        rw [Int.natCast_sub (by omega)]
        simp (disch := omega) only [h9, q1, q2, e1, letM_s, clP_s, clM_s, l_m89910, l_m999, l_m9, l_m4, l_m3, l_m2, l_m1, l_0, l_1, l_2, l_3, l_4, l_5, l_6, l_7, l_8, l_9, l_10, l_11, l_12, l_13, l_14, l_18, l_31, l_32, l_33, l_43, l_45, l_48, l_57, l_64, l_66, l_80, l_97, l_100, l_109, l_118, l_119, l_200, l_255, l_462, l_500, l_676, l_999, l_1000, l_1001, l_9999, l_10000, l_99999, l_100000, l_447214, l_1000000000, m_m999, m_m9, m_0, m_1, m_2, m_4, m_9, m_255, m_500, m_999, m_9999, m_10000, m_99999, m_200000000, m_4294967295, m_1442695040888963407, m_6364136223846793005, z_add, z_sub, z_mul, z_neg, y_add, y_sub, y_mul, y_neg, z_toL, y_toI, cmp_lt, cmp_gt, cmp_le, cmp_ge, z_lt, z_le, z_eq, y_lt, y_le, y_eq, if_pos, if_neg, ite_true, ite_false]
        rfl
theorem e5_mk_79 (N : Nat) {k k1 : Nat} {I : Mem} {K0 K : Int} (a2 : Int32) : f5_makeSteps_79 N k k1 a2 (zI K0) I (zI K) = some (st I k 4 (I k 4 + zI (K0 - K))) := by
  unfold f5_makeSteps_79
  simp only [letM_s, z_sub]
theorem e5_mk (N : Nat) {k k1 a v n : Nat} {d : Nat → Itm} {K0 : Int} {f : Nat} (hk : k1 + 1 < k ∨ k < k1) (hw : (d 0).2.2 ≤ 0) (hn : 0 < n) (hK0 : K0 ≤ 1000000000) (hf : f ≤ 1000) : ∀ (r cnt c : Nat) (K : Int) (I : Mem) (x y t : Int32) (m i l : Nat), c + r = f → r < cnt → OkS (a, v, x, y, t, n, d, m, i, l) → RampR I k1 a v → I k 9 = zI (m : Int) → I k 10 = zI (l0S (a, v, x, y, t, n, d, m, i, l) : Int) → (0 < m → I k 11 = zI (i : Int)) → r ≤ l0S (a, v, x, y, t, n, d, m, i, l) → 0 ≤ K → K ≤ K0 →
    ∃ I1 j, f5_makeSteps_6 N k k1 (zI (f : Int)) (zI K0) cnt I (zI K) (zI (c : Int)) = some I1 ∧ j ≤ r ∧ Rn j K (a, v, x, y, t, n, d, m, i, l) ∧ (j = r ∨ K - (tsum j (a, v, x, y, t, n, d, m, i, l) : Int) < (tkS (itS j (a, v, x, y, t, n, d, m, i, l)) : Int)) ∧ I1 k 4 = I k 4 + zI (K0 - (K - (tsum j (a, v, x, y, t, n, d, m, i, l) : Int))) ∧ I1 k 9 = zI ((m + j : Nat) : Int) ∧ I1 k 10 = zI ((l0S (a, v, x, y, t, n, d, m, i, l) - j : Nat) : Int) ∧ (0 < m + j → j < l0S (a, v, x, y, t, n, d, m, i, l) → I1 k 11 = zI (sI (itS j (a, v, x, y, t, n, d, m, i, l)) : Int)) ∧ (∀ q, q ≠ 4 → q ≠ 9 → q ≠ 10 → q ≠ 11 → I1 k q = I k q) ∧ ∀ z, z ≠ k → I1 z = I z := by
  intro r
  have h0 : ∀ (cnt c : Nat) (K : Int) (I : Mem), f ≤ c → c ≤ 1000 → f5_makeSteps_6 N k k1 (zI (f : Int)) (zI K0) (cnt + 1) I (zI K) (zI (c : Int)) = some (st I k 4 (I k 4 + zI (K0 - K))) := fun cnt c K I h1 h2 => by
    rw [f5_makeSteps_6]
    simp (disch := omega) only [z_le, if_pos, e5_mk_79]
  induction r with
  | zero =>
    intro cnt c K I x y t m i l h1 h2 hO hR h9 h10 h11 h3 h4 h5
    obtain ⟨cnt, rfl⟩ : ∃ x, cnt = x + 1 := ⟨cnt - 1, by omega⟩
    refine ⟨_, 0, h0 cnt c K I (by omega) (by omega), Nat.le_refl _, trivial, Or.inl rfl, ?_, by rw [st_j (by omega)]; exact h9, by rw [st_j (by omega)]; exact h10, fun q _ => by rw [st_j (by omega)]; exact h11 q, fun q a b c d => st_j a, fun z hz => st_k hz⟩
    rw [st_s]
    show _ = I k 4 + zI (K0 - (K - ((0 : Nat) : Int)))
    rw [show K - ((0 : Nat) : Int) = K by omega]
  | succ r ih =>
    intro cnt c K I x y t m i l h1 h2 hO hR h9 h10 h11 h3 h4 h5
    obtain ⟨cnt, rfl⟩ : ∃ x, cnt = x + 1 := ⟨cnt - 1, by omega⟩
    have hx := nxtI_le hO
    have hOn := OkS_step hO (show 0 < n from hn)
    obtain ⟨o1, o2, o3, o4, o5, o6, o7, o8⟩ := id hO
    have hw0 : (d 0).2.2 = 0 := by have := (o6 0 hn).2.2.2.2.1; omega
    have hlen := lenI_pos (o6 0 hn) hw0
    generalize hl0 : l0S (a, v, x, y, t, n, d, m, i, l) = l0 at *
    have hl0' : (if m = 0 then lenI (d 0) else l) = l0 := hl0
    have hml : m ≤ 999 ∧ l0 ≤ 999 ∧ (0 < m → l0 = l ∧ 1 ≤ l ∧ i ≤ l) := by
      by_cases cm : m = 0
      · rw [if_pos cm] at hl0'; exact ⟨by omega, by omega, fun q => by omega⟩
      · rw [if_neg cm] at hl0'
        obtain ⟨b1, b2, b3, b4, b5⟩ := o8 (by omega)
        exact ⟨by omega, by omega, fun _ => ⟨hl0'.symm, b4, b5⟩⟩
    obtain ⟨hm9, hl9, hml⟩ := hml
    have e1 := e5_next N (I := I) (k := k) (a := a) (v := v) (m := m) (i := i) (l := l) h9 (fun q => ⟨by rw [h10, (hml q).1], h11 q⟩) (by omega) (fun q => ⟨(hml q).2.1, by have := (hml q).1; omega, (hml q).2.2⟩)
    have e2 := e2_intervalOf N o1 o3 o4 hR (n := nxtI a v m i l) (by omega)
    have htk : tkS (a, v, x, y, t, n, d, m, i, l) = itv a (cr v) (nxtI a v m i l) := by
      show tkI a v (d 0).2.2 m i l = _
      unfold tkI
      rw [if_neg (by omega)]
    have hbd := tkS_bd hO (show 0 < n from hn)
    rw [← htk] at e2
    have hR3 : I k1 3 = zI (topN a (cr v) 999 : Int) := hR.2.2.2.1
    generalize htk2 : tkS (a, v, x, y, t, n, d, m, i, l) = tk at *
    by_cases cK : K < (tk : Int)
    · refine ⟨st I k 4 (I k 4 + zI (K0 - K)), 0, ?_, Nat.zero_le _, trivial, Or.inr ?_, ?_, by rw [st_j (by omega)]; exact h9, by rw [st_j (by omega)]; exact h10, fun q _ => by rw [st_j (by omega)]; exact h11 q, fun q a b c d => st_j a, fun z hz => st_k hz⟩
      · rw [f5_makeSteps_6, hR3]
        simp (disch := omega) only [e1, e2, e5_mk_79, clP_s, z_le, if_neg]
      · show K - ((0 : Nat) : Int) < (tkS (a, v, x, y, t, n, d, m, i, l) : Int)
        rw [htk2]
        omega
      · rw [st_s]
        show _ = I k 4 + zI (K0 - (K - ((0 : Nat) : Int)))
        rw [show K - ((0 : Nat) : Int) = K by omega]
    · obtain ⟨I2, hI2⟩ : ∃ I2, I2 = st (st (st I k 11 (zI (nxtI a v m i l : Int))) k 9 (zI ((m + 1 : Nat) : Int))) k 10 (zI ((l0 - 1 : Nat) : Int)) := ⟨_, rfl⟩
      have g : ∀ q, q ≠ 9 → q ≠ 10 → q ≠ 11 → I2 k q = I k q := fun q a b c => by rw [hI2, st_j b, st_j a, st_j c]
      have g9 : I2 k 9 = zI ((m + 1 : Nat) : Int) := by rw [hI2, st_j (by omega), st_s]
      have g10 : I2 k 10 = zI ((l0 - 1 : Nat) : Int) := by rw [hI2, st_s]
      have g11 : I2 k 11 = zI (nxtI a v m i l : Int) := by rw [hI2, st_j (by omega), st_j (by omega), st_s]
      have gx : ∀ z, z ≠ k → I2 z = I z := fun z hz => by rw [hI2, st_k hz, st_k hz, st_k hz]
      have hst : f5_makeSteps_6 N k k1 (zI (f : Int)) (zI K0) (cnt + 1) I (zI K) (zI (c : Int)) = f5_makeSteps_6 N k k1 (zI (f : Int)) (zI K0) cnt I2 (zI (K - tk)) (zI ((c + 1 : Nat) : Int)) := by
        have s9 : st I k 11 (zI (nxtI a v m i l : Int)) k 9 = zI (m : Int) := by rw [st_j (by omega)]; exact h9
        have s10 : st (st I k 11 (zI (nxtI a v m i l : Int))) k 9 (zI ((m : Int) + 1)) k 10 = zI (l0 : Int) := by rw [st_j (by omega), st_j (by omega)]; exact h10
        have uI : st (st (st I k 11 (zI (nxtI a v m i l : Int))) k 9 (zI ((m : Int) + 1))) k 10 (zI ((l0 : Int) - 1)) = I2 := by
          rw [hI2, show (l0 : Int) - 1 = ((l0 - 1 : Nat) : Int) by omega]
          rfl
        rw [f5_makeSteps_6, hR3]
        simp (disch := omega) only [e1, e2, e5_mk_79, clP_s, z_le, if_neg, if_pos, letM_s, z_sub, s9, s10, l_1, z_add, uI]
        rfl
      rw [hst]
      by_cases cr0 : r = 0
      · subst cr0
        obtain ⟨cnt, rfl⟩ : ∃ x, cnt = x + 1 := ⟨cnt - 1, by omega⟩
        have ets : tsum 1 (a, v, x, y, t, n, d, m, i, l) = tk := by
          show tkS (a, v, x, y, t, n, d, m, i, l) + 0 = tk
          rw [htk2]; rfl
        refine ⟨_, 1, h0 cnt (c + 1) (K - tk) I2 (by omega) (by omega), Nat.le_refl _, ⟨(show n ≠ 0 by omega), by rw [htk2]; omega, trivial⟩, Or.inl rfl, ?_, by rw [st_j (by omega)]; exact g9, by rw [st_j (by omega)]; exact g10, fun q q2 => ?_, fun q a b c d => by rw [st_j a, g q b c d], fun z hz => by rw [st_k hz, gx z hz]⟩
        · rw [st_s, g 4 (by omega) (by omega) (by omega), ets]
        · rw [st_j (by omega), g11]
          have es : sI (stepS (a, v, x, y, t, n, d, m, i, l)) = nxtI a v m i l := by
            unfold stepS
            simp only [if_neg (show ¬ 0 < (d 0).2.2 by omega), hl0', if_neg (show ¬ l0 - 1 = 0 by omega)]
          show _ = zI (sI (stepS (a, v, x, y, t, n, d, m, i, l)) : Int)
          rw [es]
      · obtain ⟨x', y', t', es⟩ : ∃ x' y' t', stepS (a, v, x, y, t, n, d, m, i, l) = (a, v, x', y', t', n, d, m + 1, nxtI a v m i l, l0 - 1) := by
          unfold stepS
          simp only [if_neg (show ¬ 0 < (d 0).2.2 by omega), hl0', if_neg (show ¬ l0 - 1 = 0 by omega)]
          exact ⟨_, _, _, rfl⟩
        rw [es] at hOn
        have hl1 : l0S (a, v, x', y', t', n, d, m + 1, nxtI a v m i l, l0 - 1) = l0 - 1 := by unfold l0S; exact if_neg (by omega)
        have hR2 : RampR I2 k1 a v := by
          unfold RampR
          rw [gx k1 (by omega), gx (k1 + 1) (by omega)]
          exact hR
        obtain ⟨I1, j, q1, q2, q3, q4, q5, q6, q7, q8, q9, q10⟩ := ih cnt (c + 1) (K - tk) I2 x' y' t' (m + 1) (nxtI a v m i l) (l0 - 1) (by omega) (by omega) hOn hR2 g9 (by rw [hl1]; exact g10) (fun _ => g11) (by rw [hl1]; omega) (by omega) (by omega)
        rw [hl1] at q7 q8
        have ets : (tk : Int) + (tsum j (stepS (a, v, x, y, t, n, d, m, i, l)) : Int) = (tsum (j+1) (a, v, x, y, t, n, d, m, i, l) : Int) := by
          show _ = ((tkS (a, v, x, y, t, n, d, m, i, l) + tsum j (stepS (a, v, x, y, t, n, d, m, i, l)) : Nat) : Int)
          rw [htk2]; rfl
        rw [← es] at q3 q4 q5 q8
        rw [show K - (tk : Int) - (tsum j (stepS (a, v, x, y, t, n, d, m, i, l)) : Int) = K - (tsum (j+1) (a, v, x, y, t, n, d, m, i, l) : Int) by omega] at q4 q5
        refine ⟨I1, j + 1, q1, by omega, ⟨(show n ≠ 0 by omega), by rw [htk2]; omega, by rw [htk2]; exact q3⟩, q4.imp (fun q => by omega) id, by rw [q5, g 4 (by omega) (by omega) (by omega)], by rw [q6, show m + 1 + j = m + (j + 1) by omega], by rw [q7, show l0 - 1 - j = l0 - (j + 1) by omega], fun a b => q8 (by omega) (by omega), fun q a b c d => by rw [q9 q a b c d, g q b c d], fun z hz => by rw [q10 z hz, gx z hz]⟩
