/-! RUNS of steps; the reference's public methods but the text's -/
abbrev nS (s : Sg) : Nat := s.2.2.2.2.2.1
def runS : Nat → Int → Sg → Nat × Sg
  | 0, _, s => (0, s)
  | f+1, K, s => if nS s = 0 ∨ K < (tkS s : Int) then (0, s) else ((runS f (K - (tkS s : Int)) (stepS s)).1 + 1, (runS f (K - (tkS s : Int)) (stepS s)).2)
theorem runS_ok : ∀ (f : Nat) (K : Int) (s : Sg), OkS s → OkS (runS f K s).2 := by
  intro f
  induction f with
  | zero => intro K s h; exact h
  | succ f ih =>
    intro K s h
    unfold runS
    by_cases c : nS s = 0 ∨ K < (tkS s : Int)
    · rw [if_pos c]; exact h
    · rw [if_neg c]
      exact ih _ _ (OkS_step h (Nat.pos_of_ne_zero (fun q => c (Or.inl q))))
theorem runS_le : ∀ (f : Nat) (K : Int) (s : Sg), (runS f K s).1 ≤ f := by
  intro f
  induction f with
  | zero => intro K s; exact Nat.le_refl _
  | succ f ih =>
    intro K s
    unfold runS
    by_cases c : nS s = 0 ∨ K < (tkS s : Int)
    · rw [if_pos c]; exact Nat.zero_le _
    · rw [if_neg c]; have := ih (K - (tkS s : Int)) (stepS s); show _ + 1 ≤ f + 1; omega
/-- more rounds than steps are left change nothing -/
theorem runS_fuel : ∀ (f f' : Nat) (K : Int) (s : Sg), OkS s → mu s ≤ f → mu s ≤ f' → runS f K s = runS f' K s := by
  intro f
  induction f with
  | zero =>
    intro f' K s h h1 h2
    have hn : nS s = 0 := by
      rcases Nat.eq_zero_or_pos (nS s) with q | q
      · exact q
      · have := mu_step h q; omega
    cases f' with
    | zero => rfl
    | succ f' => rw [runS, runS, if_pos (Or.inl hn)]
  | succ f ih =>
    intro f' K s h h1 h2
    by_cases c : nS s = 0 ∨ K < (tkS s : Int)
    · cases f' with
      | zero => rw [show runS (f+1) K s = (0, s) from by rw [runS, if_pos c]]; rfl
      | succ f' => rw [show runS (f+1) K s = (0, s) from by rw [runS, if_pos c], show runS (f'+1) K s = (0, s) from by rw [runS, if_pos c]]
    · have hn : 0 < nS s := Nat.pos_of_ne_zero (fun q => c (Or.inl q))
      have hm := mu_step h hn
      cases f' with
      | zero => omega
      | succ f' =>
        have e := ih f' (K - (tkS s : Int)) (stepS s) (OkS_step h hn) (by omega) (by omega)
        rw [show runS (f+1) K s = ((runS f (K - (tkS s : Int)) (stepS s)).1 + 1, (runS f (K - (tkS s : Int)) (stepS s)).2) from by rw [runS, if_neg c], e, show runS (f'+1) K s = ((runS f' (K - (tkS s : Int)) (stepS s)).1 + 1, (runS f' (K - (tkS s : Int)) (stepS s)).2) from by rw [runS, if_neg c]]
theorem runS_mu : ∀ (f : Nat) (K : Int) (s : Sg), OkS s → (runS f K s).1 ≤ mu s := by
  intro f
  induction f with
  | zero => intro K s h; exact Nat.zero_le _
  | succ f ih =>
    intro K s h
    unfold runS
    by_cases c : nS s = 0 ∨ K < (tkS s : Int)
    · rw [if_pos c]; exact Nat.zero_le _
    · rw [if_neg c]
      have hn : 0 < nS s := Nat.pos_of_ne_zero (fun q => c (Or.inl q))
      have := ih (K - (tkS s : Int)) (stepS s) (OkS_step h hn)
      have := mu_step h hn
      show _ + 1 ≤ mu s
      omega
/-- no step takes longer than this -/
theorem tkS_bd {s : Sg} (h : OkS s) (hn : 0 < nS s) : 1 ≤ tkS s ∧ tkS s ≤ 20000 := by
  obtain ⟨a, v, x, y, t, n, d, m, i, l⟩ := s
  have hn : 0 < n := hn
  obtain ⟨h1, h2, h3, h4, h5, h6, h7, h8⟩ := h
  show 1 ≤ tkI a v (d 0).2.2 m i l ∧ tkI a v (d 0).2.2 m i l ≤ 20000
  have hi := h6 0 hn
  obtain ⟨-, -, -, -, w1, w2, -⟩ := hi
  unfold tkI
  by_cases c : 0 < (d 0).2.2
  · rw [if_pos c]; omega
  · rw [if_neg c]
    have b1 := cr_bd h3 h4
    have b2 := R_flat (n := 0) (m := nxtI a v m i l) h1 (Nat.zero_le _)
    have b3 : T a 1 ≤ 14143 := by
      have q1 := T_le h1 1
      have q2 : 1 * (T a 1 * T a 1) ≤ a * (T a 1 * T a 1) := Nat.mul_le_mul_right _ h1
      have q3 : T a 1 * T a 1 < 14144 * 14144 := by omega
      have := sq_lt q3
      omega
    have b4 := T_R a 0
    have b5 := T_0 a
    rw [Nat.zero_add] at b4
    unfold itv
    generalize Rr a (nxtI a v m i l) = q at *
    generalize cr v = c at *
    exact ⟨Nat.le_trans (by omega) (Nat.le_max_right q c), Nat.max_le.mpr ⟨by omega, by omega⟩⟩
/-! the whole state: text, state, remembered states, slots -/
abbrev GS : Type := Nat × (Nat → Int) × Sg × Nat × Nat × (Nat → Sg) × (Nat → Option Sg)
def remG : GS → GS
  | (tl, tx, s, hc, he, hh, sv) => (tl, tx, s, min (hc + 1) 14, he + 1, fun i => if i = 0 then s else hh (i - 1), sv)
def setG : GS → Sg → GS
  | (tl, tx, _, hc, he, hh, sv), s => (tl, tx, s, hc, he, hh, sv)
def OkG : GS → Prop
  | (tl, tx, s, hc, he, hh, sv) => tl ≤ 80 ∧ (∀ j, j < tl → 0 ≤ tx j ∧ tx j ≤ 255) ∧ OkS s ∧ hc ≤ 14 ∧ hc ≤ he ∧ he ≤ 100000 ∧ (∀ i, i < hc → OkS (hh i)) ∧ ∀ b z, sv b = some z → OkS z
def sG (g : GS) : Sg := g.2.2.1
theorem OkG.S {g : GS} (h : OkG g) : OkS (sG g) := h.2.2.1
theorem setG_self (g : GS) : setG g (sG g) = g := by
  obtain ⟨tl, tx, s0, hc, he, hh, sv⟩ := g
  rfl
theorem OkG.set {g : GS} {s : Sg} (h : OkG g) (hs : OkS s) : OkG (setG g s) := by
  obtain ⟨tl, tx, s0, hc, he, hh, sv⟩ := g
  obtain ⟨h1, h2, h3, h4, h5, h6, h7, h8⟩ := h
  exact ⟨h1, h2, hs, h4, h5, h6, h7, h8⟩
theorem OkG.rem {g : GS} (h : OkG g) (he : g.2.2.2.2.1 < 100000) : OkG (remG g) := by
  obtain ⟨tl, tx, s0, hc, he', hh, sv⟩ := g
  have he : he' < 100000 := he
  obtain ⟨h1, h2, h3, h4, h5, h6, h7, h8⟩ := h
  refine ⟨h1, h2, h3, by omega, by omega, by omega, fun i hi => ?_, h8⟩
  by_cases c : i = 0
  · show OkS (if i = 0 then s0 else hh (i - 1)); rw [if_pos c]; exact h3
  · show OkS (if i = 0 then s0 else hh (i - 1)); rw [if_neg c]; exact h7 _ (by omega)
theorem setG_set (g : GS) (s s' : Sg) : setG (setG g s) s' = setG g s' := by
  obtain ⟨tl, tx, s0, hc, he, hh, sv⟩ := g
  rfl
theorem sG_set (g : GS) (s : Sg) : sG (setG g s) = s := by
  obtain ⟨tl, tx, s0, hc, he, hh, sv⟩ := g
  rfl
theorem sG_rem (g : GS) : sG (remG g) = sG g := by
  obtain ⟨tl, tx, s0, hc, he, hh, sv⟩ := g
  rfl
