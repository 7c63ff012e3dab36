/-! the class' reader: distances, items -/
theorem nm0 {tl : Nat} {tx : Nat → Int} (h : OkT tl tx) {D p : Nat} (hp : p ≤ tl) : nmT tl tx D 0 p = dgT tl tx D p 0 := by
  have hb := dgT_bd h D p 0 1 (by omega) (by omega) hp
  unfold nmT
  generalize dgT tl tx D p 0 = r at *
  obtain ⟨o, q⟩ := r
  cases o with
  | none => rfl
  | some u =>
    have := (hb.2.2.2 u rfl).1
    simp only [if_pos this]
theorem e4_dist {N : Nat} {k tl p : Nat} {tx : Nat → Int} {F : Int32} {I : Mem} (hN : 100 ≤ N) (hT : OkT tl tx) (hp : p ≤ tl) (h : TxR I k tl tx p F) :
    ∃ I1 w p', f4_takeDistance N I k = some (zI w, I1) ∧ (match dsT tl tx 0 p with | (some u, q) => w = u ∧ -999 ≤ w ∧ w ≤ 999 ∧ p' = q ∧ p + 4 = q ∧ TxR I1 k tl tx p' F | (none, q) => w = 0 ∧ q ≤ 80 ∧ TxR I1 k tl tx p' (flt F q)) ∧ p' ≤ tl ∧ (∀ x, x ≠ k → I1 x = I x) := by
  have e1 := e4_present N hT hp h
  have hb := chT_bd hT p
  have ht := hT.1
  have hx2 := h.2.1
  unfold dsT
  by_cases c : chT tl tx p = 43 ∨ chT tl tx p = 45
  · have hp1 : p + 1 ≤ tl := by have := hb.2.2 (by omega); omega
    obtain ⟨I1, w, q1, q2, q3⟩ := e4_digits (N := N) (D := 3) hN hT (by omega) hp1 h.adv
    obtain ⟨b1, b2, b3, b4⟩ := dgT_bd hT 3 (p + 1) 0 1 (by omega) (by omega) hp1
    rw [nm0 hT hp1]
    generalize dgT tl tx 3 (p + 1) 0 = r at *
    obtain ⟨o, q⟩ := r
    have q1' : f4_takeDigits N (st I k 2 (zI ((p : Int) + 1))) k (zI 3) = some (zI w, I1) := q1
    have hw : 0 ≤ w ∧ w ≤ 999 := by
      cases o with
      | none => have := q2.1; omega
      | some u =>
        obtain ⟨j1, j2, j3⟩ := b4 u rfl
        have := q2.1
        have j2 : u < 1000 := j2
        omega
    by_cases c1 : chT tl tx p = 43
    · rw [c1] at e1
      simp only [if_pos c1]
      refine ⟨I1, w, q, ?_, ?_, b2, fun x hx => by rw [q3 x hx, st_k hx]⟩
      · unfold f4_takeDistance f4_takeDistance_27
        simp (disch := omega) only [e1, clP_s, l_43, l_45, l_3, l_1, z_eq, if_pos, if_neg, hx2, z_add, letM_s, q1', if_true]
      · cases o with
        | none => exact ⟨q2.1, by have : q ≤ tl := b2; omega, q2.2⟩
        | some u =>
          have := (b4 u rfl).2.2
          exact ⟨q2.1, by omega, by omega, rfl, by have : q = p + 1 + 3 := this; omega, q2.2⟩
    · have c2 : chT tl tx p = 45 := by omega
      rw [c2] at e1
      simp only [if_neg c1, if_pos c2]
      refine ⟨I1, -w, q, ?_, ?_, b2, fun x hx => by rw [q3 x hx, st_k hx]⟩
      · unfold f4_takeDistance f4_takeDistance_27
        simp (disch := omega) only [e1, clP_s, l_43, l_45, l_3, l_1, z_eq, if_pos, if_neg, hx2, z_add, z_neg, letM_s, q1', if_true]
      · cases o with
        | none => exact ⟨by have := q2.1; omega, by have : q ≤ tl := b2; omega, q2.2⟩
        | some u =>
          have := (b4 u rfl).2.2
          exact ⟨by have := q2.1; omega, by omega, by omega, rfl, by have : q = p + 1 + 3 := this; omega, q2.2⟩
  · have c1 : ¬ chT tl tx p = 43 := fun q => c (Or.inl q)
    have c2 : ¬ chT tl tx p = 45 := fun q => c (Or.inr q)
    simp only [if_neg c1, if_neg c2]
    obtain ⟨I1, q1, q2, q3⟩ := e4_fail N (q := p) h
    refine ⟨I1, 0, p, ?_, ⟨rfl, by omega, q2⟩, hp, q3⟩
    generalize chT tl tx p = C at *
    unfold f4_takeDistance
    simp (disch := omega) only [e1, clP_s, l_0, l_43, l_45, z_eq, if_neg, hx2, q1, clM_s]
/-- an item -/
def itT (tl : Nat) (tx : Nat → Int) (p : Nat) : Option Itm × Nat :=
  if chT tl tx p = 119 then (match nmT tl tx 4 1 (p + 1) with | (some v, q) => (some (0, 0, v), q) | (none, q) => (none, q))
  else if chT tl tx p = 109 then (match dsT tl tx 0 (p + 1) with
    | (none, q) => (none, q)
    | (some dx, q) => match dsT tl tx (if dx = 0 then 1 else 0) q with
      | (none, q') => (none, q')
      | (some dy, q') => (some (dx, dy, 0), q'))
  else (none, p)
theorem ds1 {tl : Nat} {tx : Nat → Int} (h : OkT tl tx) {p : Nat} (hp : p ≤ tl) : dsT tl tx 1 p = match dsT tl tx 0 p with | (some v, q) => if v = 0 then (none, q - 1) else (some v, q) | (none, q) => (none, q) := by
  unfold dsT
  by_cases c : chT tl tx p = 43 ∨ chT tl tx p = 45
  · have hp1 : p + 1 ≤ tl := by have := (chT_bd h p).2.2 (by omega); omega
    rw [nm0 h hp1]
    have hb := dgT_bd h 3 (p + 1) 0 1 (by omega) (by omega) hp1
    unfold nmT
    generalize dgT tl tx 3 (p + 1) 0 = r at *
    obtain ⟨o, q⟩ := r
    cases o with
    | none =>
      by_cases c1 : chT tl tx p = 43
      · simp only [if_pos c1]
      · simp only [if_neg c1, if_pos (show chT tl tx p = 45 by omega)]
    | some u =>
      have hu := (hb.2.2.2 u rfl).1
      by_cases c1 : chT tl tx p = 43
      · simp only [if_pos c1]
        by_cases cu : u = 0
        · simp only [if_pos cu, if_neg (show ¬ 1 ≤ u by omega)]
        · simp only [if_neg cu, if_pos (show 1 ≤ u by omega)]
      · simp only [if_neg c1, if_pos (show chT tl tx p = 45 by omega)]
        by_cases cu : u = 0
        · simp only [if_neg (show ¬ 1 ≤ u by omega), if_pos (show -u = 0 by omega)]
        · simp only [if_pos (show 1 ≤ u by omega), if_neg (show ¬ -u = 0 by omega)]
  · simp only [if_neg (fun q => c (Or.inl q)), if_neg (fun q => c (Or.inr q))]
