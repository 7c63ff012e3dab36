/-! the reference's reader: what an item may be; the move's second distance -/
theorem ds_bd {tl : Nat} {tx : Nat → Int} (h : OkT tl tx) {p : Nat} {least : Int} (hl : 0 ≤ least) (hp : p ≤ tl) : (dsT tl tx least p).2 ≤ tl ∧ ∀ u, (dsT tl tx least p).1 = some u → -999 ≤ u ∧ u ≤ 999 ∧ (1 ≤ least → u ≠ 0) := by
  have hb := chT_bd h p
  unfold dsT
  by_cases c : chT tl tx p = 43
  · rw [if_pos c]
    have nb := nmT_bd h (D := 3) (p := p + 1) (least := least) (by omega) (by have := hb.2.2 (by omega); omega)
    refine ⟨nb.1, fun u hu => ?_⟩
    obtain ⟨a1, a2, a3, a4⟩ := nb.2 u hu
    have a3 : u < 1000 := a3
    exact ⟨by omega, by omega, fun q => by omega⟩
  · rw [if_neg c]
    by_cases c2 : chT tl tx p = 45
    · rw [if_pos c2]
      have nb := nmT_bd h (D := 3) (p := p + 1) (least := least) (by omega) (by have := hb.2.2 (by omega); omega)
      generalize nmT tl tx 3 least (p + 1) = r at *
      obtain ⟨o, q⟩ := r
      cases o with
      | none => exact ⟨nb.1, fun u hu => by cases hu⟩
      | some v =>
        obtain ⟨a1, a2, a3, a4⟩ := nb.2 v rfl
        have a3 : v < 1000 := a3
        refine ⟨nb.1, fun u hu => ?_⟩
        have hu : some (-v) = some u := hu
        have hu := Option.some.inj hu
        exact ⟨by omega, by omega, fun q => by omega⟩
    · rw [if_neg c2]
      exact ⟨hp, fun u hu => by cases hu⟩
theorem it_ok {tl : Nat} {tx : Nat → Int} (h : OkT tl tx) {p : Nat} (hp : p ≤ tl) : (itT tl tx p).2 ≤ tl ∧ ∀ d, (itT tl tx p).1 = some d → ItOk d := by
  have hb := chT_bd h p
  unfold itT
  by_cases c1 : chT tl tx p = 119
  · rw [if_pos c1]
    have nb := nmT_bd h (D := 4) (p := p + 1) (least := 1) (by omega) (by have := hb.2.2 (by omega); omega)
    generalize nmT tl tx 4 1 (p + 1) = r at *
    obtain ⟨o, q⟩ := r
    cases o with
    | none => exact ⟨nb.1, fun u hu => by cases hu⟩
    | some w =>
      obtain ⟨a1, a2, a3, a4⟩ := nb.2 w rfl
      have a3 : w < 10000 := a3
      refine ⟨nb.1, fun d hd => ?_⟩
      have hd : some ((0, 0, w) : Itm) = some d := hd
      have hd := Option.some.inj hd
      subst hd
      exact (show (-999 : Int) ≤ 0 ∧ (0 : Int) ≤ 999 ∧ (-999 : Int) ≤ 0 ∧ (0 : Int) ≤ 999 ∧ 0 ≤ w ∧ w ≤ 9999 ∧ (w = 0 → (0 : Int) ≠ 0 ∨ (0 : Int) ≠ 0) from ⟨by decide, by decide, by decide, by decide, by omega, by omega, fun z => by omega⟩)
  · rw [if_neg c1]
    by_cases c2 : chT tl tx p = 109
    · rw [if_pos c2]
      have nb := ds_bd h (p := p + 1) (least := 0) (Int.le_refl _) (by have := hb.2.2 (by omega); omega)
      generalize dsT tl tx 0 (p + 1) = r at *
      obtain ⟨o, q⟩ := r
      cases o with
      | none => exact ⟨nb.1, fun u hu => by cases hu⟩
      | some dx =>
        obtain ⟨a1, a2, -⟩ := nb.2 dx rfl
        have hl : (0 : Int) ≤ (if dx = 0 then (1 : Int) else 0) := by by_cases e : dx = 0 <;> simp [e]
        have hl1 : dx = 0 → (1 : Int) ≤ (if dx = 0 then (1 : Int) else 0) := fun e => by rw [if_pos e]; exact Int.le_refl _
        have nb2 := ds_bd h (p := q) hl nb.1
        dsimp only
        generalize dsT tl tx (if dx = 0 then (1 : Int) else 0) q = r2 at *
        obtain ⟨o2, q2⟩ := r2
        cases o2 with
        | none => exact ⟨nb2.1, fun u hu => by cases hu⟩
        | some dy =>
          obtain ⟨b1, b2, b3⟩ := nb2.2 dy rfl
          refine ⟨nb2.1, fun d hd => ?_⟩
          have hd : some ((dx, dy, 0) : Itm) = some d := hd
          have hd := Option.some.inj hd
          subst hd
          exact (show (-999 : Int) ≤ dx ∧ dx ≤ 999 ∧ (-999 : Int) ≤ dy ∧ dy ≤ 999 ∧ (0 : Int) ≤ 0 ∧ (0 : Int) ≤ 9999 ∧ ((0 : Int) = 0 → dx ≠ 0 ∨ dy ≠ 0) from ⟨a1, a2, b1, b2, by decide, by decide, fun _ => by
            by_cases e : dx = 0
            · exact Or.inr (b3 (hl1 e))
            · exact Or.inl e⟩)
    · rw [if_neg c2]
      exact ⟨hp, fun u hu => by cases hu⟩
theorem e7_ri_142 {N : Nat} {k tl p n : Nat} {tx : Nat → Int} {I : Mem} {least : Int} (hN : 100 ≤ N) (hT : OkT tl tx) (hl : 0 ≤ least) (hl2 : least ≤ 1) (hp : p ≤ tl) (hn : n < 8) (h5 : I (k+4) 5 = zI (n : Int)) (h : TmR I k tl tx p) :
    ∃ I1, f7_readItem_142 N k I (zI (9 + 3 * (n : Int))) (zI least) (zI (9 + 3 * (n : Int) + 1)) = some (zI (if (dsT tl tx least p).1 = none then 0 else 1), I1) ∧ TmR I1 k tl tx (dsT tl tx least p).2 ∧ (∀ x, x ≠ k → x ≠ k + 4 → I1 x = I x) ∧ (∀ j, j ≠ 2 → I1 k j = I k j) ∧ I1 (k+4) 5 = zI ((n + 1 : Nat) : Int) ∧ I1 (k+4) (9 + 3 * n + 1) = zI ((dsT tl tx least p).1.getD (-89910)) ∧ ∀ j, j ≠ 5 → j ≠ 9 + 3 * n + 1 → I1 (k+4) j = I (k+4) j := by
  have ht := hT.1
  obtain ⟨I3, u1, u2, u3⟩ := e7_sgn (N := N) (least := least) hN hT hl hl2 hp h
  have nb := ds_bd hT hl hp
  have n1 : (zI (9 + 3 * (n : Int) + 1)).toNatClampNeg = 9 + 3 * n + 1 := by rw [z_nat (by omega) (by omega)]; omega
  generalize dsT tl tx least p = r at *
  obtain ⟨o, q⟩ := r
  have hw : ∃ w : Int, o.getD (-89910) = w ∧ -89910 ≤ w ∧ w ≤ 999 ∧ (¬ (-999 ≤ w ∧ w ≤ 999) ↔ o = none) := by
    cases o with
    | none => exact ⟨-89910, rfl, by omega, by omega, by simp⟩
    | some u =>
      obtain ⟨a2, a3, -⟩ := nb.2 u rfl
      exact ⟨u, rfl, by omega, a3, ⟨fun e => by omega, fun e => by cases e⟩⟩
  obtain ⟨w, hw0, hw1, hw2, hw3⟩ := hw
  have u1'' : f7_signedNumber N I k (zI least) = some (zI w, I3) := by rw [u1]; exact congrArg (fun z => some (zI z, I3)) hw0
  have s5 : I3 (k+4) 5 = zI (n : Int) := by rw [u3.1 _ (by omega)]; exact h5
  obtain ⟨I4, hI4⟩ : ∃ I4, I4 = st I3 (k+4) (9 + 3 * n + 1) (zI w) := ⟨_, rfl⟩
  obtain ⟨I5, hI5⟩ : ∃ I5, I5 = st I4 (k+4) 5 (zI ((n + 1 : Nat) : Int)) := ⟨_, rfl⟩
  have s45 : I4 (k+4) 5 = zI (n : Int) := by rw [hI4, st_j (by omega)]; exact s5
  have s5w : I5 (k+4) (9 + 3 * n + 1) = zI w := by rw [hI5, st_j (by omega), hI4, st_s]
  have k5 : I5 k = I3 k := by rw [hI5, st_k (by omega), hI4, st_k (by omega)]
  have uI5 : st I4 (k+4) 5 (zI ((n : Int) + 1)) = I5 := hI5.symm
  have ei := fp_in N I5 (z := w) (by omega) (by omega)
  refine ⟨I5, ?_, ?_, fun x a b => by rw [hI5, st_k b, hI4, st_k b, u3.1 x a], fun j a => by rw [k5, u3.2 j a], by rw [hI5, st_s], by rw [s5w]; exact congrArg zI hw0.symm, fun j a b => by rw [hI5, st_j a, hI4, st_j b, u3.1 _ (by omega)]⟩
  · unfold f7_readItem_142
    rw [l_0, l_1, m_m999, m_999]
    by_cases e : o = none
    · rw [if_pos e]
      rw [if_neg (hw3.mpr e)] at ei
      simp (disch := omega) only [u1'', clP_s, letM_s, z_add, z_lt, n1, if_neg, ← hI4, s45, uI5, s5w, z_toL, ei, z_eq, true_or, or_true, not_true, if_false]
    · rw [if_neg e]
      rw [if_pos (show -999 ≤ w ∧ w ≤ 999 from Decidable.byContradiction (fun z => e (hw3.mp z)))] at ei
      simp (disch := omega) only [u1'', clP_s, letM_s, z_add, z_lt, n1, if_neg, ← hI4, s45, uI5, s5w, z_toL, ei, z_eq, true_or, or_true, not_true, if_false]
  · obtain ⟨y1, y2, y3⟩ := u2
    exact ⟨by rw [k5]; exact y1, by rw [k5]; exact y2, fun j hj => by rw [hI5, st_k (by omega), hI4, st_k (by omega)]; exact y3 j hj⟩
