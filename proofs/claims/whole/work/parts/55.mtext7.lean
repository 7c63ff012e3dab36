/-! the reference's reader: readItem -/
theorem fp_in (N : Nat) (I : Mem) {z : Int} (h1 : -100000 ≤ z) (h2 : z ≤ 100000) : f7_in N I (yI z) (yI (-999)) (yI 999) = some (zI (if -999 ≤ z ∧ z ≤ 999 then 1 else 0), I) := e7_in N I (by omega) (by omega) (by omega) (by omega) (by omega) (by omega)
theorem e7_ri_full (N : Nat) {k : Nat} {I : Mem} (h : I (k+4) 5 = zI 8) : f7_readItem N I k = some (zI 0, I) := by
  unfold f7_readItem
  rw [h, l_8, l_0]
  simp only [letM_s, if_true]
theorem e7_ri_wait {N : Nat} {k tl p n : Nat} {tx : Nat → Int} {I : Mem} (hN : 100 ≤ N) (hT : OkT tl tx) (hp : p ≤ tl) (hn : n < 8) (h5 : I (k+4) 5 = zI (n : Int)) (h : TmR I k tl tx p) (c : chT tl tx p = 119) :
    ∃ I1, f7_readItem N I k = some (zI (if (nmT tl tx 4 1 (p + 1)).1 = none then 0 else 1), I1) ∧ TmR I1 k tl tx (nmT tl tx 4 1 (p + 1)).2 ∧ (∀ x, x ≠ k → x ≠ k + 4 → I1 x = I x) ∧ (∀ j, j ≠ 2 → I1 k j = I k j) ∧ I1 (k+4) 5 = zI ((n + 1 : Nat) : Int) ∧ I1 (k+4) (9 + 3 * n + 2) = zI ((nmT tl tx 4 1 (p + 1)).1.getD (-9)) ∧ ∀ j, j ≠ 5 → j ≠ 9 + 3 * n + 2 → I1 (k+4) j = I (k+4) j := by
  have ht := hT.1
  have hp1 : p + 1 ≤ tl := by have := (chT_bd hT p).2.2 (by omega); omega
  obtain ⟨I2, t1, t2, t3⟩ := e7_takes N (c := 119) (by omega) (by omega) hT hp h
  rw [if_pos c] at t1 t2
  obtain ⟨I3, u1, u2, u3⟩ := e7_num (N := N) (D := 4) (least := 1) hN hT (by omega) (by omega) (by omega) (by omega) hp1 t2
  have nb := nmT_bd hT (D := 4) (p := p + 1) (least := 1) (by omega) hp1
  have hF := t3.tr u3
  have u1' : f7_number N I2 k (zI 4) (zI 1) = _ := u1
  have n1 : (zI (9 + 3 * (n : Int) + 2)).toNatClampNeg = 9 + 3 * n + 2 := by rw [z_nat (by omega) (by omega)]; omega
  generalize nmT tl tx 4 1 (p + 1) = r at *
  obtain ⟨o, q⟩ := r
  have hw : ∃ w : Int, o.getD (-9) = w ∧ -9 ≤ w ∧ w < 10000 ∧ (w = -9 ↔ o = none) := by
    cases o with
    | none => exact ⟨-9, rfl, by omega, by omega, by simp⟩
    | some u =>
      obtain ⟨-, a2, a3, -⟩ := nb.2 u rfl
      have a3 : u < 10000 := a3
      exact ⟨u, rfl, by omega, a3, ⟨fun e => by omega, fun e => by cases e⟩⟩
  obtain ⟨w, hw0, hw1, hw2, hw3⟩ := hw
  have u1'' : f7_number N I2 k (zI 4) (zI 1) = some (zI w, I3) := by rw [u1', ← hw0]
  have s5 : I3 (k+4) 5 = zI (n : Int) := by rw [hF.1 _ (by omega)]; exact h5
  obtain ⟨I4, hI4⟩ : ∃ I4, I4 = st I3 (k+4) (9 + 3 * n + 2) (zI w) := ⟨_, rfl⟩
  obtain ⟨I5, hI5⟩ : ∃ I5, I5 = st I4 (k+4) 5 (zI ((n + 1 : Nat) : Int)) := ⟨_, rfl⟩
  have s45 : I4 (k+4) 5 = zI (n : Int) := by rw [hI4, st_j (by omega)]; exact s5
  have s5w : I5 (k+4) (9 + 3 * n + 2) = zI w := by rw [hI5, st_j (by omega), hI4, st_s]
  have k5 : I5 k = I3 k := by rw [hI5, st_k (by omega), hI4, st_k (by omega)]
  refine ⟨I5, ?_, ?_, fun x a b => by rw [hI5, st_k b, hI4, st_k b, hF.1 x a], fun j a => by rw [k5, hF.2 j a], by rw [hI5, st_s], by rw [s5w]; exact congrArg zI hw0.symm, fun j a b => by rw [hI5, st_j a, hI4, st_j b, hF.1 _ (by omega)]⟩
  · have hst : f7_readItem N I k = if zI w = zI (-9) then some (zI 0, I5) else some (zI 1, I5) := by
      unfold f7_readItem
      rw [h5, l_m9, l_8, l_119, l_0, l_1, l_2, l_3, l_4, l_9]
      have uI5 : st I4 (k+4) 5 (zI ((n : Int) + 1)) = I5 := hI5.symm
      simp (disch := omega) only [letM_s, z_mul, z_add, z_eq, z_lt, if_neg, if_pos, t1, clP_s, u1'', n1, or_false, false_or, if_false, ← hI4, s45, uI5, s5w]
    rw [hst]
    by_cases e : o = none
    · have hwe := hw3.mpr e
      rw [if_pos (by rw [hwe]), if_pos e]
    · have hwe : ¬ w = -9 := fun z => e (hw3.mp z)
      rw [if_neg (by rw [z_eq (by omega) (by omega) (by omega) (by omega)]; exact hwe), if_neg e]
  · obtain ⟨y1, y2, y3⟩ := u2
    exact ⟨by rw [k5]; exact y1, by rw [k5]; exact y2, fun j hj => by rw [hI5, st_k (by omega), hI4, st_k (by omega)]; exact y3 j hj⟩
