/-! the reference's reader: numbers whole, distances -/
theorem e7_num {N : Nat} {k D tl p : Nat} {tx : Nat → Int} {least : Int} {I : Mem} (hN : 100 ≤ N) (hT : OkT tl tx) (hD : D ≤ 4) (hD1 : 1 ≤ D) (hl : 0 ≤ least) (hl2 : least ≤ 1) (hp : p ≤ tl) (h : TmR I k tl tx p) :
    ∃ I1, f7_number N I k (zI (D : Int)) (zI least) = some (zI ((nmT tl tx D least p).1.getD (-9)), I1) ∧ TmR I1 k tl tx (nmT tl tx D least p).2 ∧ Fp I I1 k := by
  obtain ⟨I1, q1, q2, q3⟩ := e7_num_5 N (k := k) hT hD hl hl2 D N I p 0 (Nat.le_refl _) (by omega) hp (Int.le_refl _) (by rw [Nat.sub_self]; decide) h
  obtain ⟨d, rfl⟩ : ∃ d, D = d + 1 := ⟨D - 1, by omega⟩
  have e : nlT tl tx least (d + 1) p 0 = nmT tl tx (d + 1) least p := nlT_eq d p 0
  rw [e, Nat.sub_self] at q1
  rw [e] at q2
  exact ⟨I1, q1, q2, q3⟩
theorem e7_sgn_61 {N : Nat} {k tl p : Nat} {tx : Nat → Int} {least : Int} {I : Mem} {v s0 s1 : Int32} (hN : 100 ≤ N) (hT : OkT tl tx) (hl : 0 ≤ least) (hl2 : least ≤ 1) (hp : p ≤ tl) (h : TmR (st I k 2 (s1 + s0)) k tl tx p) (hv : v = zI 0 ∨ v = zI 1) :
    ∃ I1, f7_signedNumber_61 N k (zI least) I v s0 s1 = some (zI (match (nmT tl tx 3 least p).1 with | some u => if v = zI 0 then u else -u | none => -89910), I1) ∧ TmR I1 k tl tx (nmT tl tx 3 least p).2 ∧ Fp I I1 k := by
  obtain ⟨I1, q1, q2, q3⟩ := e7_num (N := N) (D := 3) hN hT (by omega) (by omega) hl hl2 hp h
  have nb := nmT_bd hT (D := 3) (p := p) (least := least) (by omega) hp
  have q1' : f7_number N (st I k 2 (s1 + s0)) k (zI 3) (zI least) = _ := q1
  generalize nmT tl tx 3 least p = r at *
  obtain ⟨o, q⟩ := r
  refine ⟨I1, ?_, q2, Fp.st.tr q3⟩
  unfold f7_signedNumber_61
  rw [l_3]
  simp only [letM_s, q1', clP_s]
  cases o with
  | none => rfl
  | some u =>
    obtain ⟨-, u2, u3, -⟩ := nb.2 u rfl
    have u3 : u < 1000 := u3
    have hne : ¬ zI u = (-9 : Int32) := by
      rw [l_m9, z_eq (by omega) (by omega) (by omega) (by omega)]
      omega
    show (if zI u = (-9 : Int32) then _ else _) = _
    rw [if_neg hne]
    rcases hv with rfl | rfl
    · rfl
    · have h1 : ¬ (zI 1 = zI 0) := by decide
      have h2 : ¬ (zI 1 = (0 : Int32)) := by decide
      simp only [if_neg h1, if_neg h2]
      show some (-(zI u), I1) = _
      rw [z_neg]
