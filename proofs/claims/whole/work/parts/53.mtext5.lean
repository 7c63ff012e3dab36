/-! the reference's reader: a signed number -/
theorem e7_sgn {N : Nat} {k tl p : Nat} {tx : Nat → Int} {least : Int} {I : Mem} (hN : 100 ≤ N) (hT : OkT tl tx) (hl : 0 ≤ least) (hl2 : least ≤ 1) (hp : p ≤ tl) (h : TmR I k tl tx p) :
    ∃ I1, f7_signedNumber N I k (zI least) = some (zI ((dsT tl tx least p).1.getD (-89910)), I1) ∧ TmR I1 k tl tx (dsT tl tx least p).2 ∧ Fp I I1 k := by
  obtain ⟨x1, x2, x3⟩ := id h
  have ht := hT.1
  have hb := chT_bd hT p
  have n1 : (zI (p : Int)).toNatClampNeg = p := by rw [z_nat (by omega) (by omega)]; rfl
  have hz1 : ¬ (zI 1 = zI 0) := by decide
  unfold dsT
  by_cases c45 : chT tl tx p = 45
  · have hlt : p < tl := hb.2.2 (by omega)
    have hx := x3 p hlt
    have hxc : tx p = 45 := by rw [← c45]; unfold chT; rw [if_pos hlt]
    obtain ⟨I1, q1, q2, q3⟩ := e7_sgn_61 (N := N) (p := p + 1) (least := least) (I := I) (v := zI 1) (s0 := zI 1) (s1 := zI (p : Int)) hN hT hl hl2 (by omega) (by rw [z_add]; exact h.adv) (Or.inr rfl)
    rw [if_neg (show ¬ chT tl tx p = 43 by omega), if_pos c45]
    have hst : f7_signedNumber N I k (zI least) = f7_signedNumber_61 N k (zI least) I (zI 1) (zI 1) (zI (p : Int)) := by
      unfold f7_signedNumber f7_signedNumber_30 f7_signedNumber_47
      rw [x1, x2, n1, hx, hxc]
      simp (disch := omega) only [l_45, l_0, l_1, z_le, z_lt, z_eq, if_neg, if_pos, or_false, if_false, if_true]
    rw [hst, q1]
    generalize nmT tl tx 3 least (p + 1) = r at *
    obtain ⟨o, q⟩ := r
    cases o with
    | none => exact ⟨I1, rfl, q2, q3⟩
    | some u => exact ⟨I1, by simp only [if_neg hz1]; rfl, q2, q3⟩
  · have hst : f7_signedNumber N I k (zI least) = f7_signedNumber_30 N k (zI least) I (zI 0) := by
      unfold f7_signedNumber f7_signedNumber_29
      by_cases hlt : p < tl
      · have hx := x3 p hlt
        have hxc : ¬ tx p = 45 := fun w => c45 (by unfold chT; rw [if_pos hlt]; exact w)
        have hr := hT.2 p hlt
        rw [x1, x2, n1, hx]
        simp (disch := omega) only [l_45, l_0, l_1, z_le, z_lt, z_eq, if_neg, if_pos, or_false, if_false, if_true]
      · rw [x1, x2]
        simp (disch := omega) only [l_0, z_le, if_pos]
    obtain ⟨I2, t1, t2, t3⟩ := e7_takes N (c := 43) (by omega) (by omega) hT hp h
    by_cases c43 : chT tl tx p = 43
    · rw [if_pos c43] at t1 t2
      have hlt : p < tl := hb.2.2 (by omega)
      obtain ⟨I1, q1, q2, q3⟩ := e7_sgn_61 (N := N) (p := p + 1) (least := least) (I := I2) (v := zI 0) (s0 := zI 0) (s1 := zI ((p + 1 : Nat) : Int)) hN hT hl hl2 (by omega) (by rw [z_add, Int.add_zero]; exact t2.adv) (Or.inl rfl)
      rw [if_pos c43]
      have hst2 : f7_signedNumber_30 N k (zI least) I (zI 0) = f7_signedNumber_61 N k (zI least) I2 (zI 0) (zI 0) (zI ((p + 1 : Nat) : Int)) := by
        unfold f7_signedNumber_30 f7_signedNumber_47
        rw [l_0, l_43]
        simp only [if_true, t1, clP_s, if_neg hz1, t2.2.1]
      rw [hst, hst2, q1]
      generalize nmT tl tx 3 least (p + 1) = r at *
      obtain ⟨o, q⟩ := r
      cases o with
      | none => exact ⟨I1, rfl, q2, t3.tr q3⟩
      | some u => exact ⟨I1, by simp only [if_true]; rfl, q2, t3.tr q3⟩
    · rw [if_neg c43] at t1 t2
      rw [if_neg c43, if_neg c45]
      refine ⟨I2, ?_, t2, t3⟩
      rw [hst]
      unfold f7_signedNumber_30
      rw [l_0, l_43, l_m89910]
      simp only [if_true, t1, clP_s]
      rfl
