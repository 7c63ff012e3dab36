/-! the reference's reader: numbers, proof -/
theorem e7_num_5 (N : Nat) {k D tl : Nat} {tx : Nat → Int} {least : Int} (hT : OkT tl tx) (hD : D ≤ 4) (hl : 0 ≤ least) (hl2 : least ≤ 1) : ∀ (d cnt : Nat) (I : Mem) (p : Nat) (v : Int), d ≤ D → d < cnt → p ≤ tl → 0 ≤ v → v < ((10 ^ (D - d) : Nat) : Int) → TmR I k tl tx p →
    ∃ I1, f7_number_5 N k (zI (D : Int)) (zI least) cnt I (zI v) (zI ((D - d : Nat) : Int)) = some (zI ((nlT tl tx least d p v).1.getD (-9)), I1) ∧ TmR I1 k tl tx (nlT tl tx least d p v).2 ∧ Fp I I1 k := by
  intro d
  induction d with
  | zero =>
    intro cnt I p v h1 h2 hp h3 h4 h
    obtain ⟨cnt, rfl⟩ : ∃ x, cnt = x + 1 := ⟨cnt - 1, by omega⟩
    refine ⟨I, ?_, h, Fp.rf⟩
    rw [f7_number_5]
    simp (disch := omega) only [z_le, if_pos]
    rfl
  | succ d ih =>
    intro cnt I p v h1 h2 hp h3 h4 h
    obtain ⟨cnt, rfl⟩ : ∃ x, cnt = x + 1 := ⟨cnt - 1, by omega⟩
    obtain ⟨x1, x2, x3⟩ := id h
    have hb := chT_bd hT p
    have ht := hT.1
    rw [nlT]
    have hpow : 10 ^ (D - d) = 10 * 10 ^ (D - (d + 1)) := by
      rw [show D - d = D - (d + 1) + 1 by omega, Nat.pow_succ, Nat.mul_comm]
    have hps : 10 ^ (D - (d + 1)) ≤ 10 ^ 4 := Nat.pow_le_pow_right (by omega) (by omega)
    generalize hP : 10 ^ (D - (d + 1)) = P at *
    have n1 : (zI (p : Int)).toNatClampNeg = p := by rw [z_nat (by omega) (by omega)]; rfl
    by_cases hlt : p < tl
    · have hx := x3 p hlt
      have hxc : chT tl tx p = tx p := by unfold chT; rw [if_pos hlt]
      have ei := e7_in N I (v := chT tl tx p - 48) (a := 0) (b := 9) (by omega) (by omega) (by omega) (by omega) (by omega) (by omega)
      rw [← hxc] at hx
      by_cases c : 48 ≤ chT tl tx p ∧ chT tl tx p ≤ 57
      · rw [if_pos (show 0 ≤ chT tl tx p - 48 ∧ chT tl tx p - 48 ≤ 9 by omega)] at ei
        rw [if_pos c]
        obtain ⟨I1, q1, q2, q3⟩ := ih cnt (st I k 2 (zI ((p + 1 : Nat) : Int))) (p + 1) (10 * v + (chT tl tx p - 48)) (by omega) (by omega) (by omega) (by omega) (by rw [hpow]; omega) h.adv
        have ea : ((D - (d + 1) : Nat) : Int) + 1 = ((D - d : Nat) : Int) := by omega
        by_cases c0 : d = 0
        · by_cases c2 : least ≤ 10 * v + (chT tl tx p - 48)
          · rw [if_neg (fun q => q.2 c2)]
            refine ⟨I1, ?_, q2, Fp.st.tr q3⟩
            rw [← q1, f7_number_5]
            generalize chT tl tx p = C at *
            rw [x1, x2, n1, hx]
            simp (disch := omega) only [l_48, l_10, l_1, l_0, m_0, m_9, z_le, z_lt, z_eq, z_add, z_sub, z_mul, z_toL, ei, clP_s, letM_s, if_neg, if_pos, or_false, if_false, ea, x2]
            rfl
          · rw [if_pos ⟨c0, c2⟩]
            refine ⟨I, ?_, h, Fp.rf⟩
            rw [f7_number_5]
            generalize chT tl tx p = C at *
            rw [x1, x2, n1, hx]
            simp (disch := omega) only [l_48, l_10, l_1, l_0, l_m9, m_0, m_9, z_le, z_lt, z_eq, z_add, z_sub, z_mul, z_toL, ei, clP_s, letM_s, if_neg, if_pos, or_false, if_false]
            rfl
        · rw [if_neg (fun q => c0 q.1)]
          refine ⟨I1, ?_, q2, Fp.st.tr q3⟩
          rw [← q1, f7_number_5]
          generalize chT tl tx p = C at *
          rw [x1, x2, n1, hx]
          simp (disch := omega) only [l_48, l_10, l_1, l_0, m_0, m_9, z_le, z_lt, z_eq, z_add, z_sub, z_mul, z_toL, ei, clP_s, letM_s, if_neg, if_pos, or_false, if_false, ea, x2]
          rfl
      · rw [if_neg (show ¬ (0 ≤ chT tl tx p - 48 ∧ chT tl tx p - 48 ≤ 9) by omega)] at ei
        rw [if_neg c]
        refine ⟨I, ?_, h, Fp.rf⟩
        rw [f7_number_5]
        generalize chT tl tx p = C at *
        rw [x1, x2, n1, hx]
        simp (disch := omega) only [l_48, l_10, l_1, l_0, l_m9, m_0, m_9, z_le, z_lt, z_eq, z_add, z_sub, z_mul, z_toL, ei, clP_s, letM_s, if_neg, if_pos, or_false, if_false, if_true]
        rfl
    · have hxc : chT tl tx p = -9 := by unfold chT; rw [if_neg hlt]
      have ei := e7_in N I (v := -9) (a := 0) (b := 9) (by omega) (by omega) (by omega) (by omega) (by omega) (by omega)
      rw [if_neg (show ¬ ((0 : Int) ≤ -9 ∧ (-9 : Int) ≤ 9) by omega)] at ei
      rw [if_neg (by omega)]
      refine ⟨I, ?_, h, Fp.rf⟩
      rw [f7_number_5, x1, x2]
      simp (disch := omega) only [l_0, l_m9, m_0, m_9, m_m9, z_le, z_lt, z_eq, ei, clP_s, if_neg, if_pos, if_true]
      rfl
