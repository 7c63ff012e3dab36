/-! the reference's answers: undo, slots, predictions, scripts, random speeds -/
/-! predictions -/
theorem runS_free {f : Nat} {K : Int} {s : Sg} (hO : OkS s) (hn : ¬ nS s = 0) (hK : 20000 * (mu s : Int) ≤ K) : runS (f+1) K s = ((runS f (K - (tkS s : Int)) (stepS s)).1 + 1, (runS f (K - (tkS s : Int)) (stepS s)).2) ∧ 20000 * (mu (stepS s) : Int) ≤ K - (tkS s : Int) := by
  have hb := tkS_bd hO (Nat.pos_of_ne_zero hn)
  have hm := mu_step hO (Nat.pos_of_ne_zero hn)
  constructor
  · rw [runS, if_neg (fun q => q.elim hn (fun w => by omega))]
  · omega
theorem sT_step {s : Sg} : sT (stepS s) = sT s + zI (tkS s : Int) := by
  obtain ⟨a, v, x, y, t, n, d, m, i, l⟩ := s
  show sT (stepS (a, v, x, y, t, n, d, m, i, l)) = t + zI (tkI a v (d 0).2.2 m i l : Int)
  simp only [stepS]
  by_cases c : 0 < (d 0).2.2
  · simp only [if_pos c]
  · simp only [if_neg c]
    by_cases c2 : (if m = 0 then lenI (d 0) else l) - 1 = 0
    · simp only [if_pos c2]
    · simp only [if_neg c2]
theorem sum_assoc (v t q u : Int32) : v + q + (u - (t + q)) = v + (u - t) := by
  obtain ⟨a, rfl, -, -⟩ := zI_of v
  obtain ⟨b, rfl, -, -⟩ := zI_of t
  obtain ⟨c, rfl, -, -⟩ := zI_of q
  obtain ⟨d, rfl, -, -⟩ := zI_of u
  simp only [z_add, z_sub]
  congr 1
  omega
theorem mu_BIG {s : Sg} (hO : OkS s) : 20000 * (mu s : Int) ≤ BIG := by have := mu_le hO; unfold BIG; omega
theorem mv_bd9 {a c len : Nat} (ha : 1 ≤ a) (hc : c ≤ 10000) (hl : len ≤ 999) : mv a c len ≤ 446765787 := Nat.le_trans (mv_bd ha hc len hl) (Nat.mul_le_mul_right 447213 hl)
