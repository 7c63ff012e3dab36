/-! errorPosition and load: the reference's proof -/
theorem rd_bd {g : GS} {N : Nat} {I : Mem} {k : Nat} (hN : 8100 ≤ N) (hG : OkG g) (h : CInv I k g) : ∀ s q, rdT g.1 g.2.1 = (some s, q) → OkS s := by
  obtain ⟨I1, r, q1, q2, q3, q4⟩ := c_read hN hG h
  intro s q e
  rw [e] at q2
  exact q2.2.2
