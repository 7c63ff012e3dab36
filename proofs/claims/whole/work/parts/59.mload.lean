/-! errorPosition and load: the reference's proof -/
theorem MInv.rd {I I1 : Mem} {k : Nat} {g : GS} (h : MInv I k g) (hx : ∀ x, x ≠ k → x ≠ k + 4 → I1 x = I x) (hk : ∀ j, j ≠ 2 → I1 k j = I k j) : MInv I1 k g := by
  have h8 := h.C
  refine h.same (fun x a _ b _ => hx x a b) (fun j _ a => hk j a) ⟨?_, fun a v a1 a2 a3 a4 => ?_⟩
  · rw [hk 13 (by omega), hk 12 (by omega), hx (k+8) (by omega) (by omega)]; exact h8.1
  · rw [hk 14 (by omega), hk 15 (by omega), hk 16 (by omega)]; exact h8.2 a v a1 a2 a3 a4
theorem m_read {N : Nat} {I : Mem} {k : Nat} {g : GS} (hN : 8100 ≤ N) (hG : OkG g) (h : MInv I k g) : ∃ I1 r, f7_readText N I k = some (r, I1) ∧ (match rdT g.1 g.2.1 with | (some s', _) => r = zI (-9) ∧ RowR (I1 (k+4)) s' ∧ OkS s' | (none, q) => r = zI (q : Int)) ∧ MInv I1 k g ∧ ∀ x, x < k → I1 x = I x := by
  have h1 : I k 1 = zI (g.1 : Int) := by obtain ⟨tl, tx, s, hc, he, hh, sv⟩ := g; exact h.1
  have h2 : ∀ j, j < g.1 → I (k+1) j = zI (g.2.1 j) := by obtain ⟨tl, tx, s, hc, he, hh, sv⟩ := g; exact h.2.1
  obtain ⟨I1, r, q1, q2, q3, q4⟩ := e7_read (N := N) (k := k) (by omega) hG.T h1 h2
  exact ⟨I1, r, q1, q2, h.rd q3 q4, fun x hx => q3 x (by omega) (by omega)⟩
theorem m_err {N : Nat} {I : Mem} {k : Nat} {g : GS} (hN : 8100 ≤ N) (hG : OkG g) (h : MInv I k g) : ∃ I1, f7_errorPosition N I k = some ((spErr g).1, I1) ∧ MInv I1 k g ∧ ∀ x, x < k → I1 x = I x := by
  obtain ⟨I1, r, q1, q2, q3, q4⟩ := m_read hN hG h
  refine ⟨I1, ?_, q3, q4⟩
  unfold f7_errorPosition spErr
  rw [q1]
  generalize rdT g.1 g.2.1 = w at *
  obtain ⟨o, q⟩ := w
  cases o with
  | none => rw [show r = zI (q : Int) from q2]; rfl
  | some s => rw [show r = zI (-9) from q2.1]; rfl
theorem rd_bd {g : GS} {N : Nat} {I : Mem} {k : Nat} (hN : 8100 ≤ N) (hG : OkG g) (h : CInv I k g) : ∀ s q, rdT g.1 g.2.1 = (some s, q) → OkS s := by
  obtain ⟨I1, r, q1, q2, q3, q4⟩ := c_read hN hG h
  intro s q e
  rw [e] at q2
  exact q2.2.2
theorem m_load {N : Nat} {I : Mem} {k : Nat} {g : GS} (hN : 8100 ≤ N) (hG : OkG g) (hq : ∀ q, rdT g.1 g.2.1 = (none, q) → q ≤ 80) (h : MInv I k g) : ∃ I1, f7_load N I k = some ((spLoad g).1, I1) ∧ MInv I1 k (spLoad g).2 ∧ ∀ x, x < k → I1 x = I x := by
  obtain ⟨I1, r, q1, q2, q3, q4⟩ := m_read hN hG h
  unfold f7_load spLoad
  rw [q1, l_m9]
  generalize rdT g.1 g.2.1 = w at *
  obtain ⟨o, q⟩ := w
  cases o with
  | none =>
    have hr : r = zI (q : Int) := q2
    subst hr
    have q80 := hq q rfl
    refine ⟨I1, ?_, q3, q4⟩
    simp (disch := omega) only [clP_s, z_eq, if_neg, l_m3]
  | some s =>
    obtain ⟨hr, hS, hO⟩ : r = zI (-9) ∧ RowR (I1 (k+4)) s ∧ OkS s := q2
    subst hr
    obtain ⟨I2, u1, u2, u3⟩ := e7_copy (N := N) (I := I1) (k0 := k + 4) (k1 := k + 2) (by omega) (by omega)
    have hS2 : RowR (I2 (k+2)) s := hS.eq hO u2
    obtain ⟨I3, hI3⟩ : ∃ I3, I3 = st (st (st I2 k 7 (zI 0)) (k+7) 0 (zI 0)) (k+7) 1 (zI 0) := ⟨_, rfl⟩
    have gx : ∀ x, x ≠ k → x ≠ k + 7 → I3 x = I2 x := fun x a b => by rw [hI3, st_k b, st_k b, st_k a]
    have fx : ∀ x, x ≠ k → x ≠ k + 7 → x ≠ k + 2 → I3 x = I1 x := fun x a b c => by rw [gx x a b, u3 x c]
    have fk : ∀ j, j ≠ 7 → I3 k j = I1 k j := fun j a => by rw [hI3, st_k (by omega), st_k (by omega), st_j a, u3 k (by omega)]
    have e25 : I3 (k+2) = I2 (k+2) := gx (k+2) (by omega) (by omega)
    have hn5 : I3 (k+2) 5 = zI (nS s : Int) := by rw [e25]; obtain ⟨a, v, x, y, t, n, d, m, i, l⟩ := s; exact hS2.2.2.2.2.2.1
    refine ⟨I3, ?_, ?_, fun x hx => by rw [fx x (by omega) (by omega) (by omega), q4 x hx]⟩
    · simp only [clP_s, if_true, u1, clM_s, letM_s, l_0, ← hI3, hn5]
    · obtain ⟨tl, tx, s0, hc, he, hh, sv⟩ := g
      obtain ⟨m1, m2, m3, m4, m5, m6, m7, m8⟩ := q3
      refine ⟨by rw [fk 1 (by omega)]; exact m1, fun j hj => by rw [fx (k+1) (by omega) (by omega) (by omega)]; exact m2 j hj, by rw [e25]; exact hS2, ?_, by rw [fk 8 (by omega)]; exact m5, fun i hi => absurd hi (Nat.not_lt_zero i), fun b hb => ⟨fun _ => ?_, fun z hz => by cases hz⟩, ?_, fun a v a1 a2 a3 a4 => ?_⟩
      · rw [hI3, st_k (by omega), st_k (by omega), st_s]; rfl
      · rcases (show b = 0 ∨ b = 1 by omega) with rfl | rfl
        · rw [hI3, st_j (by omega), st_s]
        · rw [hI3, st_s]
      · rw [fk 13 (by omega), fk 12 (by omega), fx (k+8) (by omega) (by omega) (by omega)]; exact m8.1
      · rw [fk 14 (by omega), fk 15 (by omega), fk 16 (by omega)]; exact m8.2 a v a1 a2 a3 a4
