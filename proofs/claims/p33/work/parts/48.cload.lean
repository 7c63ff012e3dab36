/-! errorPosition and load: what they answer and leave; the class' proof of it -/
def spErr (g : GS) : Int32 × GS := (match rdT g.1 g.2.1 with | (some _, _) => zI (-9) | (none, q) => zI (q : Int), g)
def ldG : GS → Sg → GS | (tl, tx, _, _, he, hh, _), s => (tl, tx, s, 0, he, hh, fun _ => none)
def spLoad (g : GS) : Int32 × GS := match rdT g.1 g.2.1 with | (some s, _) => (zI (nS s : Int), ldG g s) | (none, _) => (zI (-3), g)
theorem OkG.T {g : GS} (h : OkG g) : OkT g.1 g.2.1 := ⟨h.1, h.2.1⟩
theorem CInv.rd {I I1 : Mem} {k : Nat} {g : GS} (h : CInv I k g) (h1 : I1 (k+1) 1 = zI (g.1 : Int)) (hx : ∀ x, x ≠ k + 1 → (x < k + 7 ∨ k + 10 < x) → I1 x = I x) : CInv I1 k g := by
  obtain ⟨tl, tx, s, hc, he, hh, sv⟩ := g
  obtain ⟨m1, m2, m3, m4, m5, m6, m7, m8⟩ := h
  refine ⟨h1, fun j hj => by rw [hx _ (by omega) (by omega)]; exact m2 j hj, m3.fr (fun x a b => hx x (by omega) (by omega)), by rw [hx _ (by omega) (by omega)]; exact m4, by rw [hx _ (by omega) (by omega)]; exact m5, fun i hi => (m6 i hi).fr (fun x a b => hx x (by omega) (by omega)), fun b hb => ?_, m8.fr (hx _ (by omega) (by omega)) (hx _ (by omega) (by omega))⟩
  rw [hx (k+69+5*b) (by omega) (by omega)]
  exact ⟨(m7 b hb).1, fun z hz => ⟨((m7 b hb).2 z hz).1, ((m7 b hb).2 z hz).2.fr (fun x p q => hx x (by omega) (by omega))⟩⟩
theorem c_read {N : Nat} {I : Mem} {k : Nat} {g : GS} (hN : 8100 ≤ N) (hG : OkG g) (h : CInv I k g) : ∃ I1 r, f4_readInto N I (k+1) (k+7) = some (r, I1) ∧ (match rdT g.1 g.2.1 with | (some s', _) => r = zI (-9) ∧ StR I1 (k+7) s' ∧ OkS s' | (none, q) => q ≤ 80 ∧ r = zI (q : Int)) ∧ CInv I1 k g ∧ ∀ x, (x < k ∨ k + 81 ≤ x) → I1 x = I x := by
  have h1 : I (k+1) 1 = zI (g.1 : Int) := by obtain ⟨tl, tx, s, hc, he, hh, sv⟩ := g; exact h.1
  have h2 : ∀ j, j < g.1 → I (k+1+1) j = zI (g.2.1 j) := by obtain ⟨tl, tx, s, hc, he, hh, sv⟩ := g; exact h.2.1
  obtain ⟨I1, r, q1, q2, q3, q4⟩ := e4_read (N := N) (k := k + 1) (k1 := k + 7) (by omega) (by omega) hG.T h1 h2
  exact ⟨I1, r, q1, q2, h.rd q3 (fun x a b => q4 x a (by omega)), fun x hx => q4 x (by omega) (by omega)⟩
theorem c_err {N : Nat} {I : Mem} {k : Nat} {g : GS} (hN : 8100 ≤ N) (hG : OkG g) (h : CInv I k g) : ∃ I1, f6_errorPosition N I k = some ((spErr g).1, I1) ∧ CInv I1 k g ∧ ∀ x, (x < k ∨ k + 81 ≤ x) → I1 x = I x := by
  obtain ⟨I1, r, q1, q2, q3, q4⟩ := c_read hN hG h
  refine ⟨I1, ?_, q3, q4⟩
  unfold f6_errorPosition spErr
  rw [q1]
  generalize rdT g.1 g.2.1 = w at *
  obtain ⟨o, q⟩ := w
  cases o with
  | none => rw [q2.2]; rfl
  | some s => rw [q2.1]; rfl
theorem c_load {N : Nat} {I : Mem} {k : Nat} {g : GS} (hN : 8100 ≤ N) (hG : OkG g) (h : CInv I k g) : ∃ I1, f6_load N I k = some ((spLoad g).1, I1) ∧ CInv I1 k (spLoad g).2 ∧ ∀ x, (x < k ∨ k + 81 ≤ x) → I1 x = I x := by
  obtain ⟨I1, r, q1, q2, q3, q4⟩ := c_read hN hG h
  unfold f6_load spLoad
  rw [q1, l_m9]
  generalize rdT g.1 g.2.1 = w at *
  obtain ⟨o, q⟩ := w
  cases o with
  | none =>
    refine ⟨I1, ?_, q3, q4⟩
    obtain ⟨q80, rfl⟩ := q2
    simp (disch := omega) only [clP_s, z_eq, if_neg, l_m3]
  | some s =>
    obtain ⟨rfl, hS, hO⟩ := q2
    obtain ⟨I2, u1, u2, u3⟩ := e5_become (N := N) (k0 := k + 3) (k1 := k + 7) (by omega) (by omega) hO.b.2.2.2.2 hS
    have ef : f0_forget N I2 (k+11) = some (st I2 (k+11) 2 (zI 0)) := by
      unfold f0_forget
      rw [l_0]
      rfl
    obtain ⟨I3, hI3⟩ : ∃ I3, I3 = st (st (st I2 (k+11) 2 (zI 0)) (k+69) 1 (zI 0)) (k+74) 1 (zI 0) := ⟨_, rfl⟩
    have gx : ∀ x, x ≠ k + 11 → x ≠ k + 69 → x ≠ k + 74 → I3 x = I2 x := fun x a b c => by rw [hI3, st_k c, st_k b, st_k a]
    have fx : ∀ x, x ≠ k + 11 → x ≠ k + 69 → x ≠ k + 74 → (x < k + 3 ∨ k + 6 < x) → I3 x = I1 x := fun x a b c d => by rw [gx x a b c, u3 x (by omega)]
    have hS3 : StR I3 (k+3) s := u2.fr (fun x a b => gx x (by omega) (by omega) (by omega))
    refine ⟨I3, ?_, ?_, fun x hx => by rw [fx x (by omega) (by omega) (by omega) (by omega), q4 x hx]⟩
    · simp only [clP_s, if_true, u1, clM_s, ef, letM_s, l_0, ← hI3, hS3.n]
    · obtain ⟨tl, tx, s0, hc, he, hh, sv⟩ := g
      obtain ⟨m1, m2, m3, m4, m5, m6, m7, m8⟩ := q3
      refine ⟨by rw [fx _ (by omega) (by omega) (by omega) (by omega)]; exact m1, fun j hj => by rw [fx _ (by omega) (by omega) (by omega) (by omega)]; exact m2 j hj, hS3, ?_, ?_, fun i hi => absurd hi (Nat.not_lt_zero i), fun b hb => ⟨fun _ => ?_, fun z hz => by cases hz⟩, m8.fr (fx _ (by omega) (by omega) (by omega) (by omega)) (fx _ (by omega) (by omega) (by omega) (by omega))⟩
      · rw [hI3, st_k (by omega), st_k (by omega), st_j (by omega), u3 _ (by omega)]; exact m4
      · rw [hI3, st_k (by omega), st_k (by omega), st_s]; rfl
      · rcases (show b = 0 ∨ b = 1 by omega) with rfl | rfl
        · rw [hI3, st_k (by omega)]; exact st_s _ _ _ _
        · rw [hI3]; exact st_s _ _ _ _
