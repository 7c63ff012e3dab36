/-! the class' reader: all items -/
def itsT (tl : Nat) (tx : Nat → Int) : Nat → Nat → Sg → Option Sg × Nat
  | 0, p, s => (some s, p)
  | f+1, p, s => if tl ≤ p then (some s, p) else
    match (if nS s = 8 then (none, p) else itT tl tx p) with
    | (none, q) => (none, q)
    | (some d, q) => itsT tl tx f q (addI s d)
theorem e4_its {N : Nat} {k k1 tl : Nat} {tx : Nat → Int} (hN : 100 ≤ N) (hk : k + 1 < k1) (hT : OkT tl tx) : ∀ (e i cnt p : Nat) (I : Mem) (s : Sg), i + e = 9 → e < cnt → nS s = i → p ≤ tl → OkS s → TxR I k tl tx p (zI (-9)) → StR I k1 s →
    ∃ I1 r, f4_readInto_47 N k k1 cnt I (zI (i : Int)) = some (r, I1) ∧ (match itsT tl tx e p s with | (some s', _) => r = zI (-9) ∧ StR I1 k1 s' ∧ OkS s' | (none, q) => q ≤ 80 ∧ r = zI (q : Int)) ∧ I1 k 1 = zI (tl : Int) ∧ ∀ x, x ≠ k → (x < k1 ∨ k1 + 3 < x) → I1 x = I x := by
  intro e
  induction e with
  | zero =>
    intro i cnt p I s h1 h2 hn hp hO h hS
    have := hO.b.2.2.2.2
    omega
  | succ e ih =>
    intro i cnt p I s h1 h2 hn hp hO h hS
    obtain ⟨cnt, rfl⟩ : ∃ x, cnt = x + 1 := ⟨cnt - 1, by omega⟩
    have ht := hT.1
    have hx1 := h.1
    have hx2 := h.2.1
    have hx3 := h.2.2.1
    rw [itsT]
    by_cases c : tl ≤ p
    · simp only [if_pos c]
      refine ⟨I, zI (-9), ?_, ⟨rfl, hS, hO⟩, hx1, fun _ _ _ => rfl⟩
      rw [f4_readInto_47, hx1, hx2, hx3, l_8, l_m9]
      simp (disch := omega) only [z_lt, z_le, if_neg, if_pos, if_true]
    · simp only [if_neg c]
      obtain ⟨I2, q1, q2, q3⟩ := e4_item hN hk hT hp hO h hS
      have hst : f4_readInto_47 N k k1 (cnt + 1) I (zI (i : Int)) = f4_readInto_47 N k k1 cnt I2 (zI ((i + 1 : Nat) : Int)) := by
        rw [f4_readInto_47, hx1, hx2, hx3, l_8, l_m9, l_1]
        simp (disch := omega) only [z_lt, z_le, if_neg, if_pos, if_true, q1, clM_s, letM_s, z_add]
        rfl
      rw [hst]
      by_cases c8 : nS s = 8
      · simp only [if_pos c8] at q2 ⊢
        obtain ⟨cnt, rfl⟩ : ∃ x, cnt = x + 1 := ⟨cnt - 1, by omega⟩
        refine ⟨I2, zI (p : Int), ?_, ⟨by omega, rfl⟩, q2.2.2, q3⟩
        rw [f4_readInto_47, q2.2.1, l_8]
        simp (disch := omega) only [z_lt, if_pos]
      · simp only [if_neg c8] at q2 ⊢
        generalize itT tl tx p = r at *
        obtain ⟨o, q⟩ := r
        cases o with
        | none =>
          obtain ⟨q80, u1, u2⟩ := q2
          obtain ⟨cnt, rfl⟩ : ∃ x, cnt = x + 1 := ⟨cnt - 1, by omega⟩
          refine ⟨I2, zI (q : Int), ?_, ⟨q80, rfl⟩, u2, q3⟩
          rw [f4_readInto_47, u1, l_8, l_m9]
          by_cases c9 : 8 < i + 1
          · simp (disch := omega) only [z_lt, if_pos]
          · simp (disch := omega) only [z_lt, z_eq, if_neg]
        | some d =>
          obtain ⟨u1, u2, u3, u4⟩ := q2
          have hb := hO.b.2.2.2.2
          have hna : nS (addI s d) = i + 1 := by
            rw [← hn]
            obtain ⟨a, v, x, y, t, n, dd, r⟩ := s
            rfl
          obtain ⟨I1, r, v1, v2, v3, v4⟩ := ih (i + 1) cnt q I2 (addI s d) (by omega) (by omega) hna u2 (ok_addI hO (by omega) u1) u3 u4
          exact ⟨I1, r, v1, v2, v3, fun x a b => by rw [v4 x a b, q3 x a b]⟩
