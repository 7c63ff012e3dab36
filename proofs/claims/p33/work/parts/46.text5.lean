/-! the class' reader: a whole text -/
def s0T (a v : Nat) : Sg := (a, v, zI 0, zI 0, zI 0, 0, fun _ => (0, 0, 0), 0, 0, 0)
def rdT (tl : Nat) (tx : Nat → Int) : Option Sg × Nat :=
  if chT tl tx 0 = 97 then
    match nmT tl tx 3 1 1 with
    | (none, q) => (none, q)
    | (some a, q) => if chT tl tx q = 118 then
        match nmT tl tx 3 1 (q + 1) with
        | (none, q') => (none, q')
        | (some v, q') => itsT tl tx 9 q' (s0T a.toNat v.toNat)
      else (none, q)
  else (none, 0)
theorem e4_posK {N : Nat} {k D tl p : Nat} {tx : Nat → Int} {F : Int32} {I : Mem} (hF : F ≠ zI (-9)) (hN : 100 ≤ N) (hT : OkT tl tx) (hD : D ≤ 4) (hD1 : 1 ≤ D) (hp : p ≤ tl) (h : TxR I k tl tx p F) : ∃ I1 w p', f4_takePositive N I k (zI (D : Int)) = some (zI w, I1) ∧ TxR I1 k tl tx p' F ∧ p' ≤ tl ∧ ∀ x, x ≠ k → I1 x = I x := by
  obtain ⟨I1, w, p', q1, q2, q3, q4⟩ := e4_pos hN hT hD hD1 hp h
  refine ⟨I1, w, p', q1, ?_, q3, q4⟩
  generalize nmT tl tx D 1 p = r at *
  obtain ⟨o, q⟩ := r
  cases o with
  | none => have := q2.2; rw [flt_k hF] at this; exact this
  | some u => exact q2.2.2
theorem e4_letK (N : Nat) {I : Mem} {k tl p : Nat} {tx : Nat → Int} {F : Int32} {c : Int} (hF : F ≠ zI (-9)) (hc1 : 0 ≤ c) (hc2 : c ≤ 255) (hT : OkT tl tx) (hp : p ≤ tl) (h : TxR I k tl tx p F) : ∃ I1 p', f4_takeLetter N I k (zI c) = some I1 ∧ TxR I1 k tl tx p' F ∧ p' ≤ tl ∧ ∀ x, x ≠ k → I1 x = I x := by
  obtain ⟨I1, q1, q2, q3⟩ := e4_letter N hc1 hc2 hT hp h
  by_cases c : chT tl tx p = c
  · rw [if_pos c] at q2
    exact ⟨I1, p + 1, q1, q2.1, q2.2, q3⟩
  · rw [if_neg c, flt_k hF] at q2
    exact ⟨I1, p, q1, q2, hp, q3⟩
theorem e4_clear (N : Nat) (I : Mem) (k : Nat) : ∃ I1, f5_clear N I k = some I1 ∧ I1 k 2 = zI 0 ∧ I1 k 3 = zI 0 ∧ I1 k 4 = zI 0 ∧ I1 k 5 = zI 0 ∧ I1 k 9 = zI 0 ∧ ∀ x, x ≠ k → I1 x = I x := by
  refine ⟨st (st (st (st (st I k 2 (zI 0)) k 3 (zI 0)) k 4 (zI 0)) k 5 (zI 0)) k 9 (zI 0), ?_, by rw [st_j (by omega), st_j (by omega), st_j (by omega), st_j (by omega), st_s], by rw [st_j (by omega), st_j (by omega), st_j (by omega), st_s], by rw [st_j (by omega), st_j (by omega), st_s], by rw [st_j (by omega), st_s], st_s _ _ _ _, fun x hx => by rw [st_k hx, st_k hx, st_k hx, st_k hx, st_k hx]⟩
  unfold f5_clear
  rw [l_0]
  rfl
/-- the tail: both numbers taken, no fault or one -/
theorem e4_flt47 {N : Nat} {k k1 tl p : Nat} {tx : Nat → Int} {F : Int32} {I : Mem} (hF : F ≠ zI (-9)) (hN : 100 ≤ N) (h : TxR I k tl tx p F) : f4_readInto_47 N k k1 N I (zI 0) = some (F, I) := by
  obtain ⟨N, rfl⟩ : ∃ n, N = n + 1 := ⟨N - 1, by omega⟩
  rw [f4_readInto_47, h.2.2.1, l_8, l_m9]
  simp (disch := omega) only [z_lt, if_neg, hF, if_false]
