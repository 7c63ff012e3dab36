/-! THE REFERENCE'S ROOTS AND RAMP, with what it keeps -/
theorem yN_bv (n : Nat) : (yI (n : Int)).toBitVec = BitVec.ofNat 64 n := by
  show (Int64.ofInt (n : Int)).toBitVec = _
  rw [Int64.toBitVec_ofInt]
  exact BitVec.ofInt_natCast 64 n
theorem y_or {a b : Nat} (ha : a < 18446744073709551616) (hb : b < 18446744073709551616) : yI (a : Int) ||| yI (b : Int) = yI ((a ||| b : Nat) : Int) := by
  refine Int64.toBitVec_inj.mp ?_
  rw [Int64.toBitVec_or, yN_bv, yN_bv, yN_bv]
  refine BitVec.eq_of_toNat_eq ?_
  rw [BitVec.toNat_or, BitVec.toNat_ofNat, BitVec.toNat_ofNat, BitVec.toNat_ofNat, Nat.mod_eq_of_lt (by omega), Nat.mod_eq_of_lt (by omega), Nat.mod_eq_of_lt]
  exact Nat.or_lt_two_pow (n := 64) (by omega) (by omega)
theorem y_bit : ∀ b : Nat, b < 19 → ((1 : Int64) <<< ((zI (b : Int)).toInt64 &&& 63)) = yI ((2 ^ b : Nat) : Int) := by decide +kernel
/-- nothing changes but what is kept -/
def Cs (I I1 : Mem) (k : Nat) : Prop := (∀ x, x ≠ k → x ≠ k + 8 → I1 x = I x) ∧ ∀ j, j < 12 → I1 k j = I k j
theorem Cs.rf {I : Mem} {k : Nat} : Cs I I k := ⟨fun _ _ _ => rfl, fun _ _ => rfl⟩
theorem Cs.tr {I I1 I2 : Mem} {k : Nat} (h : Cs I I1 k) (h2 : Cs I1 I2 k) : Cs I I2 k := ⟨fun x a b => (h2.1 x a b).trans (h.1 x a b), fun j a => (h2.2 j a).trans (h.2 j a)⟩
/-- the index behind p, where so many steps remain -/
def idxA (p left tp : Nat) : Nat := if p + 1 ≤ min (left - 1) tp then p + 1 else if p ≤ min (left - 1) tp then p else p - 1
/-- the indices of a move that nothing changes -/
theorem idxA_ud {k len tp : Nat} (h : k + 1 < len) : idxA (min (min k (len - 1 - k)) tp) (len - (k + 1)) tp = min (min (k + 1) (len - 1 - (k + 1))) tp := by
  unfold idxA
  by_cases c1 : min (min k (len - 1 - k)) tp + 1 ≤ min (len - (k + 1) - 1) tp
  · rw [if_pos c1]; omega
  · rw [if_neg c1]
    by_cases c2 : min (min k (len - 1 - k)) tp ≤ min (len - (k + 1) - 1) tp
    · rw [if_pos c2]; omega
    · rw [if_neg c2]; omega
theorem idxA_top {p left t1 t2 : Nat} (h : ∀ x, x ≤ p + 1 → x ≤ left - 1 → (x ≤ t1 ↔ x ≤ t2)) : idxA p left t1 = idxA p left t2 := by
  have h1 := h p (by omega)
  have h2 := h (p + 1) (Nat.le_refl _)
  unfold idxA
  simp only [show (p + 1 ≤ min (left - 1) t1) = (p + 1 ≤ min (left - 1) t2) from propext (by omega), show (p ≤ min (left - 1) t1) = (p ≤ min (left - 1) t2) from propext (by omega)]
