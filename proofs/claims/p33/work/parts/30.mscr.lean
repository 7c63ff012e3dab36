/-! the reference's scripts whole; its text's short calls -/
theorem p4 : ∀ n : Nat, n ≤ 4 → 1 ≤ 10000 ^ n ∧ 10000 ^ n ≤ 10000000000000000 := by decide
theorem y_rem {w d : Nat} (hw : w < 9223372036854775808) (hd : d < 9223372036854775808) : yI (w : Int) - yI (w : Int) / yI (d : Int) * yI (d : Int) = yI ((w % d : Nat) : Int) := by
  rw [y_divN hw hd, y_mul, y_sub]
  congr 1
  have := Nat.div_add_mod w d
  rw [Nat.mul_comm] at this
  have e : ((w / d : Nat) : Int) * (d : Int) = ((w / d * d : Nat) : Int) := by rw [Int.natCast_mul]
  rw [e]
  omega
theorem scr_step {Z n i e : Nat} {s : Sg} : scrS (Z : Int) n (e+1) i s = if (cmdS s ((Z / 10000 ^ (n - 1 - i) % 10000 / 1000 : Nat) : Int) ((Z / 10000 ^ (n - 1 - i) % 10000 % 1000 : Nat) : Int)).1 = true then scrS (Z : Int) n e (i + 1) (cmdS s ((Z / 10000 ^ (n - 1 - i) % 10000 / 1000 : Nat) : Int) ((Z / 10000 ^ (n - 1 - i) % 10000 % 1000 : Nat) : Int)).2 else (i : Int) := by
  have e1 : ((Z / 10000 ^ (n - 1 - i) % 10000 / 1000 : Nat) : Int) = (Z : Int) / 10000 ^ (n - 1 - i) % 10000 / 1000 := by
    rw [Int.natCast_ediv, Int.natCast_emod, Int.natCast_ediv, Int.natCast_pow]
    rfl
  have e2 : ((Z / 10000 ^ (n - 1 - i) % 10000 % 1000 : Nat) : Int) = (Z : Int) / 10000 ^ (n - 1 - i) % 10000 % 1000 := by
    rw [Int.natCast_emod, Int.natCast_emod, Int.natCast_ediv, Int.natCast_pow]
    rfl
  rw [e1, e2]
  rfl
def spApp (g : GS) (z : Int) : Int32 × GS := if 0 ≤ z ∧ z ≤ 255 then (if g.1 = 80 then (zI (-4), g) else (zI ((g.1 + 1 : Nat) : Int), (g.1 + 1, fun j => if j = g.1 then z else g.2.1 j, g.2.2))) else (zI (-2), g)
def spClr (g : GS) : Int32 × GS := (zI (g.1 : Int), (0, g.2))
