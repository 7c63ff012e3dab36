/-! the reference's reader: numbers -/
def nlT (tl : Nat) (tx : Nat → Int) (least : Int) : Nat → Nat → Int → Option Int × Nat
  | 0, p, v => (some v, p)
  | d+1, p, v => if 48 ≤ chT tl tx p ∧ chT tl tx p ≤ 57 then
      (if d = 0 ∧ ¬ least ≤ 10 * v + (chT tl tx p - 48) then (none, p) else nlT tl tx least d (p + 1) (10 * v + (chT tl tx p - 48)))
    else (none, p)
theorem nlT_eq {tl : Nat} {tx : Nat → Int} {least : Int} : ∀ (d p : Nat) (v : Int), nlT tl tx least (d + 1) p v = match dgT tl tx (d + 1) p v with | (some v, q) => if least ≤ v then (some v, q) else (none, q - 1) | (none, q) => (none, q) := by
  intro d
  induction d with
  | zero =>
    intro p v
    rw [nlT, dgT]
    by_cases c : 48 ≤ chT tl tx p ∧ chT tl tx p ≤ 57
    · rw [if_pos c, if_pos c]
      by_cases c2 : least ≤ 10 * v + (chT tl tx p - 48)
      · rw [if_neg (fun q => q.2 c2)]
        show (some _, _) = (if least ≤ 10 * v + (chT tl tx p - 48) then _ else _)
        rw [if_pos c2]
      · rw [if_pos ⟨rfl, c2⟩]
        show (none, p) = (if least ≤ 10 * v + (chT tl tx p - 48) then _ else _)
        rw [if_neg c2]
        rfl
    · rw [if_neg c, if_neg c]
  | succ d ih =>
    intro p v
    rw [nlT, dgT]
    by_cases c : 48 ≤ chT tl tx p ∧ chT tl tx p ≤ 57
    · rw [if_pos c, if_pos c, if_neg (fun q => by omega), ih]
    · rw [if_neg c, if_neg c]
