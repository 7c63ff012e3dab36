/-! the reference's reader -/
def TmR (I : Mem) (k tl : Nat) (tx : Nat → Int) (p : Nat) : Prop := I k 1 = zI (tl : Int) ∧ I k 2 = zI (p : Int) ∧ ∀ j, j < tl → I (k+1) j = zI (tx j)
/-- only the place in the text changed -/
def Fp (I I1 : Mem) (k : Nat) : Prop := (∀ x, x ≠ k → I1 x = I x) ∧ ∀ j, j ≠ 2 → I1 k j = I k j
theorem Fp.rf {I : Mem} {k : Nat} : Fp I I k := ⟨fun _ _ => rfl, fun _ _ => rfl⟩
theorem Fp.tr {I I1 I2 : Mem} {k : Nat} (h : Fp I I1 k) (h2 : Fp I1 I2 k) : Fp I I2 k := ⟨fun x a => (h2.1 x a).trans (h.1 x a), fun j a => (h2.2 j a).trans (h.2 j a)⟩
theorem Fp.st {I : Mem} {k : Nat} {v : Int32} : Fp I (st I k 2 v) k := ⟨fun x hx => st_k hx, fun j hj => st_j hj⟩
theorem TmR.adv {I : Mem} {k tl p p' : Nat} {tx : Nat → Int} (h : TmR I k tl tx p) : TmR (st I k 2 (zI (p' : Int))) k tl tx p' := by
  obtain ⟨h1, h2, h3⟩ := h
  exact ⟨by rw [st_j (by omega)]; exact h1, st_s _ _ _ _, fun j hj => by rw [st_k (by omega)]; exact h3 j hj⟩
theorem e7_takes (N : Nat) {I : Mem} {k tl p : Nat} {tx : Nat → Int} {c : Int} (hc1 : 0 ≤ c) (hc2 : c ≤ 255) (hT : OkT tl tx) (hp : p ≤ tl) (h : TmR I k tl tx p) : ∃ I1, f7_takes N I k (zI c) = some (zI (if chT tl tx p = c then 1 else 0), I1) ∧ TmR I1 k tl tx (if chT tl tx p = c then p + 1 else p) ∧ Fp I I1 k := by
  obtain ⟨h1, h2, h3⟩ := id h
  have ht := hT.1
  have hb := chT_bd hT p
  have n1 : (zI (p : Int)).toNatClampNeg = p := by rw [z_nat (by omega) (by omega)]; rfl
  have n0 : (zI 0 = (0 : Int32) ∨ zI 0 = (1 : Int32)) := Or.inl rfl
  have n2 : (zI 1 = (0 : Int32) ∨ zI 1 = (1 : Int32)) := Or.inr rfl
  by_cases q : chT tl tx p = c
  · simp only [if_pos q]
    have hlt : p < tl := hb.2.2 (by omega)
    have hx := h3 p hlt
    have hxc : tx p = c := by rw [← q]; unfold chT; rw [if_pos hlt]
    refine ⟨st I k 2 (zI ((p + 1 : Nat) : Int)), ?_, h.adv, Fp.st⟩
    unfold f7_takes f7_takes_29
    rw [h1, h2, n1, hx, hxc]
    simp (disch := omega) only [l_0, l_1, z_le, z_lt, z_eq, z_add, letM_s, if_neg, if_pos, if_true, or_false, false_or, if_false, not_true]
    rfl
  · simp only [if_neg q]
    refine ⟨st I k 2 (zI (p : Int)), ?_, h.adv, Fp.st⟩
    have e0 : zI (p : Int) + zI 0 = zI (p : Int) := by rw [z_add, Int.add_zero]
    unfold f7_takes f7_takes_28 f7_takes_29
    by_cases hlt : p < tl
    · have hx := h3 p hlt
      have hxc : ¬ tx p = c := fun w => q (by unfold chT; rw [if_pos hlt]; exact w)
      have hr := hT.2 p hlt
      rw [h1, h2, n1, hx]
      simp (disch := omega) only [l_0, z_le, z_lt, z_eq, e0, letM_s, if_neg, if_pos, if_true, or_false, false_or, if_false, not_true, true_or]
    · rw [h1, h2]
      simp (disch := omega) only [l_0, z_le, e0, letM_s, if_pos, if_true, true_or, not_true, if_false]
