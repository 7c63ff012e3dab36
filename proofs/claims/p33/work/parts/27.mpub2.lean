/-! the reference's answers, going on -/
theorem fm_note {I I1 : Mem} {k : Nat} (h : ∀ x, x ≠ k → x ≠ k+5 → I1 x = I x) : ∀ x, x < k → I1 x = I x := fun x hx => h x (by omega) (by omega)
theorem n5_of {I : Mem} {k : Nat} {s : Sg} (hR : RowR (I k) s) : I k 5 = zI (nS s : Int) := by
  obtain ⟨a, v, x, y, t, n, d, m, i, l⟩ := s
  exact hR.2.2.2.2.2.1
theorem n8_of {s : Sg} (hO : OkS s) : nS s ≤ 8 := by
  obtain ⟨a, v, x, y, t, n, d, m, i, l⟩ := s
  exact hO.2.2.2.2.1
theorem cr_of {I I1 : Mem} {k row : Nat} (h : ∀ x, x ≠ row → I1 x = I x) (hk : row ≠ k) : Cr I I1 k row := ⟨fun x _ _ c => h x c, fun j _ => by rw [h k (Ne.symm hk)]⟩
theorem row_remI {I I1 : Mem} {k i : Nat} {s : Sg} (hi : i < nS s) (hR : RowR (I k) s) (h1 : I1 k 5 = zI ((nS s - 1 : Nat) : Int)) (h2 : ∀ j, j < 9 → j ≠ 5 → I1 k j = I k j) (h3 : ∀ j e, j < nS s - 1 → e < 3 → I1 k (9 + 3 * j + e) = I k (9 + 3 * (if j < i then j else j + 1) + e)) : RowR (I1 k) (remI s i) := by
  obtain ⟨a, v, x, y, t, n, d, m, p, l⟩ := s
  have hi : i < n := hi
  obtain ⟨r0, r1, r2, r3, r4, r5, r6, r7, r8, r9⟩ := hR
  refine ⟨by rw [h2 0 (by omega) (by omega)]; exact r0, by rw [h2 1 (by omega) (by omega)]; exact r1, by rw [h2 2 (by omega) (by omega)]; exact r2, by rw [h2 3 (by omega) (by omega)]; exact r3, by rw [h2 4 (by omega) (by omega)]; exact r4, h1, by rw [h2 6 (by omega) (by omega)]; exact r6, by rw [h2 7 (by omega) (by omega)]; exact r7, by rw [h2 8 (by omega) (by omega)]; exact r8, fun j hj => ?_⟩
  have p0 := h3 j 0 hj (by omega)
  have p1 := h3 j 1 hj (by omega)
  have p2 := h3 j 2 hj (by omega)
  rw [Nat.add_zero, Nat.add_zero] at p0
  rw [p0, p1, p2]
  unfold dropD
  by_cases c : j < i
  · rw [if_pos c, if_pos c]; exact r9 j (by omega)
  · rw [if_neg c, if_neg c]; exact r9 (j + 1) (by omega)
