/-! the reference's reader: an item into the row -/
theorem row_add {r r1 : Nat → Int32} {s : Sg} {q : Itm} (hO : OkS s) (hn : nS s < 8) (hR : RowR r s) (h5 : r1 5 = zI ((nS s + 1 : Nat) : Int)) (h0 : r1 (9 + 3 * nS s) = zI q.1) (h1 : r1 (9 + 3 * nS s + 1) = zI q.2.1) (h2 : r1 (9 + 3 * nS s + 2) = zI q.2.2) (hj : ∀ j, j < 9 + 3 * nS s → j ≠ 5 → r1 j = r j) : RowR r1 (addI s q) := by
  obtain ⟨a, v, x, y, t, n, d, m, i, l⟩ := s
  have hn : n < 8 := hn
  obtain ⟨r0, r1', r2, r3, r4, r5, r6, r7, r8, r9⟩ := hR
  have hj : ∀ j, j < 9 + 3 * n → j ≠ 5 → r1 j = r j := hj
  refine ⟨by rw [hj 0 (by omega) (by omega)]; exact r0, by rw [hj 1 (by omega) (by omega)]; exact r1', by rw [hj 2 (by omega) (by omega)]; exact r2, by rw [hj 3 (by omega) (by omega)]; exact r3, by rw [hj 4 (by omega) (by omega)]; exact r4, h5, by rw [hj 6 (by omega) (by omega)]; exact r6, by rw [hj 7 (by omega) (by omega)]; exact r7, by rw [hj 8 (by omega) (by omega)]; exact r8, fun j hjn => ?_⟩
  have hjn : j < n + 1 := hjn
  show r1 (9 + 3 * j) = zI (if j = n then q else d j).1 ∧ r1 (9 + 3 * j + 1) = zI (if j = n then q else d j).2.1 ∧ r1 (9 + 3 * j + 2) = zI (if j = n then q else d j).2.2
  by_cases c : j = n
  · subst c
    rw [if_pos rfl]
    exact ⟨h0, h1, h2⟩
  · rw [if_neg c, hj _ (by omega) (by omega), hj _ (by omega) (by omega), hj _ (by omega) (by omega)]
    exact r9 j (by omega)
