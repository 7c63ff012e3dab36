/-! THE STATE as numbers: acceleration, speed limit, positions, clock, items, steps made, index and steps left of the present move -/
abbrev Itm : Type := Int × Int × Int
abbrev Sg : Type := Nat × Nat × Int32 × Int32 × Int32 × Nat × (Nat → Itm) × Nat × Nat × Nat
def ItOk (d : Itm) : Prop := -999 ≤ d.1 ∧ d.1 ≤ 999 ∧ -999 ≤ d.2.1 ∧ d.2.1 ≤ 999 ∧ 0 ≤ d.2.2 ∧ d.2.2 ≤ 9999 ∧ (d.2.2 = 0 → d.1 ≠ 0 ∨ d.2.1 ≠ 0)
def lenI (d : Itm) : Nat := max d.1.natAbs d.2.1.natAbs
def OkS : Sg → Prop
  | (a, v, _, _, _, n, d, m, i, l) => 1 ≤ a ∧ a ≤ 999 ∧ 1 ≤ v ∧ v ≤ 999 ∧ n ≤ 8 ∧ (∀ j, j < n → ItOk (d j)) ∧ (m = 0 → i = 0 ∧ l = 0) ∧ (0 < m → 0 < n ∧ (d 0).2.2 = 0 ∧ m + l ≤ lenI (d 0) ∧ 1 ≤ l ∧ i ≤ l)
def RowR (r : Nat → Int32) : Sg → Prop
  | (a, v, x, y, t, n, d, m, i, l) => r 0 = zI (a : Int) ∧ r 1 = zI (v : Int) ∧ r 2 = x ∧ r 3 = y ∧ r 4 = t ∧ r 5 = zI (n : Int) ∧ r 6 = zI (m : Int) ∧ r 7 = zI (if m = 0 then -9 else (i : Int)) ∧ r 8 = zI (l : Int) ∧ ∀ j, j < n → r (9 + 3 * j) = zI (d j).1 ∧ r (9 + 3 * j + 1) = zI (d j).2.1 ∧ r (9 + 3 * j + 2) = zI (d j).2.2
theorem RowR.eq {r r' : Nat → Int32} {s : Sg} (hO : OkS s) (h : RowR r s) (e : ∀ j, j < 33 → r' j = r j) : RowR r' s := by
  obtain ⟨a, v, x, y, t, n, d, m, i, l⟩ := s
  obtain ⟨-, -, -, -, hn, -⟩ := hO
  obtain ⟨h0, h1, h2, h3, h4, h5, h6, h7, h8, h9⟩ := h
  refine ⟨by rw [e 0 (by omega)]; exact h0, by rw [e 1 (by omega)]; exact h1, by rw [e 2 (by omega)]; exact h2, by rw [e 3 (by omega)]; exact h3, by rw [e 4 (by omega)]; exact h4, by rw [e 5 (by omega)]; exact h5, by rw [e 6 (by omega)]; exact h6, by rw [e 7 (by omega)]; exact h7, by rw [e 8 (by omega)]; exact h8, fun j hj => ?_⟩
  rw [e (9 + 3 * j) (by omega), e (9 + 3 * j + 1) (by omega), e (9 + 3 * j + 2) (by omega)]
  exact h9 j hj
def dropD (d : Nat → Itm) (i : Nat) : Nat → Itm := fun j => if j < i then d j else d (j + 1)
def nxtI (a v m i l : Nat) : Nat := if m = 0 then 0 else idxA i l (topN a (cr v) 999)
def tkI (a v : Nat) (w : Int) (m i l : Nat) : Nat := if 0 < w then w.toNat else itv a (cr v) (nxtI a v m i l)
def goneN (k f o : Nat) : Nat := (2 * k * f + o) / (2 * o)
def wayZ (dd : Int) (o k : Nat) : Int := if dd < 0 then -(goneN k dd.natAbs o : Int) else (goneN k dd.natAbs o : Int)
/-- the ticks of the next step -/
def tkS : Sg → Nat
  | (a, v, _, _, _, _, d, m, i, l) => tkI a v (d 0).2.2 m i l
def stepS : Sg → Sg
  | (a, v, x, y, t, n, d, m, i, l) =>
    if 0 < (d 0).2.2 then (a, v, x, y, t + zI (tkI a v (d 0).2.2 m i l : Int), n - 1, dropD d 0, 0, 0, 0)
    else if (if m = 0 then lenI (d 0) else l) - 1 = 0 then
      (a, v, x + (zI (wayZ (d 0).1 (lenI (d 0)) (m + 1)) - zI (wayZ (d 0).1 (lenI (d 0)) m)), y + (zI (wayZ (d 0).2.1 (lenI (d 0)) (m + 1)) - zI (wayZ (d 0).2.1 (lenI (d 0)) m)), t + zI (tkI a v (d 0).2.2 m i l : Int), n - 1, dropD d 0, 0, 0, 0)
    else
      (a, v, x + (zI (wayZ (d 0).1 (lenI (d 0)) (m + 1)) - zI (wayZ (d 0).1 (lenI (d 0)) m)), y + (zI (wayZ (d 0).2.1 (lenI (d 0)) (m + 1)) - zI (wayZ (d 0).2.1 (lenI (d 0)) m)), t + zI (tkI a v (d 0).2.2 m i l : Int), n, d, m + 1, nxtI a v m i l, (if m = 0 then lenI (d 0) else l) - 1)
theorem lenI_pos {d : Itm} (h : ItOk d) (hw : d.2.2 = 0) : 1 ≤ lenI d ∧ lenI d ≤ 999 := by
  obtain ⟨h1, h2, h3, h4, h5, h6, h7⟩ := h
  have := h7 hw
  unfold lenI
  omega
theorem idxA_le {p l tp : Nat} (hl : 1 ≤ l) (h : p ≤ l) : idxA p l tp ≤ l - 1 := by
  unfold idxA
  by_cases c1 : p + 1 ≤ min (l - 1) tp
  · rw [if_pos c1]; omega
  · rw [if_neg c1]
    by_cases c2 : p ≤ min (l - 1) tp
    · rw [if_pos c2]; omega
    · rw [if_neg c2]; omega
theorem nxtI_le {a v x y t n d m i l} (h : OkS (a, v, x, y, t, n, d, m, i, l)) : nxtI a v m i l ≤ 998 := by
  obtain ⟨-, -, -, -, -, h6, -, h8⟩ := h
  unfold nxtI
  by_cases c : m = 0
  · rw [if_pos c]; omega
  · rw [if_neg c]
    obtain ⟨b1, b2, b3, b4, b5⟩ := h8 (by omega)
    have := lenI_pos (h6 0 b1) b2
    have := idxA_le (tp := topN a (cr v) 999) b4 b5
    omega
theorem dropD_ok {n : Nat} {d : Nat → Itm} {i : Nat} (h : ∀ j, j < n → ItOk (d j)) : ∀ j, j < n - 1 → ItOk (dropD d i j) := by
  intro j hj
  unfold dropD
  by_cases c : j < i
  · rw [if_pos c]; exact h j (by omega)
  · rw [if_neg c]; exact h (j + 1) (by omega)
theorem OkS_step {s : Sg} (h : OkS s) (hn : 0 < s.2.2.2.2.2.1) : OkS (stepS s) := by
  obtain ⟨a, v, x, y, t, n, d, m, i, l⟩ := s
  have hn : 0 < n := hn
  have hx := nxtI_le h
  obtain ⟨h1, h2, h3, h4, h5, h6, h7, h8⟩ := id h
  unfold stepS
  by_cases c : 0 < (d 0).2.2
  · simp only [if_pos c]
    exact ⟨h1, h2, h3, h4, by omega, dropD_ok h6, fun _ => ⟨rfl, rfl⟩, fun q => absurd q (Nat.lt_irrefl 0)⟩
  · simp only [if_neg c]
    have hw : (d 0).2.2 = 0 := by have := (h6 0 hn).2.2.2.2.1; omega
    have hl := lenI_pos (h6 0 hn) hw
    by_cases c2 : (if m = 0 then lenI (d 0) else l) - 1 = 0
    · simp only [if_pos c2]
      exact ⟨h1, h2, h3, h4, by omega, dropD_ok h6, fun _ => ⟨rfl, rfl⟩, fun q => absurd q (Nat.lt_irrefl 0)⟩
    · simp only [if_neg c2]
      refine ⟨h1, h2, h3, h4, h5, h6, fun q => by omega, fun _ => ⟨hn, hw, ?_⟩⟩
      by_cases c3 : m = 0
      · rw [if_pos c3] at c2 ⊢
        refine ⟨by omega, by omega, ?_⟩
        unfold nxtI
        rw [if_pos c3]
        omega
      · rw [if_neg c3] at c2 ⊢
        obtain ⟨b1, b2, b3, b4, b5⟩ := h8 (by omega)
        refine ⟨by omega, by omega, ?_⟩
        unfold nxtI
        rw [if_neg c3]
        exact idxA_le b4 b5
/-- how many steps are left at most -/
def mu : Sg → Nat
  | (_, _, _, _, _, n, _, m, _, l) => if m = 0 then 999 * n else l + 999 * (n - 1)
theorem mu_le {s : Sg} (h : OkS s) : mu s ≤ 7992 := by
  obtain ⟨a, v, x, y, t, n, d, m, i, l⟩ := s
  obtain ⟨h1, h2, h3, h4, h5, h6, h7, h8⟩ := h
  show (if m = 0 then 999 * n else l + 999 * (n - 1)) ≤ 7992
  by_cases c : m = 0
  · rw [if_pos c]; omega
  · rw [if_neg c]
    obtain ⟨b1, b2, b3, b4, b5⟩ := h8 (by omega)
    have := lenI_pos (h6 0 b1) b2
    omega
theorem mu_step {s : Sg} (h : OkS s) (hn : 0 < s.2.2.2.2.2.1) : mu (stepS s) < mu s := by
  obtain ⟨a, v, x, y, t, n, d, m, i, l⟩ := s
  have hn : 0 < n := hn
  obtain ⟨h1, h2, h3, h4, h5, h6, h7, h8⟩ := h
  unfold stepS
  by_cases c : 0 < (d 0).2.2
  · have hm : m = 0 := by
      rcases Nat.eq_zero_or_pos m with q | q
      · exact q
      · have := (h8 q).2.1; omega
    subst hm
    simp only [if_pos c]
    show (if (0 : Nat) = 0 then 999 * (n - 1) else 0 + 999 * (n - 1 - 1)) < (if (0 : Nat) = 0 then 999 * n else l + 999 * (n - 1))
    rw [if_pos rfl, if_pos rfl]
    omega
  · simp only [if_neg c]
    have hw : (d 0).2.2 = 0 := by have := (h6 0 hn).2.2.2.2.1; omega
    have hl := lenI_pos (h6 0 hn) hw
    by_cases c2 : (if m = 0 then lenI (d 0) else l) - 1 = 0
    · simp only [if_pos c2]
      show (if (0 : Nat) = 0 then 999 * (n - 1) else 0 + 999 * (n - 1 - 1)) < (if m = 0 then 999 * n else l + 999 * (n - 1))
      rw [if_pos rfl]
      by_cases c3 : m = 0
      · rw [if_pos c3]; omega
      · rw [if_neg c3]; have := (h8 (by omega)).2.2.2.1; omega
    · simp only [if_neg c2]
      show (if m + 1 = 0 then 999 * n else (if m = 0 then lenI (d 0) else l) - 1 + 999 * (n - 1)) < (if m = 0 then 999 * n else l + 999 * (n - 1))
      rw [if_neg (by omega)]
      by_cases c3 : m = 0
      · rw [if_pos c3, if_pos c3]; omega
      · rw [if_neg c3, if_neg c3]; have := (h8 (by omega)).2.2.2.1; omega
/-! the reference's rows -/
/-- nothing changes but a row and what is kept -/
def Cr (I I1 : Mem) (k row : Nat) : Prop := (∀ x, x ≠ k → x ≠ k + 8 → x ≠ row → I1 x = I x) ∧ ∀ j, j < 12 → I1 k j = I k j
theorem Cr.rf {I : Mem} {k row : Nat} : Cr I I k row := ⟨fun _ _ _ _ => rfl, fun _ _ => rfl⟩
theorem Cr.tr {I I1 I2 : Mem} {k row : Nat} (h : Cr I I1 k row) (h2 : Cr I1 I2 k row) : Cr I I2 k row := ⟨fun x a b c => (h2.1 x a b c).trans (h.1 x a b c), fun j a => (h2.2 j a).trans (h.2 j a)⟩
theorem Cs.Cr {I I1 : Mem} {k : Nat} (h : Cs I I1 k) (row : Nat) : Cr I I1 k row := ⟨fun x a b _ => h.1 x a b, h.2⟩
theorem Cr.st {I : Mem} {k row j : Nat} {v : Int32} (h1 : row ≠ k) : Cr I (st I row j v) k row := ⟨fun x _ _ c => st_k c, fun j _ => by rw [st_k (Ne.symm h1)]⟩
