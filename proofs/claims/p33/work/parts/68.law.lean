/-! THE LAW -/
theorem lq {α β : Type} {a : Option (α × Mem)} {r : α} {I1 : Mem} {f : α → Mem → Option β} {z : Option β} (h : a = some (r, I1)) (h2 : f r I1 = z) : clP a f = z := by
  rw [h]
  exact h2
theorem z_and (w : Int32) : ∃ y : Int, (w &&& (2147483647 : Int32)) = zI y ∧ 0 ≤ y ∧ y < 2147483648 := by
  obtain ⟨y, hy, h1, h2⟩ := zI_of (w &&& (2147483647 : Int32))
  refine ⟨y, hy, ?_, h2⟩
  have hm : (w &&& (2147483647 : Int32)).toBitVec.msb = false := by
    rw [Int32.toBitVec_and, BitVec.msb_and, show ((2147483647 : Int32)).toBitVec.msb = false from by decide +kernel, Bool.and_false]
  rw [BitVec.msb_eq_toInt] at hm
  have h3 := of_decide_eq_false hm
  have h4 : (w &&& (2147483647 : Int32)).toBitVec.toInt = (w &&& (2147483647 : Int32)).toInt := rfl
  rw [h4, hy, zI_t h1 h2] at h3
  omega
theorem w_cell (N : Nat) (I : Mem) {xs : Nat → Int32} {L : Nat} (hL : L ≤ 260) {v : Nat} (hv : v ≤ 1000) {a1 : Int32} (ha : a1 = zI (v : Int)) : ∃ y : Int, fL_cell N I xs L a1 = some (zI y, I) ∧ 0 ≤ y ∧ y < 2147483648 := by
  subst ha
  have eL : Int32.ofNat L = zI (L : Int) := rfl
  unfold fL_cell
  rw [eL]
  by_cases c : L ≤ v
  · obtain ⟨y, h1, h2⟩ := z_and ((15566003 : Int32) * zI (v : Int) + (10067 : Int32))
    refine ⟨y, ?_, h2⟩
    rw [if_pos (by rw [z_le (by omega) (by omega) (by omega) (by omega)]; omega), h1]
  · obtain ⟨y, h1, h2⟩ := z_and (xs (zI (v : Int)).toNatClampNeg)
    refine ⟨y, ?_, h2⟩
    rw [if_neg (by rw [z_le (by omega) (by omega) (by omega) (by omega)]; omega), if_neg (by rw [l_0, z_lt (by omega) (by omega) (by omega) (by omega), z_nat (by omega) (by omega)]; omega), h1]
/-- both planners by the same piece -/
theorem both {F : Nat → Mem → Nat → Option (Int32 × Mem)} {g g' : GS} {r : Int32} (hD : Do F g r g') {N : Nat} (hN : 9000 ≤ N) {I : Mem} (hp : CInv I 0 g) (hq : CInv I 81 g) : ∃ I1 I2, F N I 0 = some (r, I1) ∧ F N I1 81 = some (r, I2) ∧ CInv I2 0 g' ∧ CInv I2 81 g' := by
  obtain ⟨I1, e1, i1, f1⟩ := hD N I 0 hN (Or.inl rfl) hp
  obtain ⟨I2, e2, i2, f2⟩ := hD N I1 81 hN (Or.inr rfl) (hq.fr (fun x x1 x2 => f1 x (by omega)))
  exact ⟨I1, I2, e1, e2, i1.fr (fun x x1 x2 => f2 x (by omega)), i2⟩
set_option maxRecDepth 100000 in
theorem law_walk {N : Nat} (hN : 9000 ≤ N) (xs : Nat → Int32) {L : Nat} (hL : L ≤ 260) : ∀ (e cnt v n : Nat) (I : Mem) (g : GS) (v4 : Int32), v + e = 8 → e < cnt → v4 = zI (v : Int) → n + 3000 * e < 80000 → CInv I 0 g → CInv I 81 g → Gd g n → fL_law_24 N xs L cnt I (1 : Int32) v4 = some 1 := by
  intro e
  induction e with
  | zero =>
    intro cnt v n I g v4 hv hc h4 hn hp hq hg
    obtain ⟨cnt, rfl⟩ : ∃ x, cnt = x + 1 := ⟨cnt - 1, by omega⟩
    rw [fL_law_24, if_pos (by rw [h4, l_8, z_le (by omega) (by omega) (by omega) (by omega)]; omega)]
  | succ e ih =>
    intro cnt v n I g v4 hv hc h4 hn hp hq hg
    obtain ⟨cnt, rfl⟩ : ∃ x, cnt = x + 1 := ⟨cnt - 1, by omega⟩
    rw [fL_law_24, if_neg (by rw [h4, l_8, z_le (by omega) (by omega) (by omega) (by omega)]; omega), if_neg (by decide)]
    have b5 : v + 1 + e = 8 := by omega
    have b6 : e < cnt := by omega
    have b1 : n < 90000 := by omega
    have b2 : n + 200 < 90000 := by omega
    have b3 : n + 200 + 1300 < 89000 := by omega
    have b4 : n + 200 + 1300 + 1100 + 3000 * e < 80000 := by omega
    obtain ⟨x, ex, x1, x2⟩ := w_cell N I (xs := xs) hL (v := 2 * v) (by omega) (a1 := (2 : Int32) * v4) (by rw [h4, l_2, z_mul]; rfl)
    obtain ⟨y, ey, y1, y2⟩ := w_cell N I (xs := xs) hL (v := 2 * v + 1) (by omega) (a1 := (2 : Int32) * v4 + (1 : Int32)) (by rw [h4, l_2, l_1, z_mul, z_add]; rfl)
    refine lq ex (lq ey ?_)
    -- an action
    obtain ⟨r, g1, hg1, hD1⟩ := w_act hg b1 (zI x) y1 y2
    obtain ⟨I1, I2, a1, a2, p1, q1⟩ := both hD1 hN hp hq
    refine lq a1 (lq a2 ?_)
    rw [if_pos rfl]
    -- errors
    obtain ⟨I3, a3, q3, f3⟩ := w_errors hg1.1 N I2 81 hN (Or.inr rfl) q1
    have p3 := p1.fr (fun x x1 x2 => f3 x (by omega))
    refine lq a3 ?_
    rw [if_neg (by decide)]
    obtain ⟨I4, a4, p4, q4⟩ := w_alike hg1.1 N I3 hN p3 q3
    refine lq a4 ?_
    rw [if_neg (by decide)]
    obtain ⟨I5, a5, p5, f5⟩ := w_ramped hg1.1 y1 y2 N I4 0 hN (Or.inl rfl) p4
    have q5 := q4.fr (fun x x1 x2 => f5 x (by omega))
    refine lq a5 ?_
    rw [if_neg (by decide)]
    obtain ⟨g2, hg2, hD2⟩ := w_ahead hg1 b2 y1 y2
    obtain ⟨I6, I7, a6, a7, p7, q7⟩ := both hD2 hN p5 q5
    refine lq a6 ?_
    rw [if_neg (by decide)]
    refine lq a7 ?_
    rw [if_neg (by decide)]
    obtain ⟨g3, hg3, hD3⟩ := w_moved hg2 b3 y1 y2
    obtain ⟨I8, I9, a8, a9, p9, q9⟩ := both hD3 hN p7 q7
    refine lq a8 ?_
    rw [if_neg (by decide)]
    refine lq a9 ?_
    rw [if_neg (by decide)]
    obtain ⟨I10, a10, p10, q10⟩ := w_alike hg3.1 N I9 hN p9 q9
    refine lq a10 ?_
    rw [if_neg (by decide)]
    exact ih cnt (v + 1) (n + 200 + 1300 + 1100) I10 g3 _ b5 b6 (by rw [h4, l_1, z_add]; rfl) b4 p10 q10 hg3
/-! the start -/
def s00 : Sg := (100, 200, zI 0, zI 0, zI 0, 0, fun _ => (0, 0, 0), 0, 0, 0)
def g00 : GS := (0, fun _ => 0, s00, 0, 0, fun _ => s00, fun _ => none)
theorem no_a {a : Nat} (h1 : 1 ≤ a) (h2 : a ≤ 999) (h : (0 : Int32) = zI (a : Int)) : False := by
  rw [l_0, z_eq (by omega) (by omega) (by omega) (by omega)] at h
  omega
theorem ok00 : OkS s00 := ⟨by decide, by decide, by decide, by decide, by decide, fun j hj => absurd hj (Nat.not_lt_zero j), fun _ => ⟨rfl, rfl⟩, fun h => absurd h (Nat.lt_irrefl 0)⟩
theorem gd00 : Gd g00 0 := ⟨⟨Nat.zero_le _, fun j hj => absurd hj (Nat.not_lt_zero j), ok00, Nat.zero_le _, Nat.le_refl _, Nat.zero_le _, fun i hi => absurd hi (Nat.not_lt_zero i), fun b z hz => by cases hz⟩, Nat.le_refl _⟩
theorem str00 {k : Nat} (h : tag k = 4) : StR I00 k s00 := by
  have e : I00 k = fun j => if j = 0 then 100 else if j = 1 then 200 else 0 := by unfold I00; rw [if_pos h]
  unfold s00 StR
  rw [e]
  exact ⟨rfl, rfl, rfl, rfl, rfl, rfl, rfl, fun h => absurd h (Nat.lt_irrefl 0), fun j hj => absurd hj (Nat.not_lt_zero j)⟩
theorem z00 {k : Nat} (h : tag k ≠ 4) : I00 k = fun _ => 0 := by
  unfold I00
  rw [if_neg h]
theorem inv00 {k : Nat} (hk : k = 0 ∨ k = 81) : CInv I00 k g00 := by
  have t1 : tag (k + 1) ≠ 4 ∧ tag (k + 3) = 4 ∧ tag (k + 11) ≠ 4 ∧ tag (k + 69) ≠ 4 ∧ tag (k + 74) ≠ 4 ∧ tag (k + 79) ≠ 4 ∧ tag (k + 80) ≠ 4 := by
    rcases hk with rfl | rfl <;> decide +kernel
  obtain ⟨t1, t3, t11, t69, t74, t79, t80⟩ := t1
  refine ⟨by rw [z00 t1]; rfl, fun j hj => absurd hj (Nat.not_lt_zero j), str00 t3, by rw [z00 t11]; rfl, by rw [z00 t11]; rfl, fun i hi => absurd hi (Nat.not_lt_zero i), fun b hb => ⟨fun _ => ?_, fun z hz => by cases hz⟩, fun a v h1 h2 h3 h4 h => ?_, ?_⟩
  · rcases (show b = 0 ∨ b = 1 by omega) with rfl | rfl
    · rw [show k + 69 + 5 * 0 = k + 69 from rfl, z00 t69]; rfl
    · rw [show k + 69 + 5 * 1 = k + 74 from rfl, z00 t74]; rfl
  · rw [z00 t79] at h
    exact (no_a h1 h2 h).elim
  · rw [show k + 79 + 1 = k + 80 from rfl, z00 t80]; rfl
theorem law_pure (xs : Nat → Int32) (L : Nat) (hL : L ≤ 260) : ∃ N, fL_law_16 N xs L I00 = some 1 := by
  refine ⟨10000, ?_⟩
  unfold fL_law_16
  obtain ⟨I1, a1, q1, f1⟩ := w_errors gd00.1 10000 I00 81 (by decide) (Or.inr rfl) (inv00 (Or.inr rfl))
  have p1 := (inv00 (Or.inl rfl)).fr (fun x x1 x2 => f1 x (by omega))
  refine lq a1 ?_
  exact law_walk (by decide) xs hL 8 10000 0 0 I1 g00 (0 : Int32) (by omega) (by omega) l_0 (by omega) p1 q1 gd00
