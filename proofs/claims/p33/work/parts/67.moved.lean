/-! MOVED: a move alone ends at its distance, and keeps near the line -/
theorem itS_succ : ∀ (j : Nat) (s : Sg), itS (j + 1) s = stepS (itS j s) := by
  intro j
  induction j with
  | zero => intro s; rfl
  | succ j ih =>
    intro s
    show itS (j + 1) (stepS s) = stepS (itS j (stepS s))
    exact ih (stepS s)
theorem goneN_0 {f o : Nat} (ho : 1 ≤ o) : goneN 0 f o = 0 := by
  unfold goneN
  rw [Nat.mul_zero, Nat.zero_mul, Nat.zero_add]
  exact Nat.div_eq_of_lt (by omega)
theorem goneN_o {f o : Nat} (ho : 1 ≤ o) : goneN o f o = f := by
  unfold goneN
  have h1 : 2 * o * f + o = o + 2 * o * f := Nat.add_comm _ _
  rw [h1, Nat.add_mul_div_left _ _ (by omega), Nat.div_eq_of_lt (by omega), Nat.zero_add]
theorem gone_near (k f o : Nat) (ho : 1 ≤ o) : 2 * (goneN k f o * o) ≤ 2 * (k * f) + o ∧ 2 * (k * f) ≤ 2 * (goneN k f o * o) + o := by
  have e1 : 2 * k * f = 2 * (k * f) := Nat.mul_assoc 2 k f
  have e2 : ∀ q, 2 * o * q = 2 * (q * o) := fun q => by rw [Nat.mul_assoc, Nat.mul_comm o q]
  unfold goneN
  rw [e1]
  have h1 := Nat.div_add_mod (2 * (k * f) + o) (2 * o)
  have h2 := Nat.mod_lt (2 * (k * f) + o) (show 2 * o > 0 by omega)
  rw [e2] at h1
  generalize (2 * (k * f) + o) / (2 * o) = q at *
  generalize (2 * (k * f) + o) % (2 * o) = r at *
  generalize q * o = u at *
  generalize k * f = w at *
  omega
theorem way_0 (dd : Int) {o : Nat} (ho : 1 ≤ o) : wayZ dd o 0 = 0 := by
  unfold wayZ
  rw [goneN_0 ho]
  by_cases c : dd < 0
  · rw [if_pos c]; rfl
  · rw [if_neg c]; rfl
theorem way_o (dd : Int) {o : Nat} (ho : 1 ≤ o) : wayZ dd o o = dd := by
  unfold wayZ
  rw [goneN_o ho]
  by_cases c : dd < 0
  · rw [if_pos c]; omega
  · rw [if_neg c]; omega
theorem way_near (dd : Int) (k : Nat) {o : Nat} (ho : 1 ≤ o) : 2 * (wayZ dd o k * (o : Int) - (k : Int) * dd) ≤ (o : Int) ∧ -2 * (wayZ dd o k * (o : Int) - (k : Int) * dd) ≤ (o : Int) := by
  obtain ⟨h1, h2⟩ := gone_near k dd.natAbs o ho
  unfold wayZ
  generalize goneN k dd.natAbs o = q at *
  have c1 : ((q * o : Nat) : Int) = (q : Int) * (o : Int) := Int.natCast_mul q o
  have c2 : ((k * dd.natAbs : Nat) : Int) = (k : Int) * (dd.natAbs : Int) := Int.natCast_mul k dd.natAbs
  by_cases c : dd < 0
  · rw [if_pos c]
    have e1 : dd = -(dd.natAbs : Int) := by omega
    have e2 : (k : Int) * dd = -((k : Int) * (dd.natAbs : Int)) := by
      rw [← Int.mul_neg, ← e1]
    rw [e2, Int.neg_mul, ← c1, ← c2]
    generalize q * o = u at *
    generalize k * dd.natAbs = w at *
    omega
  · rw [if_neg c]
    have e1 : dd = (dd.natAbs : Int) := by omega
    have e2 : (k : Int) * dd = (k : Int) * (dd.natAbs : Int) := by rw [← e1]
    rw [e2, ← c1, ← c2]
    generalize q * o = u at *
    generalize k * dd.natAbs = w at *
    omega
theorem z_back (x p q : Int32) : x + q - (x + p) = q - p := by grind
theorem z_off (x w c : Int32) : x + w + c - (x + c) = w := by grind
theorem z_end (x w c : Int32) : x + w + c = x + c + w := by grind
/-- where a move stands after k steps -/
theorem mvk_at {a v : Nat} {x y t : Int32} {d : Nat → Itm} (hO : OkS (a, v, x, y, t, 1, d, 0, 0, 0)) (hw : (d 0).2.2 ≤ 0) {k : Nat} (hk : k ≤ lenI (d 0)) (hl : 1 ≤ lenI (d 0)) :
    sX (itS k (a, v, x, y, t, 1, d, 0, 0, 0)) = x + zI (wayZ (d 0).1 (lenI (d 0)) k) ∧ sY (itS k (a, v, x, y, t, 1, d, 0, 0, 0)) = y + zI (wayZ (d 0).2.1 (lenI (d 0)) k) ∧ nS (itS k (a, v, x, y, t, 1, d, 0, 0, 0)) = (if k = lenI (d 0) then 0 else 1) := by
  have w1 := way_0 (d 0).1 hl
  have w2 := way_0 (d 0).2.1 hl
  have hl0 : l0S (a, v, x, y, t, 1, d, 0, 0, 0) = lenI (d 0) := rfl
  by_cases c0 : k = 0
  · subst c0
    rw [w1, w2, if_neg (by omega)]
    exact ⟨(Int32.add_zero _).symm, (Int32.add_zero _).symm, rfl⟩
  · obtain ⟨m1, m2⟩ := itS_mv k a v x y t 1 d 0 0 0 hw (by omega) (by rw [hl0]; exact hk)
    by_cases c1 : k = lenI (d 0)
    · rw [m1 (by rw [hl0]; exact c1), w1, w2, Nat.zero_add, if_pos c1]
      exact ⟨congrArg (x + ·) (Int32.sub_zero _), congrArg (y + ·) (Int32.sub_zero _), rfl⟩
    · rw [m2 (by rw [hl0]; omega), w1, w2, Nat.zero_add, if_neg c1]
      exact ⟨congrArg (x + ·) (Int32.sub_zero _), congrArg (y + ·) (Int32.sub_zero _), rfl⟩
/-- the ticks of a move alone -/
theorem mv_left {a v : Nat} {x y t : Int32} {d : Nat → Itm} (hO : OkS (a, v, x, y, t, 1, d, 0, 0, 0)) (hw : (d 0).2.2 ≤ 0) (hl : 1 ≤ lenI (d 0)) (hl9 : lenI (d 0) ≤ 999) :
    sT (runS 8000 BIG (a, v, x, y, t, 1, d, 0, 0, 0)).2 - sT (a, v, x, y, t, 1, d, 0, 0, 0) = zI (mv a (cr v) (lenI (d 0)) : Int) := by
  obtain ⟨o1, o2, o3, o4, -⟩ := id hO
  have hm := mv_bd9 (a := a) (c := cr v) (len := lenI (d 0)) o1 (cr_bd o3 o4).2 hl9
  have hB : (BIG : Int) = 1000000000 := rfl
  obtain ⟨r1, r2⟩ := wm_0 (a := a) (v := v) (x := x) (y := y) (t := t) (n := 1) (d := d) (i := 0) (l := 0) (K := BIG) hw (by omega) hl (by omega)
  have hn := (mvk_at hO hw (Nat.le_refl _) hl).2.2
  rw [if_pos rfl] at hn
  have e := runS_add (lenI (d 0)) (8000 - lenI (d 0)) BIG _ r1
  rw [show lenI (d 0) + (8000 - lenI (d 0)) = 8000 by omega, runS_0 (Or.inl hn)] at e
  rw [e]
  show sT (itS (lenI (d 0)) (a, v, x, y, t, 1, d, 0, 0, 0)) - _ = _
  rw [itS_t, r2]
  generalize zI (mv a (cr v) (lenI (d 0)) : Int) = q
  generalize sT (a, v, x, y, t, 1, d, 0, 0, 0) = p
  grind
theorem pos_x {g : GS} : (spPos g ((0 : Int32)).toInt).1 = sX (sG g) + zI 100000 := by
  unfold spPos
  rw [if_pos (show ((0 : Int32)).toInt = 0 ∨ ((0 : Int32)).toInt = 1 from Or.inl rfl)]
  rfl
theorem pos_y {g : GS} : (spPos g ((1 : Int32)).toInt).1 = sY (sG g) + zI 100000 := by
  unfold spPos
  rw [if_pos (show ((1 : Int32)).toInt = 0 ∨ ((1 : Int32)).toInt = 1 from Or.inr rfl)]
  rfl
theorem w_258 (y1 : Int32) {a v : Nat} {x y t : Int32} {d : Nat → Itm} (hO : OkS (a, v, x, y, t, 1, d, 0, 0, 0)) (hw : (d 0).2.2 ≤ 0) (hl : 1 ≤ lenI (d 0)) {g : GS} {m : Nat} (hg : Gd g m) (hs : sG g = itS (lenI (d 0)) (a, v, x, y, t, 1, d, 0, 0, 0)) :
    D1 (fun N I k => fL_moved_258 N k y1 I (zI (d 0).1) (zI (d 0).2.1) (x + zI 100000) (y + zI 100000) (1 : Int32)) g m := by
  obtain ⟨p1, p2, p3⟩ := mvk_at hO hw (Nat.le_refl _) hl
  rw [if_pos rfl] at p3
  rw [way_o _ hl] at p1 p2
  unfold fL_moved_258
  refine D1.neg (by decide) ?_
  refine D1.call ((d_queueLength hg.1).eqr (r' := (0 : Int32)) (by rw [hs, p3]; rfl)) ?_
  refine D1.pos rfl ?_
  refine D1.call ((d_position hg.1 (0 : Int32)).eqr (r' := x + zI (d 0).1 + zI 100000) (by rw [pos_x, hs, p1])) ?_
  refine D1.pos (z_end _ _ _) ?_
  refine D1.call ((d_position hg.1 (1 : Int32)).eqr (r' := y + zI (d 0).2.1 + zI 100000) (by rw [pos_y, hs, p2])) ?_
  refine D1.pos (z_end _ _ _) ?_
  exact D1.ret hg
theorem w_139 (y1 : Int32) {a v : Nat} {x y t : Int32} {d : Nat → Itm} (hO : OkS (a, v, x, y, t, 1, d, 0, 0, 0)) (hw : (d 0).2.2 ≤ 0) (hl : 1 ≤ lenI (d 0)) (hl9 : lenI (d 0) ≤ 999) :
    ∀ (e j k m : Nat) (g : GS) (v9 : Int32), k + e = lenI (d 0) → j + e ≤ 2000 → v9 = zI ((k + 1 : Nat) : Int) → Gd g m → sG g = itS k (a, v, x, y, t, 1, d, 0, 0, 0) → m + e < 99000 →
    D1 (fun N I kk => fL_moved_139 N kk y1 (N - j) I (zI (d 0).1) (zI (d 0).2.1) (zI (lenI (d 0) : Int)) (x + zI 100000) (y + zI 100000) (1 : Int32) v9) g (m + e) := by
  intro e
  induction e with
  | zero =>
    intro j k m g v9 hk hj h9 hg hs hm
    refine D1.of (fun N I kk hN => (congrArg (fun c => fL_moved_139 N kk y1 c I (zI (d 0).1) (zI (d 0).2.1) (zI (lenI (d 0) : Int)) (x + zI 100000) (y + zI 100000) (1 : Int32) v9) (sub1 hN (by omega))).trans (fL_moved_139.eq_2 ..)) ?_
    have hk2 : k = lenI (d 0) := by omega
    refine D1.pos ?_ (w_258 y1 hO hw hl hg (by rw [hs, hk2]))
    rw [h9, z_lt (by omega) (by omega) (by omega) (by omega)]; omega
  | succ e ih =>
    intro j k m g v9 hk hj h9 hg hs hm
    refine D1.of (fun N I kk hN => (congrArg (fun c => fL_moved_139 N kk y1 c I (zI (d 0).1) (zI (d 0).2.1) (zI (lenI (d 0) : Int)) (x + zI 100000) (y + zI 100000) (1 : Int32) v9) (sub1 hN (by omega))).trans (fL_moved_139.eq_2 ..)) ?_
    refine D1.neg ?_ ?_
    · rw [h9, z_lt (by omega) (by omega) (by omega) (by omega)]; omega
    refine D1.neg (by decide) ?_
    obtain ⟨-, -, p3⟩ := mvk_at hO hw (k := k) (by omega) hl
    rw [if_neg (by omega)] at p3
    have hn0 : nS (sG g) ≠ 0 := by rw [hs, p3]; decide
    have htk := tkS_bd hg.1.S (Nat.pos_of_ne_zero hn0)
    have hg2 := gd_stepA hg (by omega) hn0
    have hs2 : sG (actG g (stepS (sG g))) = itS (k + 1) (a, v, x, y, t, 1, d, 0, 0, 0) := by rw [ag_s, hs, itS_succ]
    obtain ⟨p1, p2, -⟩ := mvk_at hO hw (k := k + 1) (by omega) hl
    obtain ⟨n1, n2⟩ := way_near (d 0).1 (k + 1) hl
    obtain ⟨n3, n4⟩ := way_near (d 0).2.1 (k + 1) hl
    refine D1.call ((d_step hg.1).to (step_to hn0)) ?_
    refine D1.neg ?_ ?_
    · rw [l_0, z_le (by omega) (by omega) (by omega) (by omega)]; omega
    refine D1.call ((d_position hg2.1 (0 : Int32)).eqr (r' := x + zI (wayZ (d 0).1 (lenI (d 0)) (k + 1)) + zI 100000) (by rw [pos_x, hs2, p1])) ?_
    refine D1.lt ?_
    refine D1.call ((d_position hg2.1 (1 : Int32)).eqr (r' := y + zI (wayZ (d 0).2.1 (lenI (d 0)) (k + 1)) + zI 100000) (by rw [pos_y, hs2, p2])) ?_
    refine D1.lt ?_
    rw [z_off, z_off, h9, z_mul, z_mul, z_mul, z_mul, z_sub, z_sub]
    generalize wayZ (d 0).1 (lenI (d 0)) (k + 1) * (lenI (d 0) : Int) - ((k + 1 : Nat) : Int) * (d 0).1 = o1 at *
    generalize wayZ (d 0).2.1 (lenI (d 0)) (k + 1) * (lenI (d 0) : Int) - ((k + 1 : Nat) : Int) * (d 0).2.1 = o2 at *
    refine D1.neg ?_ ?_
    · rw [l_2, z_mul, z_lt (by omega) (by omega) (by omega) (by omega)]; omega
    refine D1.neg ?_ ?_
    · rw [l_m2, z_mul, z_lt (by omega) (by omega) (by omega) (by omega)]; omega
    refine D1.neg ?_ ?_
    · rw [l_2, z_mul, z_lt (by omega) (by omega) (by omega) (by omega)]; omega
    refine D1.neg ?_ ?_
    · rw [l_m2, z_mul, z_lt (by omega) (by omega) (by omega) (by omega)]; omega
    refine D1.lt ?_
    exact (ih (j + 1) (k + 1) (m + 1) _ _ (by omega) (by omega) (by rw [l_1, z_add]; rfl) hg2 hs2 (by omega)).le (by omega)
theorem w_most {u w : Nat} (hu : u ≤ 999) (hw : w ≤ 999) (g : GS) : Do (fun N I _ => fL_most N I (zI (u : Int)) (zI (w : Int))) g (zI ((max u w : Nat) : Int)) g := by
  unfold fL_most
  by_cases c : u ≤ w
  · refine Do.pos ?_ ?_
    · rw [z_le (by omega) (by omega) (by omega) (by omega)]; omega
    · rw [Nat.max_eq_right c]
      exact Do.ret _ _
  · refine Do.neg ?_ ?_
    · rw [z_le (by omega) (by omega) (by omega) (by omega)]; omega
    · rw [Nat.max_eq_left (by omega)]
      exact Do.ret _ _
theorem w_87 (y1 : Int32) {a v : Nat} {x y t : Int32} {d : Nat → Itm} (hO : OkS (a, v, x, y, t, 1, d, 0, 0, 0)) (hw : (d 0).2.2 = 0) {g : GS} {m : Nat} (hg : Gd g m) (hs : sG g = (a, v, x, y, t, 1, d, 0, 0, 0)) (hm : m < 90000) {u0 u1 : Int32} (h0 : u0 = zI ((d 0).2.1.natAbs : Int)) (h1 : u1 = zI ((d 0).1.natAbs : Int)) :
    D1 (fun N I k => fL_moved_87 N k y1 I (zI (d 0).1) (zI (d 0).2.1) u0 u1) g (m + 1000) := by
  obtain ⟨o1, o2, o3, o4, o5, o6, o7, o8⟩ := id hO
  have hi := o6 0 (by omega)
  obtain ⟨hl, hl9⟩ := lenI_pos hi hw
  obtain ⟨b1, b2, b3, b4, -⟩ := hi
  have hw' : (d 0).2.2 ≤ 0 := by omega
  have hl0 : lenI (d 0) = max (d 0).1.natAbs (d 0).2.1.natAbs := rfl
  subst h0 h1
  unfold fL_moved_87
  refine D1.call ((w_most (u := (d 0).1.natAbs) (w := (d 0).2.1.natAbs) (by omega) (by omega) g).eqr (r' := zI (lenI (d 0) : Int)) rfl) ?_
  refine D1.call ((d_position hg.1 (0 : Int32)).eqr (r' := x + zI 100000) (by rw [pos_x, hs])) ?_
  refine D1.call ((d_position hg.1 (1 : Int32)).eqr (r' := y + zI 100000) (by rw [pos_y, hs])) ?_
  refine D1.call ((d_itemAt hg.1 (0 : Int32)).eqr (r' := zI (lenI (d 0) : Int)) ?_) ?_
  · unfold spItem
    rw [hs, show ((0 : Int32)).toInt = 0 from rfl]
    show zI (if (0 : Int) ≤ 0 ∧ (0 : Int) < ((1 : Nat) : Int) then (if 0 < (d 0).2.2 then _ else if (0 : Int) = 0 ∧ (0 : Nat) ≠ 0 then _ else (lenI (d 0) : Int)) else -1) = _
    rw [if_pos (by decide), if_neg (by omega), if_neg (by decide)]
  refine D1.pos rfl ?_
  refine D1.call ((d_ticksLeft hg.1).eqr (r' := zI (mv a (cr v) (lenI (d 0)) : Int)) ?_) ?_
  · unfold spLeft
    rw [hs]
    exact mv_left hO hw' hl hl9
  refine D1.call ((d_mvt hg.1 hl hl9 rfl).eqr (r' := zI (mv a (cr v) (lenI (d 0)) : Int)) (by rw [hs])) ?_
  refine D1.pos rfl ?_
  unfold fL_moved_134
  exact (w_139 y1 hO hw' hl hl9 (lenI (d 0)) 0 0 m g (1 : Int32) (by omega) (by omega) l_1 hg hs (by omega)).le (by omega)
theorem z_abs {v : Int} (c : (0 : Int32) ≤ zI v) (h1 : -1000 ≤ v) (h2 : v ≤ 1000) : zI v = zI (v.natAbs : Int) := by
  rw [l_0, z_le (by omega) (by omega) (by omega) (by omega)] at c
  exact congrArg zI (by omega)
theorem z_absn {v : Int} (c : ¬ (0 : Int32) ≤ zI v) (h1 : -1000 ≤ v) (h2 : v ≤ 1000) : -zI v = zI (v.natAbs : Int) := by
  rw [l_0, z_le (by omega) (by omega) (by omega) (by omega)] at c
  rw [z_neg]
  exact congrArg zI (by omega)
theorem w_74 (y1 : Int32) {a v : Nat} {x y t : Int32} {d : Nat → Itm} (hO : OkS (a, v, x, y, t, 1, d, 0, 0, 0)) (hw : (d 0).2.2 = 0) {g : GS} {m : Nat} (hg : Gd g m) (hs : sG g = (a, v, x, y, t, 1, d, 0, 0, 0)) (hm : m < 90000) {u1 : Int32} (h1 : u1 = zI ((d 0).1.natAbs : Int)) :
    D1 (fun N I k => fL_moved_74 N k y1 I (zI (d 0).1) (zI (d 0).2.1) u1) g (m + 1000) := by
  obtain ⟨o1, o2, o3, o4, o5, o6, o7, o8⟩ := id hO
  obtain ⟨b1, b2, b3, b4, -⟩ := o6 0 (by omega)
  unfold fL_moved_74
  refine D1.br (fun c => ?_) (fun c => ?_)
  · exact w_87 y1 hO hw hg hs hm (z_abs c (by omega) (by omega)) h1
  · exact w_87 y1 hO hw hg hs hm (z_absn c (by omega) (by omega)) h1
theorem w_moved {g : GS} {m : Nat} (hg : Gd g m) (hm : m < 89000) {y : Int} (hy : 0 ≤ y) (hy2 : y < 2147483648) : D1 (fun N I k => fL_moved N I k (zI y)) g (m + 1100) := by
  have h8 := hg.1.S.b.2.2.2.2
  obtain ⟨dx, hdx⟩ : ∃ dx : Int, dx = y % 61 - 30 := ⟨_, rfl⟩
  obtain ⟨dy, hdy⟩ : ∃ dy : Int, dy = y / 61 % 41 - 20 := ⟨_, rfl⟩
  have ex : zI y - zI y / (61 : Int32) * (61 : Int32) - (30 : Int32) = zI dx := by
    rw [show (61 : Int32) = zI 61 from rfl, show (30 : Int32) = zI 30 from rfl, z_remI hy hy2 (by decide) (by decide), z_sub, hdx]
  have ey : zI y / (61 : Int32) - zI y / (61 : Int32) / (41 : Int32) * (41 : Int32) - (20 : Int32) = zI dy := by
    rw [show (61 : Int32) = zI 61 from rfl, show (41 : Int32) = zI 41 from rfl, show (20 : Int32) = zI 20 from rfl, z_divI hy hy2 (by decide) (by decide), z_remI (by omega) (by omega) (by decide) (by decide), z_sub, hdy]
  unfold fL_moved
  refine D1.call (d_queueLength hg.1) ?_
  by_cases cm : sM (sG g) = 0
  · refine D1.call ((d_rampIndex hg.1).eqr (ramp_0 cm)) ?_
    refine D1.pos rfl ?_
    refine D1.br (fun _ => D1.ret (hg.le (by omega))) (fun c => ?_)
    rw [l_0, z_lt (by omega) (by omega) (by omega) (by omega)] at c
    have hn : nS (sG g) = 0 := by omega
    rw [ex, ey]
    by_cases c0 : dx = 0 ∧ dy = 0
    · refine D1.call ((d_addMove hg.1 (zI dx) (zI dy)).to (r := (-2 : Int32)) (g' := g) ?_) ?_
      · rw [zI_t (by omega) (by omega), zI_t (by omega) (by omega)]
        unfold spMove
        rw [if_neg (fun q => q.2.2.2.2 c0), l_m2]
      exact D1.neg (by decide) (D1.ret (hg.le (by omega)))
    · have hsp : spMove g (zI dx).toInt (zI dy).toInt = (zI ((nS (sG g) + 1 : Nat) : Int), actG g (addI (sG g) (dx, dy, 0))) := by
        rw [zI_t (by omega) (by omega), zI_t (by omega) (by omega)]
        unfold spMove spAdd
        rw [if_pos ⟨by omega, by omega, by omega, by omega, c0⟩, if_neg (by omega)]
      have hg2 : Gd (actG g (addI (sG g) (dx, dy, 0))) (m + 1) := by
        have := gd_move (z := (zI dx).toInt) (w := (zI dy).toInt) hg (by omega)
        rw [hsp] at this
        exact this
      obtain ⟨a, v, d, x, yy, t, hs2, hd0⟩ : ∃ (a v : Nat) (d : Nat → Itm) (x yy t : Int32), sG (actG g (addI (sG g) (dx, dy, 0))) = (a, v, x, yy, t, 1, d, 0, 0, 0) ∧ d 0 = (dx, dy, 0) := by
        rw [ag_s]
        have hO := hg.1.S
        generalize sG g = s at *
        obtain ⟨a, v, x, yy, t, n, d, mm, i, l⟩ := s
        have hn : n = 0 := hn
        have cm : mm = 0 := cm
        subst hn cm
        obtain ⟨-, -, -, -, -, -, o7, -⟩ := hO
        obtain ⟨rfl, rfl⟩ := o7 rfl
        exact ⟨a, v, _, x, yy, t, rfl, if_pos rfl⟩
      generalize actG g (addI (sG g) (dx, dy, 0)) = g2 at hsp hg2 hs2
      have hO2 : OkS (a, v, x, yy, t, 1, d, 0, 0, 0) := by rw [← hs2]; exact hg2.1.S
      refine D1.call ((d_addMove hg.1 (zI dx) (zI dy)).to hsp) ?_
      refine D1.pos ?_ ?_
      · rw [l_0, z_le (by omega) (by omega) (by omega) (by omega)]; omega
      refine D1.lt (D1.lt ?_)
      have e1 : dx = (d 0).1 := by rw [hd0]
      have e2 : dy = (d 0).2.1 := by rw [hd0]
      rw [e1, e2]
      have hx1 : -1000 ≤ (d 0).1 ∧ (d 0).1 ≤ 1000 := by rw [← e1]; omega
      refine D1.br (fun c => ?_) (fun c => ?_)
      · exact (w_74 _ hO2 (by rw [hd0]) hg2 hs2 (by omega) (z_abs c hx1.1 hx1.2)).le (by omega)
      · exact (w_74 _ hO2 (by rw [hd0]) hg2 hs2 (by omega) (z_absn c hx1.1 hx1.2)).le (by omega)
  · have hb := m_bd hg.1.S
    refine D1.call ((d_rampIndex hg.1).eqr (ramp_i cm rfl)) ?_
    refine D1.neg ?_ (D1.ret (hg.le (by omega)))
    rw [l_m9, z_eq (by omega) (by omega) (by omega) (by omega)]; omega
