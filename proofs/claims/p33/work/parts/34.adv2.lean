/-! class State: advance -/
theorem e5_way (N : Nat) (I : Mem) {dd : Int} {o k : Nat} (h1 : -999 ≤ dd) (h2 : dd ≤ 999) (ho : 1 ≤ o) (ho2 : o ≤ 999) (hk : k ≤ 999) : f5_way N I (zI dd) (zI (o : Int)) (zI (k : Int)) = some (zI (wayZ dd o k), I) := by
  have e1 := eJ_abs N I (a := dd) (by omega) (by omega)
  have hkf : k * dd.natAbs ≤ 1000 * 1000 := Nat.mul_le_mul (by omega) (by omega)
  have hb : 2 * k * dd.natAbs = 2 * (k * dd.natAbs) := Nat.mul_assoc 2 k _
  have e2 : zI 2 * zI (o : Int) = zI ((2 * o : Nat) : Int) := by rw [z_mul]; rfl
  have e3 : zI 2 * zI (k : Int) * zI (dd.natAbs : Int) + zI (o : Int) = zI ((2 * k * dd.natAbs + o : Nat) : Int) := by rw [z_mul, z_mul, z_add]; rfl
  have e4 : zI ((2 * k * dd.natAbs + o : Nat) : Int) / zI ((2 * o : Nat) : Int) = zI (goneN k dd.natAbs o : Int) := z_divN (by omega) (by omega)
  unfold f5_way wayZ
  generalize dd.natAbs = f at *
  by_cases c : dd < 0
  · rw [if_pos c]
    simp (disch := omega) only [l_0, l_1, l_2, z_le, if_pos, if_neg, e1, clP_s, letM_s, e2, e3, z_eq, e4, z_neg]
  · rw [if_neg c]
    simp (disch := omega) only [l_0, l_1, l_2, z_le, if_pos, if_neg, e1, clP_s, letM_s, e2, e3, z_eq, e4, z_neg]
theorem e5_moveAxes (N : Nat) {I : Mem} {k n m b : Nat} {d : Nat → Itm} {x y : Int32} (hn : 0 < n) (h8 : n ≤ 8) (hd : ItOk (d 0)) (hw : (d 0).2.2 = 0) (h5 : I k 5 = zI (n : Int)) (h9 : I k 9 = zI (m : Int)) (hx : I k 2 = x) (hy : I k 3 = y) (hm : m ≤ 999) (hb : b ≤ 999) (i1 : I (k+1) 0 = zI (d 0).1) (i2 : I (k+2) 0 = zI (d 0).2.1) : f5_moveAxes N I k (zI (b : Int)) = some (st (st I k 2 (x + (zI (wayZ (d 0).1 (lenI (d 0)) m) - zI (wayZ (d 0).1 (lenI (d 0)) b)))) k 3 (y + (zI (wayZ (d 0).2.1 (lenI (d 0)) m) - zI (wayZ (d 0).2.1 (lenI (d 0)) b)))) := by
  have hl := lenI_pos hd hw
  have e1 : f5_lengthOf N I k (zI 0) = some (zI (lenI (d 0) : Int), I) := e5_lengthOf N (j := 0) h5 h8 hn hd i1 i2
  obtain ⟨b1, b2, b3, b4, -⟩ := id hd
  have w1 := e5_way N I (k := m) b1 b2 hl.1 hl.2 hm
  have w2 := e5_way N I (k := b) b1 b2 hl.1 hl.2 hb
  obtain ⟨I2, hI2⟩ : ∃ I2, I2 = st I k 2 (x + (zI (wayZ (d 0).1 (lenI (d 0)) m) - zI (wayZ (d 0).1 (lenI (d 0)) b))) := ⟨_, rfl⟩
  have w3 := e5_way N I2 (k := m) b3 b4 hl.1 hl.2 hm
  have w4 := e5_way N I2 (k := b) b3 b4 hl.1 hl.2 hb
  have s2 : I2 (k+2) 0 = zI (d 0).2.1 := by rw [hI2, st_k (by omega)]; exact i2
  have s9 : I2 k 9 = zI (m : Int) := by rw [hI2, st_j (by omega)]; exact h9
  have s3 : I2 k 3 = y := by rw [hI2, st_j (by omega)]; exact hy
  unfold f5_moveAxes
  rw [← hI2, l_0]
  simp only [e1, clP_s, i1, h9, w1, w2, letM_s, hx, ← hI2, s2, s9, w3, w4, s3]
theorem e5_drop0 {N : Nat} {I : Mem} {k a v n : Nat} {x y t : Int32} {d : Nat → Itm} (hN : 100 ≤ N) (hn : 0 < n) (h8 : n ≤ 8) (r0 : I k 0 = zI (a : Int)) (r1 : I k 1 = zI (v : Int)) (r2 : I k 2 = x) (r3 : I k 3 = y) (r4 : I k 4 = t) (r5 : I k 5 = zI (n : Int)) (ri : ∀ j, j < n → I (k+1) j = zI (d j).1 ∧ I (k+2) j = zI (d j).2.1 ∧ I (k+3) j = zI (d j).2.2) : ∃ I1, f5_dropItem N I k (zI 0) = some I1 ∧ StR I1 k (a, v, x, y, t, n - 1, dropD d 0, 0, 0, 0) ∧ Fs I I1 k := by
  obtain ⟨I2, hI2⟩ : ∃ I2, I2 = st I k 9 (zI 0) := ⟨_, rfl⟩
  have g : ∀ j, j ≠ 9 → I2 k j = I k j := fun j a => by rw [hI2, st_j a]
  have gx : ∀ z, z ≠ k → I2 z = I z := fun z hz => by rw [hI2, st_k hz]
  have hS : StR I2 k (a, v, x, y, t, n, d, 0, 0, 0) := ⟨by rw [g 0 (by omega)]; exact r0, by rw [g 1 (by omega)]; exact r1, by rw [g 2 (by omega)]; exact r2, by rw [g 3 (by omega)]; exact r3, by rw [g 4 (by omega)]; exact r4, by rw [g 5 (by omega)]; exact r5, by rw [hI2, st_s]; rfl, fun q => absurd q (Nat.lt_irrefl 0), fun j hj => by rw [gx _ (by omega), gx _ (by omega), gx _ (by omega)]; exact ri j hj⟩
  obtain ⟨I1, q1, q2, q3, q4⟩ := e5_drop (N := N) (j := 0) hN (show n ≤ 8 from h8) (show 0 < n from hn) hS
  refine ⟨I1, ?_, ?_, Fs.tr (fun z hz => gx z (by omega)) q4⟩
  · rw [← q1]
    have e1 := e5_hasItem N (i := 0) r5 h8 (by omega) (by omega)
    have e2 := e5_hasItem N (i := 0) (I := I2) (k := k) (n := n) (by rw [g 5 (by omega)]; exact r5) h8 (by omega) (by omega)
    rw [if_pos (by omega)] at e1 e2
    have u : st I2 k 9 (zI 0) = I2 := by
      rw [hI2]
      funext z q
      by_cases c : z = k
      · subst c
        by_cases c2 : q = 9
        · rw [c2, st_s, st_s]
        · rw [st_j c2, st_j c2]
      · rw [st_k c, st_k c]
    unfold f5_dropItem
    simp (disch := omega) only [show ((0 : Nat) : Int) = 0 from rfl, e1, e2, l_0, l_1, clP_s, clM_s, letM_s, z_eq, if_pos, if_neg, u, ← hI2, if_true]
  · have q2' : StR I1 k (a, v, x, y, t, n - 1, dropD d 0, if 0 = 0 then 0 else 0, if 0 = 0 then 0 else 0, if 0 = 0 then 0 else 0) := q2
    exact q2'
/-- after its steps: the axes, and the item's end -/
theorem e5_am_67 {N : Nat} {k k1 a v n : Nat} {d : Nat → Itm} {x y t : Int32} {m i l j : Nat} {I I8 : Mem} (a2 a3 : Int32) (hN : 100 ≤ N) (hO : OkS (a, v, x, y, t, n, d, m, i, l)) (hn : 0 < n) (hw : (d 0).2.2 ≤ 0) (hS : StR I k (a, v, x, y, t, n, d, m, i, l)) (hj : j ≤ l0S (a, v, x, y, t, n, d, m, i, l)) (h4 : I8 k 4 = t + zI (tsum j (a, v, x, y, t, n, d, m, i, l) : Int)) (h9 : I8 k 9 = zI ((m + j : Nat) : Int)) (h10 : I8 k 10 = zI ((l0S (a, v, x, y, t, n, d, m, i, l) - j : Nat) : Int)) (h11 : 0 < m + j → j < l0S (a, v, x, y, t, n, d, m, i, l) → I8 k 11 = zI (sI (itS j (a, v, x, y, t, n, d, m, i, l)) : Int)) (hq : ∀ q, q ≠ 4 → q ≠ 9 → q ≠ 10 → q ≠ 11 → I8 k q = I k q) (hz : ∀ z, z ≠ k → I8 z = I z) :
    ∃ I1, f5_advanceMove_72 N k k1 a2 a3 I8 (zI (m : Int)) = some (zI (j : Int), I1) ∧ StR I1 k (itS j (a, v, x, y, t, n, d, m, i, l)) ∧ Fs I8 I1 k := by
  have hmv := itS_mv j a v x y t n d m i l hw
  obtain ⟨o1, o2, o3, o4, o5, o6, o7, o8⟩ := id hO
  obtain ⟨r0, r1, r2, r3, r4, r5, r9, rp, ri⟩ := id hS
  have hw0 : (d 0).2.2 = 0 := by have := (o6 0 hn).2.2.2.2.1; omega
  have hlen := lenI_pos (o6 0 hn) hw0
  have hl0' : (if m = 0 then lenI (d 0) else l) = l0S (a, v, x, y, t, n, d, m, i, l) := rfl
  generalize l0S (a, v, x, y, t, n, d, m, i, l) = l0 at *
  have hml : m + l0 ≤ 999 ∧ 1 ≤ l0 := by
    by_cases cm : m = 0
    · rw [if_pos cm] at hl0'; omega
    · rw [if_neg cm] at hl0'
      obtain ⟨b1, b2, b3, b4, b5⟩ := o8 (by omega)
      omega
  obtain ⟨I2, hI2⟩ : ∃ I2, I2 = st (st I8 k 2 (x + (zI (wayZ (d 0).1 (lenI (d 0)) (m + j)) - zI (wayZ (d 0).1 (lenI (d 0)) m)))) k 3 (y + (zI (wayZ (d 0).2.1 (lenI (d 0)) (m + j)) - zI (wayZ (d 0).2.1 (lenI (d 0)) m))) := ⟨_, rfl⟩
  have e1 := e5_moveAxes N (I := I8) (k := k) (n := n) (m := m + j) (b := m) (d := d) (x := x) (y := y) hn o5 (o6 0 hn) hw0 (by rw [hq 5 (by omega) (by omega) (by omega) (by omega)]; exact r5) h9 (by rw [hq 2 (by omega) (by omega) (by omega) (by omega)]; exact r2) (by rw [hq 3 (by omega) (by omega) (by omega) (by omega)]; exact r3) (by omega) (by omega) (by rw [hz _ (by omega)]; exact (ri 0 hn).1) (by rw [hz _ (by omega)]; exact (ri 0 hn).2.1)
  rw [← hI2] at e1
  have g : ∀ q, q ≠ 2 → q ≠ 3 → I2 k q = I8 k q := fun q a b => by rw [hI2, st_j b, st_j a]
  have g2 : I2 k 2 = x + (zI (wayZ (d 0).1 (lenI (d 0)) (m + j)) - zI (wayZ (d 0).1 (lenI (d 0)) m)) := by rw [hI2, st_j (by omega), st_s]
  have g3 : I2 k 3 = y + (zI (wayZ (d 0).2.1 (lenI (d 0)) (m + j)) - zI (wayZ (d 0).2.1 (lenI (d 0)) m)) := by rw [hI2, st_s]
  have gx : ∀ z, z ≠ k → I2 z = I8 z := fun z h => by rw [hI2, st_k h, st_k h]
  have p0 : I2 k 0 = zI (a : Int) := by rw [g 0 (by omega) (by omega), hq 0 (by omega) (by omega) (by omega) (by omega)]; exact r0
  have p1 : I2 k 1 = zI (v : Int) := by rw [g 1 (by omega) (by omega), hq 1 (by omega) (by omega) (by omega) (by omega)]; exact r1
  have p4 : I2 k 4 = t + zI (tsum j (a, v, x, y, t, n, d, m, i, l) : Int) := by rw [g 4 (by omega) (by omega)]; exact h4
  have p5 : I2 k 5 = zI (n : Int) := by rw [g 5 (by omega) (by omega), hq 5 (by omega) (by omega) (by omega) (by omega)]; exact r5
  have p9 : I2 k 9 = zI ((m + j : Nat) : Int) := by rw [g 9 (by omega) (by omega)]; exact h9
  have p10 : I2 k 10 = zI ((l0 - j : Nat) : Int) := by rw [g 10 (by omega) (by omega)]; exact h10
  have pi : ∀ j, j < n → I2 (k+1) j = zI (d j).1 ∧ I2 (k+2) j = zI (d j).2.1 ∧ I2 (k+3) j = zI (d j).2.2 := fun j hj => by
    rw [gx _ (by omega), gx _ (by omega), gx _ (by omega), hz _ (by omega), hz _ (by omega), hz _ (by omega)]
    exact ri j hj
  have hF : Fs I8 I2 k := fun z h => gx z (by omega)
  by_cases cj : j = l0
  · obtain ⟨m1, -⟩ := hmv (by omega) hj
    obtain ⟨I1, q1, q2, q3⟩ := e5_drop0 (N := N) (I := I2) (k := k) (d := d) hN hn o5 p0 p1 g2 g3 p4 p5 pi
    refine ⟨I1, ?_, by rw [m1 cj]; exact q2, hF.tr q3⟩
    unfold f5_advanceMove_72
    rw [h9, l_0]
    simp (disch := omega) only [letM_s, clM_s, e1, p10, z_eq, if_pos, q1, z_sub]
    rw [show ((m + j : Nat) : Int) - (m : Int) = (j : Int) by omega]
  · refine ⟨I2, ?_, ?_, hF⟩
    · unfold f5_advanceMove_72
      rw [h9, l_0]
      simp (disch := omega) only [letM_s, clM_s, e1, p10, z_eq, if_neg, z_sub]
      rw [show ((m + j : Nat) : Int) - (m : Int) = (j : Int) by omega]
    · by_cases c0 : j = 0
      · subst c0
        show StR I2 k (a, v, x, y, t, n, d, m, i, l)
        have gx2 : I2 k 2 = x := by rw [g2, Nat.add_zero, Int32.sub_self, Int32.add_zero]
        have gy2 : I2 k 3 = y := by rw [g3, Nat.add_zero, Int32.sub_self, Int32.add_zero]
        have gt : I2 k 4 = t := by rw [p4]; show t + zI ((0 : Nat) : Int) = t; exact Int32.add_zero t
        refine ⟨p0, p1, gx2, gy2, gt, p5, p9, fun hm => ⟨?_, ?_⟩, pi⟩
        · rw [p10, ← hl0', if_neg (by omega)]; rfl
        · rw [g 11 (by omega) (by omega), h11 (by omega) (by omega)]; rfl
      · obtain ⟨-, m2⟩ := hmv (by omega) hj
        rw [m2 (by omega)]
        exact ⟨p0, p1, g2, g3, p4, p5, p9, fun _ => ⟨p10, by rw [g 11 (by omega) (by omega)]; exact h11 (by omega) (by omega)⟩, pi⟩
theorem sT_eq {s s' : Sg} (h : s = s') : sT s = sT s' := by rw [h]
/-- one round on a move -/
theorem e5_am {N : Nat} {k k1 a v n : Nat} {d : Nat → Itm} {x y t : Int32} {m i l f : Nat} {K : Int} {I : Mem} (hN : 1100 ≤ N) (hk : k1 + 1 < k ∨ k < k1) (hO : OkS (a, v, x, y, t, n, d, m, i, l)) (hn : 0 < n) (hw : (d 0).2.2 ≤ 0) (hS : StR I k (a, v, x, y, t, n, d, m, i, l)) (hR : RampR I k1 a v) (hf : f ≤ 1000000000) (hK : 0 ≤ K) (hK2 : K ≤ 1000000000) :
    ∃ (I1 : Mem) (j : Nat), f5_advanceMove N I k k1 (zI (f : Int)) (zI K) = some (zI (j : Int), I1) ∧ j ≤ 999 ∧ StR I1 k (itS j (a, v, x, y, t, n, d, m, i, l)) ∧ Fs I I1 k ∧ Rn j K (a, v, x, y, t, n, d, m, i, l) ∧ j ≤ f ∧ (nS (itS j (a, v, x, y, t, n, d, m, i, l)) = n - 1 ∨ j = f ∨ K - (tsum j (a, v, x, y, t, n, d, m, i, l) : Int) < (tkS (itS j (a, v, x, y, t, n, d, m, i, l)) : Int)) := by
  have hmv := fun j => itS_mv j a v x y t n d m i l hw
  obtain ⟨o1, o2, o3, o4, o5, o6, o7, o8⟩ := id hO
  obtain ⟨r0, r1, r2, r3, r4, r5, r9, rp, ri⟩ := id hS
  have hw0 : (d 0).2.2 = 0 := by have := (o6 0 hn).2.2.2.2.1; omega
  have hlen := lenI_pos (o6 0 hn) hw0
  have hl0' : (if m = 0 then lenI (d 0) else l) = l0S (a, v, x, y, t, n, d, m, i, l) := rfl
  obtain ⟨l0, hl0⟩ : ∃ l0, l0 = l0S (a, v, x, y, t, n, d, m, i, l) := ⟨_, rfl⟩
  rw [← hl0] at hl0'
  have hml : m + l0 ≤ 999 ∧ 1 ≤ l0 := by
    by_cases cm : m = 0
    · rw [if_pos cm] at hl0'; omega
    · rw [if_neg cm] at hl0'
      obtain ⟨b1, b2, b3, b4, b5⟩ := o8 (by omega)
      omega
  -- what is left stands in its place
  have hA : ∃ I2, f5_advanceMove N I k k1 (zI (f : Int)) (zI K) = f5_advanceMove_20 N k k1 (zI (f : Int)) (zI K) I2 (zI (m : Int)) ∧ StR I2 k (a, v, x, y, t, n, d, m, i, l) ∧ I2 k 10 = zI (l0 : Int) ∧ ∀ z, z ≠ k → I2 z = I z := by
    by_cases cm : m = 0
    · subst cm
      rw [if_pos rfl] at hl0'
      refine ⟨st I k 10 (zI (l0 : Int)), ?_, ⟨by rw [st_j (by omega)]; exact r0, by rw [st_j (by omega)]; exact r1, by rw [st_j (by omega)]; exact r2, by rw [st_j (by omega)]; exact r3, by rw [st_j (by omega)]; exact r4, by rw [st_j (by omega)]; exact r5, by rw [st_j (by omega)]; exact r9, fun q => absurd q (Nat.lt_irrefl 0), fun j hj => by rw [st_k (by omega), st_k (by omega), st_k (by omega)]; exact ri j hj⟩, st_s _ _ _ _, fun z hz => st_k hz⟩
      have e1 : f5_lengthOf N I k (zI 0) = some (zI (lenI (d 0) : Int), I) := e5_lengthOf N (j := 0) r5 o5 hn (o6 0 hn) (ri 0 hn).1 (ri 0 hn).2.1
      have r9' : I k 9 = zI 0 := r9
      unfold f5_advanceMove
      rw [r9', l_0]
      simp (disch := omega) only [letM_s, z_eq, if_pos, e1, clP_s, hl0']
      rfl
    · rw [if_neg cm] at hl0'
      refine ⟨I, ?_, hS, by rw [(rp (by omega)).1, hl0'], fun _ _ => rfl⟩
      unfold f5_advanceMove
      rw [r9, l_0]
      simp (disch := omega) only [letM_s, z_eq, if_neg]
  obtain ⟨I2, a1, a2, a3, a4⟩ := hA
  have hF2 : Fs I I2 k := fun z hz => a4 z (by omega)
  have hR2 : RampR I2 k1 a v := by
    unfold RampR
    rw [a4 k1 (by omega), a4 (k1 + 1) (by omega)]
    exact hR
  -- step by step
  have h53 : ∃ (I1 : Mem) (j : Nat), f5_advanceMove_58 N k k1 (zI (f : Int)) (zI K) I2 (zI (m : Int)) = some (zI (j : Int), I1) ∧ j ≤ 999 ∧ StR I1 k (itS j (a, v, x, y, t, n, d, m, i, l)) ∧ Fs I I1 k ∧ Rn j K (a, v, x, y, t, n, d, m, i, l) ∧ j ≤ f ∧ (nS (itS j (a, v, x, y, t, n, d, m, i, l)) = n - 1 ∨ j = f ∨ K - (tsum j (a, v, x, y, t, n, d, m, i, l) : Int) < (tkS (itS j (a, v, x, y, t, n, d, m, i, l)) : Int)) := by
    have e1 := eJ_min N I2 (a := (f : Int)) (b := (l0 : Int)) (by omega) (by omega) (by omega) (by omega)
    rw [show min (f : Int) (l0 : Int) = ((min f l0 : Nat) : Int) by omega] at e1
    have hq1 : min f l0 ≤ f := Nat.min_le_left _ _
    have hq2 : min f l0 ≤ l0 := Nat.min_le_right _ _
    have hq3 : min f l0 = f ∨ min f l0 = l0 := by omega
    generalize min f l0 = q at *
    obtain ⟨I8, j, q1, q2, q3, q4, q5, q6, q7, q8, q9, q10⟩ := e5_mk N (k := k) (k1 := k1) (a := a) (v := v) (n := n) (d := d) (K0 := K) (f := q) hk hw hn hK2 (by omega) q N 0 K I2 x y t m i l (by omega) (by omega) hO hR2 a2.2.2.2.2.2.2.1 (by rw [a3, hl0]) (fun hm => (a2.2.2.2.2.2.2.2.1 hm).2) (by rw [← hl0]; exact hq2) hK (by omega)
    rw [show K - (K - (tsum j (a, v, x, y, t, n, d, m, i, l) : Int)) = (tsum j (a, v, x, y, t, n, d, m, i, l) : Int) by omega, a2.2.2.2.2.1] at q5
    obtain ⟨I1, u1, u2, u3⟩ := e5_am_67 (N := N) (k1 := k1) (I := I2) (I8 := I8) (j := j) (zI (f : Int)) (zI K) (by omega) hO hn hw a2 (by rw [← hl0]; omega) q5 q6 q7 q8 q9 q10
    refine ⟨I1, j, ?_, by omega, u2, (hF2.tr (fun z hz => q10 z (by omega))).tr u3, q3, by omega, ?_⟩
    · unfold f5_advanceMove_58
      rw [a3]
      have q1' : f5_makeSteps N I2 k k1 (zI (q : Int)) (zI K) = some I8 := q1
      simp only [e1, clP_s, q1', clM_s, u1]
    · rcases q4 with q4 | q4
      · rcases hq3 with w | w
        · exact Or.inr (Or.inl (by omega))
        · refine Or.inl ?_
          obtain ⟨m1, -⟩ := hmv j (by omega) (by rw [← hl0]; omega)
          rw [m1 (by rw [← hl0]; omega)]
      · exact Or.inr (Or.inr q4)
  rw [a1]
  have e1 := e2_ticksOfMove N (len := l0) o1 o3 o4 hR2 (by omega)
  have hmb := mv_bd9 (a := a) (c := cr v) (len := l0) o1 (cr_bd o3 o4).2 (by omega)
  by_cases cm : m = 0
  · by_cases cf : f < l0
    · obtain ⟨I1, j, q⟩ := h53
      refine ⟨I1, j, ?_, q.2⟩
      rw [← q.1]
      unfold f5_advanceMove_20
      rw [a3, l_0]
      simp (disch := omega) only [e1, clP_s, a3, z_eq, z_lt, if_pos]
    · subst cm
      rw [if_pos rfl] at hl0'
      by_cases cK : K < (mv a (cr v) l0 : Int)
      · obtain ⟨I1, j, q⟩ := h53
        refine ⟨I1, j, ?_, q.2⟩
        rw [← q.1]
        generalize mv a (cr v) l0 = M at *
        unfold f5_advanceMove_20
        rw [a3, l_0]
        simp (disch := omega) only [z_eq, z_lt, if_pos, if_neg, e1, clP_s, a3]
      · have hwm := wm_0 (a := a) (v := v) (x := x) (y := y) (t := t) (n := n) (d := d) (i := i) (l := l) (K := K) hw (by omega) (by omega) (by rw [hl0']; omega)
        rw [hl0'] at hwm
        obtain ⟨I8, hI8⟩ : ∃ I8, I8 = st (st (st I2 k 4 (t + zI (mv a (cr v) l0 : Int))) k 9 (zI (l0 : Int))) k 10 (zI 0) := ⟨_, rfl⟩
        have s10 : st I2 k 4 (t + zI (mv a (cr v) l0 : Int)) k 10 = zI (l0 : Int) := by rw [st_j (by omega)]; exact a3
        have s4 : I2 k 4 = t := a2.2.2.2.2.1
        have hpw : f5_passWholeMove N I2 k (zI (mv a (cr v) l0 : Int)) = some I8 := by
          unfold f5_passWholeMove
          simp only [s4, letM_s, s10, l_0, ← hI8]
        obtain ⟨I1, u1, u2, u3⟩ := e5_am_67 (N := N) (k1 := k1) (I := I2) (I8 := I8) (j := l0) (zI (f : Int)) (zI K) (by omega) hO hn hw a2 (by rw [← hl0]; omega) (by rw [hI8, st_j (by omega), st_j (by omega), st_s, hwm.2]) (by rw [hI8, st_j (by omega), st_s, Nat.zero_add]) (by rw [hI8, st_s, ← hl0, Nat.sub_self]; rfl) (fun _ q => by rw [← hl0] at q; exact absurd q (Nat.lt_irrefl _)) (fun q a b c d => by rw [hI8, st_j c, st_j b, st_j a]) (fun z hz => by rw [hI8, st_k hz, st_k hz, st_k hz])
        refine ⟨I1, l0, ?_, by omega, u2, (hF2.tr (fun z hz => by rw [hI8, st_k (by omega), st_k (by omega), st_k (by omega)])).tr u3, hwm.1, by omega, Or.inl ?_⟩
        · rw [← u1]
          generalize mv a (cr v) l0 = M at *
          unfold f5_advanceMove_20
          rw [a3, l_0]
          simp (disch := omega) only [show ((0 : Nat) : Int) = 0 from rfl, z_eq, z_lt, if_pos, if_neg, e1, clP_s, a3, hpw, clM_s, if_true]
        · obtain ⟨m1, -⟩ := hmv l0 (by omega) (by rw [← hl0]; omega)
          rw [m1 hl0]
  · obtain ⟨I1, j, q⟩ := h53
    refine ⟨I1, j, ?_, q.2⟩
    rw [← q.1]
    unfold f5_advanceMove_20
    rw [a3, l_0]
    simp (disch := omega) only [e1, clP_s, z_eq, if_neg]
theorem e5_passWait {N : Nat} {k a v n : Nat} {d : Nat → Itm} {x y t : Int32} {m i l f : Nat} {K : Int} {I : Mem} (hN : 100 ≤ N) (hO : OkS (a, v, x, y, t, n, d, m, i, l)) (hn : 0 < n) (hw : 0 < (d 0).2.2) (hS : StR I k (a, v, x, y, t, n, d, m, i, l)) (hf : f ≤ 1000000000) (hK : 0 ≤ K) (hK2 : K ≤ 1000000000) :
    ∃ (I1 : Mem) (j : Nat), f5_passWait N I k (zI (f : Int)) (zI K) = some (zI (j : Int), I1) ∧ j ≤ 999 ∧ StR I1 k (itS j (a, v, x, y, t, n, d, m, i, l)) ∧ Fs I I1 k ∧ Rn j K (a, v, x, y, t, n, d, m, i, l) ∧ j ≤ f ∧ (nS (itS j (a, v, x, y, t, n, d, m, i, l)) = n - 1 ∨ j = f ∨ K - (tsum j (a, v, x, y, t, n, d, m, i, l) : Int) < (tkS (itS j (a, v, x, y, t, n, d, m, i, l)) : Int)) := by
  obtain ⟨o1, o2, o3, o4, o5, o6, o7, o8⟩ := id hO
  obtain ⟨r0, r1, r2, r3, r4, r5, r9, rp, ri⟩ := id hS
  obtain ⟨b1, b2, b3, b4, b5, b6, b7⟩ := o6 0 hn
  have htk : (tkS (a, v, x, y, t, n, d, m, i, l) : Int) = (d 0).2.2 := by
    show ((tkI a v (d 0).2.2 m i l : Nat) : Int) = _
    unfold tkI
    rw [if_pos hw]
    omega
  have hst : stepS (a, v, x, y, t, n, d, m, i, l) = (a, v, x, y, t + zI (d 0).2.2, n - 1, dropD d 0, 0, 0, 0) := by
    rw [← htk]
    show _ = (a, v, x, y, t + zI ((tkI a v (d 0).2.2 m i l : Nat) : Int), n - 1, dropD d 0, 0, 0, 0)
    unfold stepS
    simp only [if_pos hw]
  have w := (ri 0 hn).2.2
  by_cases cf : f = 0
  · subst cf
    refine ⟨I, 0, ?_, by omega, hS, Fs.rf, trivial, Nat.le_refl _, Or.inr (Or.inl rfl)⟩
    unfold f5_passWait
    rw [l_1]
    simp (disch := omega) only [z_lt, if_pos]
    rfl
  · by_cases cK : K < (d 0).2.2
    · refine ⟨I, 0, ?_, by omega, hS, Fs.rf, trivial, Nat.zero_le _, Or.inr (Or.inr ?_)⟩
      · unfold f5_passWait
        rw [l_1, w]
        simp (disch := omega) only [z_lt, z_le, if_neg]
        rfl
      · show K - ((0 : Nat) : Int) < (tkS (a, v, x, y, t, n, d, m, i, l) : Int)
        rw [htk]
        omega
    · obtain ⟨I2, hI2⟩ : ∃ I2, I2 = st I k 4 (t + zI (d 0).2.2) := ⟨_, rfl⟩
      have g : ∀ j, j ≠ 4 → I2 k j = I k j := fun j a => by rw [hI2, st_j a]
      have gx : ∀ z, z ≠ k → I2 z = I z := fun z hz => by rw [hI2, st_k hz]
      obtain ⟨I1, q1, q2, q3⟩ := e5_drop0 (N := N) (I := I2) (k := k) (d := d) (a := a) (v := v) (x := x) (y := y) (t := t + zI (d 0).2.2) (n := n) hN hn o5 (by rw [g 0 (by omega)]; exact r0) (by rw [g 1 (by omega)]; exact r1) (by rw [g 2 (by omega)]; exact r2) (by rw [g 3 (by omega)]; exact r3) (by rw [hI2, st_s]) (by rw [g 5 (by omega)]; exact r5) (fun j hj => by rw [gx _ (by omega), gx _ (by omega), gx _ (by omega)]; exact ri j hj)
      refine ⟨I1, 1, ?_, by omega, ?_, Fs.tr (fun z hz => gx z (by omega)) q3, ⟨(show n ≠ 0 by omega), by rw [htk]; omega, trivial⟩, by omega, Or.inl ?_⟩
      · unfold f5_passWait
        rw [l_1, w, l_0]
        simp (disch := omega) only [z_lt, z_le, if_neg, if_pos, r4, letM_s, ← hI2, q1, clM_s]
        rfl
      · show StR I1 k (stepS (a, v, x, y, t, n, d, m, i, l))
        rw [hst]
        exact q2
      · show nS (stepS (a, v, x, y, t, n, d, m, i, l)) = n - 1
        rw [hst]
theorem runS_0 {f : Nat} {K : Int} {s : Sg} (h : nS s = 0 ∨ f = 0 ∨ K < (tkS s : Int)) : runS f K s = (0, s) := by
  cases f with
  | zero => rfl
  | succ f => rw [runS, if_pos (h.elim Or.inl (fun q => q.elim (fun e => by omega) Or.inr))]
theorem z_adv {A B C K D : Int32} (h : A - (B - C) = K) : A - (B + D - C) = K - D := by
  rw [← h]
  grind
theorem e5_adv {N k k1 f0 : Nat} {K0 : Int} {t0 : Int32} (hN : 1100 ≤ N) (hk : k1 + 1 < k ∨ k + 3 < k1) (hf0 : f0 ≤ 1000000000) : ∀ (e cnt c rd f : Nat) (K : Int) (I : Mem) (s : Sg), rd + e = 8 → e < cnt → c + f = f0 → OkS s → StR I k s → RampR I k1 (sA s) (sV s) → 0 ≤ K → K ≤ 1000000000 → zI K0 - (sT s - t0) = zI K → (nS s ≤ e ∨ f = 0 ∨ K < (tkS s : Int)) →
    ∃ I1, f5_advance_24 N k k1 (zI (f0 : Int)) (zI K0) cnt I t0 (zI (c : Int)) (zI (rd : Int)) = some (zI ((c + (runS f K s).1 : Nat) : Int), I1) ∧ StR I1 k (runS f K s).2 ∧ Fs I I1 k := by
  intro e
  induction e with
  | zero =>
    intro cnt c rd f K I s h1 h2 h3 hO hS hR h4 h5 h6 h7
    obtain ⟨cnt, rfl⟩ : ∃ x, cnt = x + 1 := ⟨cnt - 1, by omega⟩
    rw [runS_0 (h7.imp (fun q => by omega) id)]
    refine ⟨I, ?_, hS, Fs.rf⟩
    rw [f5_advance_24, l_8]
    simp (disch := omega) only [z_le, if_pos]
    rfl
  | succ e ih =>
    intro cnt c rd f K I s h1 h2 h3 hO hS hR h4 h5 h6 h7
    obtain ⟨cnt, rfl⟩ : ∃ x, cnt = x + 1 := ⟨cnt - 1, by omega⟩
    have hn := hS.n
    have h8 : nS s ≤ 8 := by
      obtain ⟨a, v, x, y, t, n, d, m, i, l⟩ := s
      exact hO.2.2.2.2.1
    by_cases cn : nS s = 0
    · rw [runS_0 (Or.inl cn)]
      refine ⟨I, ?_, hS, Fs.rf⟩
      rw [cn] at hn
      have hn' : I k 5 = zI 0 := hn
      rw [f5_advance_24, l_8, l_0, hn']
      simp (disch := omega) only [z_le, if_pos, if_neg]
      rfl
    · have hB : ∃ (I1 : Mem) (j : Nat), f5_advance_24 N k k1 (zI (f0 : Int)) (zI K0) (cnt + 1) I t0 (zI (c : Int)) (zI (rd : Int)) = (if zI (j : Int) = zI 0 then some (zI (c : Int), I1) else f5_advance_24 N k k1 (zI (f0 : Int)) (zI K0) cnt I1 t0 (zI (c : Int) + zI (j : Int)) (zI (rd : Int) + zI 1)) ∧ j ≤ 999 ∧ StR I1 k (itS j s) ∧ Fs I I1 k ∧ Rn j K s ∧ j ≤ f ∧ (nS (itS j s) = nS s - 1 ∨ j = f ∨ K - (tsum j s : Int) < (tkS (itS j s) : Int)) := by
        obtain ⟨a, v, x, y, t, n, d, m, i, l⟩ := s
        have cn : ¬ n = 0 := cn
        have hn : I k 5 = zI (n : Int) := hn
        have h8 : n ≤ 8 := h8
        have h6 : zI K0 - (t - t0) = zI K := h6
        have hd := hO.2.2.2.2.2.1 0 (by omega)
        obtain ⟨-, -, -, -, w1, w2, -⟩ := id hd
        have e1 : f5_isWait N I k (zI 0) = _ := e5_isWait N (j := 0) hn h8 (by omega) (hS.2.2.2.2.2.2.2.2 0 (by omega)).2.2 w1 w2
        have h4t : I k 4 = t := hS.2.2.2.2.1
        by_cases cw : 0 < (d 0).2.2
        · rw [if_pos cw] at e1
          obtain ⟨I1, j, q1, q2⟩ := e5_passWait (N := N) (f := f) (by omega) hO (by omega) cw hS (by omega) h4 h5
          refine ⟨I1, j, ?_, q2⟩
          rw [f5_advance_24, l_8, l_0, hn, l_1, h4t]
          simp (disch := omega) only [z_le, if_pos, if_neg, letM_s, h6, e1, clP_s, z_eq, z_sub, show (f0 : Int) - (c : Int) = (f : Int) from by omega, q1, if_true]
        · rw [if_neg cw] at e1
          obtain ⟨I1, j, q1, q2⟩ := e5_am (N := N) (f := f) hN (by omega) hO (by omega) (by omega) hS hR (by omega) h4 h5
          refine ⟨I1, j, ?_, q2⟩
          rw [f5_advance_24, l_8, l_0, hn, l_1, h4t]
          simp (disch := omega) only [z_le, if_pos, if_neg, letM_s, h6, e1, clP_s, z_eq, z_sub, show (f0 : Int) - (c : Int) = (f : Int) from by omega, q1, if_true]
      obtain ⟨I1, j, q1, q2, q3, q4, q5, q6, q7⟩ := hB
      rw [q1]
      by_cases cj : j = 0
      · subst cj
        rw [runS_0 (q7.imp (fun q => by have : nS s = nS s - 1 := q; omega) (fun q => q.imp (fun e => e.symm) (fun r => by
          have r' : K - ((0 : Nat) : Int) < (tkS s : Int) := r
          omega)))]
        exact ⟨I1, by rw [if_pos (show zI ((0 : Nat) : Int) = zI 0 from rfl)]; rfl, q3, q4⟩
      · have hne : ¬ zI (j : Int) = zI 0 := by
          simp (disch := omega) only [z_eq]
          omega
        rw [if_neg hne]
        have hok := Rn_ok j K s hO q5
        have hts := Rn_t j K s h4 q5
        have hav := itS_av j s
        obtain ⟨f', rfl⟩ : ∃ f', f = j + f' := ⟨f - j, by omega⟩
        have hR1 : RampR I1 k1 (sA (itS j s)) (sV (itS j s)) := by
          rw [hav.1, hav.2]
          unfold RampR
          rw [q4 k1 (by omega), q4 (k1 + 1) (by omega)]
          exact hR
        have hfirst : nS s ≤ e + 1 := by
          rcases h7 with q | q | q
          · exact q
          · omega
          · obtain ⟨j', rfl⟩ : ∃ j', j = j' + 1 := ⟨j - 1, by omega⟩
            have := q5.2.1
            omega
        obtain ⟨I3, u1, u2, u3⟩ := ih cnt (c + j) (rd + 1) f' (K - (tsum j s : Int)) I1 (itS j s) (by omega) (by omega) (by omega) hok.1 q3 hR1 (by omega) (by omega) (by rw [itS_t, z_adv h6, z_sub]) (by
          rcases q7 with q | q | q
          · exact Or.inl (by omega)
          · exact Or.inr (Or.inl (by omega))
          · exact Or.inr (Or.inr q))
        rw [runS_add j f' K s q5]
        refine ⟨I3, ?_, u2, q4.tr u3⟩
        rw [z_add, z_add]
        rw [show (c : Int) + (j : Int) = ((c + j : Nat) : Int) by omega, show (rd : Int) + 1 = ((rd + 1 : Nat) : Int) by omega, u1, Nat.add_assoc]
/-- the class' ramp, whatever it holds -/
def RmI (I : Mem) (k1 : Nat) : Prop := RampC I k1 ∧ I (k1+1) 0 = zI 0
theorem RmI.fr {I I1 : Mem} {k1 : Nat} (h : RmI I k1) (e0 : I1 k1 = I k1) (e1 : I1 (k1+1) = I (k1+1)) : RmI I1 k1 := by
  unfold RmI RampC at *
  rw [e0, e1]
  exact h
theorem RampR.I {I : Mem} {k a v : Nat} (h : RampR I k a v) (ha : a ≤ 999) (hv : v ≤ 999) : RmI I k := ⟨h.C ha hv, by rw [h.2.2.2.2 0 (by omega), T_0]; rfl⟩
theorem e5_advance {N k k1 f : Nat} {K : Int} {I : Mem} {s : Sg} (hN : 1100 ≤ N) (hk : k1 + 1 < k ∨ k + 3 < k1) (hf : f ≤ 1000000000) (hK : 0 ≤ K) (hK2 : K ≤ 1000000000) (hO : OkS s) (hS : StR I k s) (hR : RmI I k1) :
    ∃ I1, f5_advance N I k k1 (zI (f : Int)) (zI K) = some (zI ((runS f K s).1 : Int), I1) ∧ StR I1 k (runS f K s).2 ∧ RmI I1 k1 ∧ ∀ z, (z < k ∨ k + 3 < z) → z ≠ k1 → z ≠ k1 + 1 → I1 z = I z := by
  have h8 : nS s ≤ 8 := by
    obtain ⟨a, v, x, y, t, n, d, m, i, l⟩ := s
    exact hO.2.2.2.2.1
  have ho : 1 ≤ sA s ∧ sA s ≤ 999 ∧ 1 ≤ sV s ∧ sV s ≤ 999 := by
    obtain ⟨a, v, x, y, t, n, d, m, i, l⟩ := s
    exact ⟨hO.1, hO.2.1, hO.2.2.1, hO.2.2.2.1⟩
  have h01 : I k 0 = zI (sA s : Int) ∧ I k 1 = zI (sV s : Int) ∧ ∀ J : Mem, StR J k s → J k 4 = sT s := by
    obtain ⟨a, v, x, y, t, n, d, m, i, l⟩ := s
    exact ⟨hS.1, hS.2.1, fun J q => q.2.2.2.2.1⟩
  obtain ⟨I2, p1, p2, p3⟩ := e2_prepare (N := N) (a := sA s) (v := sV s) (by omega) ho.1 ho.2.1 ho.2.2.1 ho.2.2.2 hR.1 hR.2
  have hS2 : StR I2 k s := hS.fr (fun x a b => p3 x (by omega) (by omega))
  obtain ⟨I1, q1, q2, q3⟩ := e5_adv (N := N) (k := k) (k1 := k1) (f0 := f) (K0 := K) (t0 := sT s) hN hk hf 8 N 0 0 f K I2 s (by omega) (by omega) (by omega) hO hS2 p2 hK hK2 (by rw [Int32.sub_self, Int32.sub_zero]) (Or.inl h8)
  have hR1 : RampR I1 k1 (sA s) (sV s) := by
    unfold RampR
    rw [q3 k1 (by omega), q3 (k1 + 1) (by omega)]
    exact p2
  refine ⟨I1, ?_, q2, hR1.I ho.2.1 ho.2.2.2, fun z a b c => by rw [q3 z a, p3 z b c]⟩
  unfold f5_advance
  have q1' : f5_advance_24 N k k1 (zI (f : Int)) (zI K) N I2 (sT s) (zI 0) (zI 0) = some (zI ((0 + (runS f K s).1 : Nat) : Int), I1) := q1
  rw [Nat.zero_add] at q1'
  rw [h01.1, h01.2.1, l_0]
  simp only [p1, clM_s, letM_s, h01.2.2 I2 hS2, q1']
