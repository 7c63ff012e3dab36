/-! the reference's reader: all items, a whole text -/
theorem e7_its {N : Nat} {k tl : Nat} {tx : Nat → Int} (hN : 100 ≤ N) (hT : OkT tl tx) : ∀ (e i cnt p : Nat) (I : Mem) (s : Sg), i + e = 9 → e < cnt → nS s = i → p ≤ tl → OkS s → TmR I k tl tx p → RowR (I (k+4)) s → (∀ j, 9 + 3 * nS s ≤ j → j < 33 → I (k+4) j = zI 0) →
    ∃ I1 r, f7_readText_114 N k cnt I = some (r, I1) ∧ (match itsT tl tx e p s with | (some s', _) => r = zI (-9) ∧ RowR (I1 (k+4)) s' ∧ OkS s' | (none, q) => r = zI (q : Int)) ∧ (∀ x, x ≠ k → x ≠ k + 4 → I1 x = I x) ∧ ∀ j, j ≠ 2 → I1 k j = I k j := by
  intro e
  induction e with
  | zero =>
    intro i cnt p I s h1 h2 hn hp hO h hR hz
    have := hO.b.2.2.2.2
    omega
  | succ e ih =>
    intro i cnt p I s h1 h2 hn hp hO h hR hz
    obtain ⟨cnt, rfl⟩ : ∃ x, cnt = x + 1 := ⟨cnt - 1, by omega⟩
    have ht := hT.1
    have hx1 := h.1
    have hx2 := h.2.1
    rw [itsT]
    by_cases c : tl ≤ p
    · simp only [if_pos c]
      refine ⟨I, zI (-9), ?_, ⟨rfl, hR, hO⟩, fun _ _ _ => rfl, fun _ _ => rfl⟩
      rw [f7_readText_114, hx1, hx2, l_m9]
      simp (disch := omega) only [z_le, if_pos]
    · simp only [if_neg c]
      obtain ⟨I2, q1, q2, q3, q4, q5⟩ := e7_item (N := N) hN hT hp hO h hR hz
      have hi := it_ok hT hp
      have hb := hO.b.2.2.2.2
      have h8 : (if nS s = 8 then ((none, p) : Option Itm × Nat) else itT tl tx p).2 ≤ tl ∧ ∀ d, (if nS s = 8 then ((none, p) : Option Itm × Nat) else itT tl tx p).1 = some d → ItOk d ∧ nS s < 8 := by
        by_cases c8 : nS s = 8
        · rw [if_pos c8]
          exact ⟨hp, fun d hd => by cases hd⟩
        · rw [if_neg c8]
          exact ⟨hi.1, fun d hd => ⟨hi.2 d hd, by omega⟩⟩
      generalize (if nS s = 8 then ((none, p) : Option Itm × Nat) else itT tl tx p) = r at *
      obtain ⟨o, q⟩ := r
      cases o with
      | none =>
        refine ⟨I2, zI (q : Int), ?_, rfl, q3, q4⟩
        have q1' : f7_readItem N I k = some (zI 0, I2) := q1
        rw [f7_readText_114, hx1, hx2, l_0]
        simp (disch := omega) only [z_le, if_neg, q1', clP_s, if_true, q2.2.1]
      | some d =>
        obtain ⟨u1, u2⟩ := h8.2 d rfl
        obtain ⟨w1, w2⟩ := q5 d rfl
        have hna : nS (addI s d) = nS s + 1 := by
          obtain ⟨a, v, x, y, t, n, dd, r⟩ := s
          rfl
        have q1' : f7_readItem N I k = some (zI 1, I2) := q1
        obtain ⟨I1, r, v1, v2, v3, v4⟩ := ih (i + 1) cnt q I2 (addI s d) (by omega) (by omega) (by omega) h8.1 (ok_addI hO u2 u1) q2 w1 (by rw [hna]; exact w2)
        refine ⟨I1, r, ?_, v2, fun x a b => by rw [v3 x a b, q3 x a b], fun j a => by rw [v4 j a, q4 j a]⟩
        rw [f7_readText_114, hx1, hx2, l_0]
        simp (disch := omega) only [z_le, z_eq, if_neg, q1', clP_s]
        exact v1
theorem e7_rt_2 (N : Nat) {k : Nat} : ∀ (e i cnt : Nat) (I : Mem), i + e = 33 → e < cnt → ∃ I1, f7_readText_2 N k cnt I (zI (i : Int)) = f7_readText_2 N k 1 I1 (zI ((33 : Nat) : Int)) ∧ (∀ j, i ≤ j → j < 33 → I1 (k+4) j = zI 0) ∧ (∀ j, j < i → I1 (k+4) j = I (k+4) j) ∧ ∀ x, x ≠ k+4 → I1 x = I x := by
  intro e
  induction e with
  | zero =>
    intro i cnt I h1 h2
    obtain ⟨cnt, rfl⟩ : ∃ x, cnt = x + 1 := ⟨cnt - 1, by omega⟩
    refine ⟨I, ?_, fun j a b => by omega, fun _ _ => rfl, fun _ _ => rfl⟩
    rw [show i = 33 by omega, f7_readText_2, f7_readText_2]
    simp (disch := omega) only [l_33, z_le, if_pos]
  | succ e ih =>
    intro i cnt I h1 h2
    obtain ⟨cnt, rfl⟩ : ∃ x, cnt = x + 1 := ⟨cnt - 1, by omega⟩
    obtain ⟨I1, q1, q2, q3, q4⟩ := ih (i + 1) cnt (st I (k+4) i (zI 0)) (by omega) (by omega)
    have n1 : (zI (i : Int)).toNatClampNeg = i := by rw [z_nat (by omega) (by omega)]; rfl
    refine ⟨I1, ?_, fun j a b => ?_, fun j hj => by rw [q3 j (by omega), st_j (by omega)], fun x hx => by rw [q4 x hx, st_k hx]⟩
    · rw [← q1, f7_readText_2, l_33, l_0, l_1]
      simp (disch := omega) only [n1, z_le, z_lt, z_add, if_neg, letM_s]
      rfl
    · by_cases c : j = i
      · subst c; rw [q3 _ (by omega), st_s]
      · exact q2 j (by omega) b
theorem e7_read {N : Nat} {k tl : Nat} {tx : Nat → Int} {I : Mem} (hN : 100 ≤ N) (hT : OkT tl tx) (h1 : I k 1 = zI (tl : Int)) (hx : ∀ j, j < tl → I (k+1) j = zI (tx j)) :
    ∃ I1 r, f7_readText N I k = some (r, I1) ∧ (match rdT tl tx with | (some s', _) => r = zI (-9) ∧ RowR (I1 (k+4)) s' ∧ OkS s' | (none, q) => r = zI (q : Int)) ∧ (∀ x, x ≠ k → x ≠ k + 4 → I1 x = I x) ∧ ∀ j, j ≠ 2 → I1 k j = I k j := by
  have ht := hT.1
  obtain ⟨I1, z1, z2, z3, z4⟩ := e7_rt_2 N (k := k) 33 0 N I (by omega) (by omega)
  obtain ⟨I2, hI2⟩ : ∃ I2, I2 = st I1 (k+4) 7 (zI (-9)) := ⟨_, rfl⟩
  obtain ⟨I3, hI3⟩ : ∃ I3, I3 = st I2 k 2 (zI 0) := ⟨_, rfl⟩
  have r3 : I3 (k+4) = I2 (k+4) := by rw [hI3, st_k (by omega)]
  have fx3 : ∀ x, x ≠ k → x ≠ k + 4 → I3 x = I x := fun x a b => by rw [hI3, st_k a, hI2, st_k b, z4 x b]
  have fk3 : ∀ j, j ≠ 2 → I3 k j = I k j := fun j a => by rw [hI3, st_j a, hI2, st_k (by omega), z4 k (by omega)]
  have hT3 : TmR I3 k tl tx 0 := ⟨by rw [fk3 1 (by omega)]; exact h1, by rw [hI3, st_s]; rfl, fun j hj => by rw [fx3 _ (by omega) (by omega)]; exact hx j hj⟩
  have row0 : ∀ j, j < 33 → j ≠ 7 → I3 (k+4) j = zI 0 := fun j a b => by rw [r3, hI2, st_j b]; exact z2 j (Nat.zero_le _) a
  have row7 : I3 (k+4) 7 = zI (-9) := by rw [r3, hI2, st_s]
  obtain ⟨I5, a1, a2, a3⟩ := e7_takes N (c := 97) (by omega) (by omega) hT (Nat.zero_le _) hT3
  have z1' : f7_readText N I k = f7_readText_2 N k 1 I1 (zI ((33 : Nat) : Int)) := by
    unfold f7_readText
    rw [l_0]
    exact z1
  rw [z1']
  unfold rdT
  by_cases ca : chT tl tx 0 = 97
  · rw [if_pos ca] at a1 a2
    rw [if_pos ca]
    have hp1 : 0 + 1 ≤ tl := by have := (chT_bd hT 0).2.2 (by omega); omega
    obtain ⟨I9, b1, b2, b3⟩ := e7_num (N := N) (D := 3) (least := 1) hN hT (by omega) (by omega) (by omega) (by omega) hp1 a2
    have nb := nmT_bd hT (D := 3) (p := 0 + 1) (least := 1) (by omega) hp1
    have b1' : f7_number N I5 k (zI 3) (zI 1) = _ := b1
    rw [Nat.zero_add] at b1' b2 nb
    have hF := a3.tr b3
    generalize nmT tl tx 3 1 1 = r at *
    obtain ⟨o, q⟩ := r
    cases o with
    | none =>
      have b1'' : f7_number N I5 k (zI 3) (zI 1) = some (zI (-9), I9) := b1'
      refine ⟨st I9 (k+4) 0 (zI (-9)), zI (q : Int), ?_, rfl, fun x a b => by rw [st_k b, hF.1 x a, fx3 x a b], fun j a => by rw [st_k (by omega), hF.2 j a, fk3 j a]⟩
      rw [f7_readText_2, l_33, l_m9, l_0, l_97, l_3, l_1, l_118]
      simp (disch := omega) only [z_le, z_eq, if_neg, if_pos, if_true, letM_s, ← hI2, ← hI3, a1, clP_s, b1'', st_s]
      rw [st_k (by omega), b2.2.1]
    | some av =>
      have b1'' : f7_number N I5 k (zI 3) (zI 1) = some (zI av, I9) := b1'
      obtain ⟨m1, m2, m3, m4⟩ := nb.2 av rfl
      have m3 : av < 1000 := m3
      have hq : q ≤ tl := nb.1
      obtain ⟨I11, hI11⟩ : ∃ I11, I11 = st I9 (k+4) 0 (zI av) := ⟨_, rfl⟩
      have s110 : I11 (k+4) 0 = zI av := by rw [hI11, st_s]
      have hT11 : TmR I11 k tl tx q := by
        obtain ⟨y1, y2, y3⟩ := b2
        exact ⟨by rw [hI11, st_k (by omega)]; exact y1, by rw [hI11, st_k (by omega)]; exact y2, fun j hj => by rw [hI11, st_k (by omega)]; exact y3 j hj⟩
      have fx11 : ∀ x, x ≠ k → x ≠ k + 4 → I11 x = I x := fun x a b => by rw [hI11, st_k b, hF.1 x a, fx3 x a b]
      have fk11 : ∀ j, j ≠ 2 → I11 k j = I k j := fun j a => by rw [hI11, st_k (by omega), hF.2 j a, fk3 j a]
      have row11 : ∀ j, j ≠ 0 → I11 (k+4) j = I3 (k+4) j := fun j a => by rw [hI11, st_j a, hF.1 _ (by omega)]
      obtain ⟨I14, d1, d2, d3⟩ := e7_takes N (c := 118) (by omega) (by omega) hT hq hT11
      dsimp only
      by_cases cv : chT tl tx q = 118
      · rw [if_pos cv] at d1 d2
        rw [if_pos cv]
        have hq1 : q + 1 ≤ tl := by have := (chT_bd hT q).2.2 (by omega); omega
        obtain ⟨I18, e1, e2, e3⟩ := e7_num (N := N) (D := 3) (least := 1) hN hT (by omega) (by omega) (by omega) (by omega) hq1 d2
        have nb2 := nmT_bd hT (D := 3) (p := q + 1) (least := 1) (by omega) hq1
        have e1' : f7_number N I14 k (zI 3) (zI 1) = _ := e1
        have hF2 := d3.tr e3
        generalize nmT tl tx 3 1 (q + 1) = r2 at *
        obtain ⟨o2, q2⟩ := r2
        cases o2 with
        | none =>
          have e1'' : f7_number N I14 k (zI 3) (zI 1) = some (zI (-9), I18) := e1'
          refine ⟨st I18 (k+4) 1 (zI (-9)), zI (q2 : Int), ?_, rfl, fun x a b => by rw [st_k b, hF2.1 x a, fx11 x a b], fun j a => by rw [st_k (by omega), hF2.2 j a, fk11 j a]⟩
          rw [f7_readText_2, l_33, l_m9, l_0, l_97, l_3, l_1, l_118]
          simp (disch := omega) only [z_le, z_eq, if_neg, if_pos, if_true, letM_s, ← hI2, ← hI3, a1, clP_s, b1'', ← hI11, s110, d1, e1'', st_s]
          rw [st_k (by omega), e2.2.1]
        | some vv =>
          have e1'' : f7_number N I14 k (zI 3) (zI 1) = some (zI vv, I18) := e1'
          obtain ⟨n1, n2, n3, n4⟩ := nb2.2 vv rfl
          have n3 : vv < 1000 := n3
          have hq2 : q2 ≤ tl := nb2.1
          obtain ⟨I20, hI20⟩ : ∃ I20, I20 = st I18 (k+4) 1 (zI vv) := ⟨_, rfl⟩
          have s201 : I20 (k+4) 1 = zI vv := by rw [hI20, st_s]
          have hT20 : TmR I20 k tl tx q2 := by
            obtain ⟨y1, y2, y3⟩ := e2
            exact ⟨by rw [hI20, st_k (by omega)]; exact y1, by rw [hI20, st_k (by omega)]; exact y2, fun j hj => by rw [hI20, st_k (by omega)]; exact y3 j hj⟩
          have fx20 : ∀ x, x ≠ k → x ≠ k + 4 → I20 x = I x := fun x a b => by rw [hI20, st_k b, hF2.1 x a, fx11 x a b]
          have fk20 : ∀ j, j ≠ 2 → I20 k j = I k j := fun j a => by rw [hI20, st_k (by omega), hF2.2 j a, fk11 j a]
          have row20 : ∀ j, j ≠ 0 → j ≠ 1 → I20 (k+4) j = I3 (k+4) j := fun j a b => by rw [hI20, st_j b, hF2.1 _ (by omega), row11 j a]
          have hS : RowR (I20 (k+4)) (s0T av.toNat vv.toNat) := by
            refine ⟨?_, ?_, by rw [row20 2 (by omega) (by omega)]; exact row0 2 (by omega) (by omega), by rw [row20 3 (by omega) (by omega)]; exact row0 3 (by omega) (by omega), by rw [row20 4 (by omega) (by omega)]; exact row0 4 (by omega) (by omega), by rw [row20 5 (by omega) (by omega)]; exact row0 5 (by omega) (by omega), by rw [row20 6 (by omega) (by omega)]; exact row0 6 (by omega) (by omega), by rw [row20 7 (by omega) (by omega)]; exact row7, by rw [row20 8 (by omega) (by omega)]; exact row0 8 (by omega) (by omega), fun j hj => absurd hj (Nat.not_lt_zero j)⟩
            · rw [hI20, st_j (by omega), hF2.1 _ (by omega), s110, show (av.toNat : Int) = av by omega]
            · rw [s201, show (vv.toNat : Int) = vv by omega]
          have hO : OkS (s0T av.toNat vv.toNat) := ⟨by omega, by omega, by omega, by omega, by omega, fun j hj => absurd hj (Nat.not_lt_zero j), fun _ => ⟨rfl, rfl⟩, fun z => absurd z (Nat.lt_irrefl 0)⟩
          obtain ⟨I21, r, y1, y2, y3, y4⟩ := e7_its (N := N) (k := k) hN hT 9 0 N q2 I20 (s0T av.toNat vv.toNat) (by omega) (by omega) rfl hq2 hO hT20 hS (fun j a b => by
            have a : 9 ≤ j := a
            rw [row20 j (by omega) (by omega)]
            exact row0 j b (by omega))
          refine ⟨I21, r, ?_, y2, fun x a b => by rw [y3 x a b, fx20 x a b], fun j a => by rw [y4 j a, fk20 j a]⟩
          rw [f7_readText_2, l_33, l_m9, l_0, l_97, l_3, l_1, l_118]
          simp (disch := omega) only [z_le, z_eq, if_neg, if_pos, if_true, letM_s, ← hI2, ← hI3, a1, clP_s, b1'', ← hI11, s110, d1, e1'', ← hI20, s201]
          exact y1
      · rw [if_neg cv] at d1 d2
        rw [if_neg cv]
        refine ⟨I14, zI (q : Int), ?_, rfl, fun x a b => by rw [d3.1 x a, fx11 x a b], fun j a => by rw [d3.2 j a, fk11 j a]⟩
        rw [f7_readText_2, l_33, l_m9, l_0, l_97, l_3, l_1, l_118]
        simp (disch := omega) only [z_le, z_eq, if_neg, if_pos, if_true, letM_s, ← hI2, ← hI3, a1, clP_s, b1'', ← hI11, s110, d1, d2.2.1]
  · rw [if_neg ca] at a1 a2
    rw [if_neg ca]
    refine ⟨I5, zI ((0 : Nat) : Int), ?_, rfl, fun x a b => by rw [a3.1 x a, fx3 x a b], fun j a => by rw [a3.2 j a, fk3 j a]⟩
    rw [f7_readText_2, l_33, l_m9, l_0, l_97, l_3, l_1, l_118]
    simp (disch := omega) only [z_le, z_eq, if_neg, if_pos, if_true, letM_s, ← hI2, ← hI3, a1, clP_s, a2.2.1]
