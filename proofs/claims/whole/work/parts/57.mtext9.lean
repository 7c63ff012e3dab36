/-! the reference's reader: a move, an item -/
theorem e7_ri_move {N : Nat} {k tl p n : Nat} {tx : Nat → Int} {I : Mem} (hN : 100 ≤ N) (hT : OkT tl tx) (hp : p ≤ tl) (hn : n < 8) (h5 : I (k+4) 5 = zI (n : Int)) (h : TmR I k tl tx p) (c : chT tl tx p ≠ 119) :
    ∃ I1, f7_readItem N I k = some (zI (if (itT tl tx p).1 = none then 0 else 1), I1) ∧ TmR I1 k tl tx (itT tl tx p).2 ∧ (∀ x, x ≠ k → x ≠ k + 4 → I1 x = I x) ∧ (∀ j, j ≠ 2 → I1 k j = I k j) ∧ ∀ d, (itT tl tx p).1 = some d → I1 (k+4) 5 = zI ((n + 1 : Nat) : Int) ∧ I1 (k+4) (9 + 3 * n) = zI d.1 ∧ I1 (k+4) (9 + 3 * n + 1) = zI d.2.1 ∧ d.2.2 = 0 ∧ ∀ j, j ≠ 5 → j ≠ 9 + 3 * n → j ≠ 9 + 3 * n + 1 → I1 (k+4) j = I (k+4) j := by
  have ht := hT.1
  have hb := chT_bd hT p
  obtain ⟨I2, t1, t2, t3⟩ := e7_takes N (c := 119) (by omega) (by omega) hT hp h
  rw [if_neg c] at t1 t2
  obtain ⟨I3, v1, v2, v3⟩ := e7_takes N (c := 109) (by omega) (by omega) hT hp t2
  by_cases c1 : chT tl tx p = 109
  · rw [if_pos c1] at v1 v2
    have hp1 : p + 1 ≤ tl := by have := hb.2.2 (by omega); omega
    obtain ⟨I4, u1, u2, u3⟩ := e7_sgn (N := N) (least := 0) hN hT (by omega) (by omega) hp1 v2
    have nb := ds_bd hT (least := 0) (by omega) hp1
    have hF := (t3.tr v3).tr u3
    have n1 : (zI (9 + 3 * (n : Int))).toNatClampNeg = 9 + 3 * n := by rw [z_nat (by omega) (by omega)]; omega
    generalize hds0 : dsT tl tx 0 (p + 1) = r at *
    obtain ⟨o, q⟩ := r
    have hw : ∃ w : Int, o.getD (-89910) = w ∧ -89910 ≤ w ∧ w ≤ 999 ∧ (¬ (-999 ≤ w ∧ w ≤ 999) ↔ o = none) := by
      cases o with
      | none => exact ⟨-89910, rfl, by omega, by omega, by simp⟩
      | some u =>
        obtain ⟨a2, a3, -⟩ := nb.2 u rfl
        exact ⟨u, rfl, by omega, a3, ⟨fun e => by omega, fun e => by cases e⟩⟩
    obtain ⟨w, hw0, hw1, hw2, hw3⟩ := hw
    have u1'' : f7_signedNumber N I3 k (zI 0) = some (zI w, I4) := by rw [u1]; exact congrArg (fun z => some (zI z, I4)) hw0
    obtain ⟨I5, hI5⟩ : ∃ I5, I5 = st I4 (k+4) (9 + 3 * n) (zI w) := ⟨_, rfl⟩
    have k5 : I5 k = I4 k := by rw [hI5, st_k (by omega)]
    have s5w : I5 (k+4) (9 + 3 * n) = zI w := by rw [hI5, st_s]
    have s55 : I5 (k+4) 5 = zI (n : Int) := by rw [hI5, st_j (by omega), hF.1 _ (by omega)]; exact h5
    have ei := fp_in N I5 (z := w) (by omega) (by omega)
    have hT5 : TmR I5 k tl tx q := by
      obtain ⟨y1, y2, y3⟩ := u2
      exact ⟨by rw [k5]; exact y1, by rw [k5]; exact y2, fun j hj => by rw [hI5, st_k (by omega)]; exact y3 j hj⟩
    have fx5 : ∀ x, x ≠ k → x ≠ k + 4 → I5 x = I x := fun x a b => by rw [hI5, st_k b, hF.1 x a]
    have fk5 : ∀ j, j ≠ 2 → I5 k j = I k j := fun j a => by rw [k5, hF.2 j a]
    cases o with
    | none =>
      have hit : itT tl tx p = (none, q) := by
        unfold itT
        rw [if_neg c, if_pos c1, hds0]
      rw [hit]
      refine ⟨I5, ?_, hT5, fx5, fk5, fun d hd => by cases hd⟩
      rw [if_neg (hw3.mpr rfl)] at ei
      show _ = some (zI 0, I5)
      unfold f7_readItem
      rw [h5, l_8, l_119, l_109, l_0, l_9, l_3, m_m999, m_999]
      simp (disch := omega) only [letM_s, z_mul, z_add, z_eq, z_lt, if_neg, if_pos, if_true, t1, v1, clP_s, u1'', n1, ← hI5, s5w, z_toL, ei]
    | some dx =>
      have hdx : dx = w := hw0
      subst hdx
      have hp2 : q ≤ tl := nb.1
      have hr := (nb.2 dx rfl)
      rw [if_pos (show -999 ≤ dx ∧ dx ≤ 999 from ⟨hr.1, hr.2.1⟩)] at ei
      have hl1 : (0 : Int) ≤ (if dx = 0 then (1 : Int) else 0) ∧ (if dx = 0 then (1 : Int) else 0) ≤ 1 := by by_cases e : dx = 0 <;> simp [e]
      obtain ⟨I6, w1, w2, w3, w4, w5, w6, w7⟩ := e7_ri_142 (N := N) (least := if dx = 0 then 1 else 0) hN hT hl1.1 hl1.2 hp2 hn s55 hT5
      have hst : f7_readItem N I k = f7_readItem_142 N k I5 (zI (9 + 3 * (n : Int))) (zI (if dx = 0 then 1 else 0)) (zI (9 + 3 * (n : Int) + 1)) := by
        unfold f7_readItem
        rw [h5, l_8, l_119, l_109, l_0, l_1, l_9, l_3, m_m999, m_999]
        by_cases e : dx = 0
        · rw [if_pos e]
          simp (disch := omega) only [letM_s, z_mul, z_add, z_eq, z_lt, if_neg, if_pos, if_true, t1, v1, clP_s, u1'', n1, ← hI5, s5w, z_toL, ei]
        · rw [if_neg e]
          simp (disch := omega) only [letM_s, z_mul, z_add, z_eq, z_lt, if_neg, if_pos, if_true, t1, v1, clP_s, u1'', n1, ← hI5, s5w, z_toL, ei]
      rw [hst]
      generalize hr2 : dsT tl tx (if dx = 0 then (1 : Int) else 0) q = r2 at *
      obtain ⟨o2, q2⟩ := r2
      cases o2 with
      | none =>
        have hit : itT tl tx p = (none, q2) := by
          unfold itT
          rw [if_neg c, if_pos c1, hds0]
          dsimp only
          rw [hr2]
        rw [hit]
        exact ⟨I6, w1, w2, fun x a b => by rw [w3 x a b, fx5 x a b], fun j a => by rw [w4 j a, fk5 j a], fun d hd => by cases hd⟩
      | some dy =>
        have hit : itT tl tx p = (some (dx, dy, 0), q2) := by
          unfold itT
          rw [if_neg c, if_pos c1, hds0]
          dsimp only
          rw [hr2]
        rw [hit]
        refine ⟨I6, w1, w2, fun x a b => by rw [w3 x a b, fx5 x a b], fun j a => by rw [w4 j a, fk5 j a], fun d hd => ?_⟩
        have hd : some ((dx, dy, 0) : Itm) = some d := hd
        have hd := Option.some.inj hd
        subst hd
        exact ⟨w5, by rw [w7 _ (by omega) (by omega)]; exact s5w, w6, rfl, fun j a b e => by rw [w7 j a e, hI5, st_j b, hF.1 _ (by omega)]⟩
  · rw [if_neg c1] at v1 v2
    have hit : itT tl tx p = (none, p) := by
      unfold itT
      rw [if_neg c, if_neg c1]
    rw [hit]
    refine ⟨I3, ?_, v2, fun x a b => by rw [(t3.tr v3).1 x a], fun j a => (t3.tr v3).2 j a, fun d hd => by cases hd⟩
    show _ = some (zI 0, I3)
    unfold f7_readItem
    rw [h5, l_8, l_119, l_109, l_0, l_9, l_3]
    simp (disch := omega) only [letM_s, z_mul, z_add, z_eq, z_lt, if_neg, if_pos, if_true, t1, v1, clP_s]
theorem e7_item {N : Nat} {k tl p : Nat} {tx : Nat → Int} {I : Mem} {s : Sg} (hN : 100 ≤ N) (hT : OkT tl tx) (hp : p ≤ tl) (hO : OkS s) (h : TmR I k tl tx p) (hR : RowR (I (k+4)) s) (hz : ∀ j, 9 + 3 * nS s ≤ j → j < 33 → I (k+4) j = zI 0) :
    ∃ I1, f7_readItem N I k = some (zI (if (if nS s = 8 then (none, p) else itT tl tx p).1 = none then 0 else 1), I1) ∧ TmR I1 k tl tx (if nS s = 8 then (none, p) else itT tl tx p).2 ∧ (∀ x, x ≠ k → x ≠ k + 4 → I1 x = I x) ∧ (∀ j, j ≠ 2 → I1 k j = I k j) ∧ ∀ d, (if nS s = 8 then (none, p) else itT tl tx p).1 = some d → RowR (I1 (k+4)) (addI s d) ∧ ∀ j, 9 + 3 * (nS s + 1) ≤ j → j < 33 → I1 (k+4) j = zI 0 := by
  have hb := hO.b
  have h5 : I (k+4) 5 = zI (nS s : Int) := by obtain ⟨a, v, x, y, t, n, dd, m, i, l⟩ := s; exact hR.2.2.2.2.2.1
  by_cases c8 : nS s = 8
  · simp only [if_pos c8]
    refine ⟨I, ?_, h, fun _ _ _ => rfl, fun _ _ => rfl, fun d hd => by cases hd⟩
    exact e7_ri_full N (by rw [h5, c8]; rfl)
  · simp only [if_neg c8]
    by_cases c1 : chT tl tx p = 119
    · obtain ⟨I1, q1, q2, q3, q4, q5, q6, q7⟩ := e7_ri_wait (N := N) hN hT hp (n := nS s) (by omega) h5 h c1
      generalize hr : nmT tl tx 4 1 (p + 1) = r at *
      obtain ⟨o, q⟩ := r
      cases o with
      | none =>
        have hit : itT tl tx p = (none, q) := by
          unfold itT
          rw [if_pos c1, hr]
        rw [hit]
        exact ⟨I1, q1, q2, q3, q4, fun d hd => by cases hd⟩
      | some w =>
        have hit : itT tl tx p = (some (0, 0, w), q) := by
          unfold itT
          rw [if_pos c1, hr]
        rw [hit]
        refine ⟨I1, q1, q2, q3, q4, fun d hd => ?_⟩
        have hd : some ((0, 0, w) : Itm) = some d := hd
        have hd := Option.some.inj hd
        subst hd
        refine ⟨row_add hO (by omega) hR q5 ?_ ?_ q6 (fun j a b => q7 j b (by omega)), fun j a b => by rw [q7 j (by omega) (by omega)]; exact hz j (by omega) b⟩
        · rw [q7 _ (by omega) (by omega)]; exact hz _ (Nat.le_refl _) (by omega)
        · rw [q7 _ (by omega) (by omega)]; exact hz _ (by omega) (by omega)
    · obtain ⟨I1, q1, q2, q3, q4, q5⟩ := e7_ri_move (N := N) hN hT hp (n := nS s) (by omega) h5 h c1
      refine ⟨I1, q1, q2, q3, q4, fun d hd => ?_⟩
      obtain ⟨w1, w2, w3, w4, w5⟩ := q5 d hd
      refine ⟨row_add hO (by omega) hR w1 w2 w3 ?_ (fun j a b => w5 j b (by omega) (by omega)), fun j a b => by rw [w5 j (by omega) (by omega) (by omega)]; exact hz j (by omega) b⟩
      rw [w5 _ (by omega) (by omega) (by omega), w4]
      exact hz _ (by omega) (by omega)
