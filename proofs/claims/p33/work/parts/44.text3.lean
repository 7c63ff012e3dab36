/-! the class' reader: an item -/
theorem e4_failZ (N : Nat) {I : Mem} {k tl p : Nat} {tx : Nat → Int} {F z : Int32} (h : TxR I k tl tx p F) : ∃ I1, f4_failAt N I k z = some I1 ∧ TxR I1 k tl tx p (if F = zI (-9) then z else F) ∧ ∀ x, x ≠ k → I1 x = I x := by
  obtain ⟨h1, h2, h3, h4⟩ := h
  unfold f4_failAt
  rw [h3, l_m9]
  by_cases c : F = zI (-9)
  · rw [if_pos c, if_pos c]
    exact ⟨st I k 3 z, rfl, ⟨by rw [st_j (by omega)]; exact h1, by rw [st_j (by omega)]; exact h2, st_s _ _ _ _, fun j hj => by rw [st_k (by omega)]; exact h4 j hj⟩, fun x hx => st_k hx⟩
  · rw [if_neg c, if_neg c]
    exact ⟨I, rfl, ⟨h1, h2, h3, h4⟩, fun _ _ => rfl⟩
theorem TxR.fr {I I1 : Mem} {k tl p : Nat} {tx : Nat → Int} {F : Int32} (h : TxR I k tl tx p F) (e0 : I1 k = I k) (e1 : I1 (k+1) = I (k+1)) : TxR I1 k tl tx p F := by
  unfold TxR at *
  rw [e0, e1]
  exact h
theorem nmT_bd {tl : Nat} {tx : Nat → Int} (h : OkT tl tx) {D p : Nat} {least : Int} (hD : D ≤ 4) (hp : p ≤ tl) : (nmT tl tx D least p).2 ≤ tl ∧ ∀ u, (nmT tl tx D least p).1 = some u → least ≤ u ∧ 0 ≤ u ∧ u < ((10 ^ D : Nat) : Int) ∧ (nmT tl tx D least p).2 = p + D := by
  have hb := dgT_bd h D p 0 1 (by omega) (by omega) hp
  unfold nmT
  generalize dgT tl tx D p 0 = r at *
  obtain ⟨o, q⟩ := r
  have b2 : q ≤ tl := hb.2.1
  cases o with
  | none => exact ⟨b2, fun u hu => by cases hu⟩
  | some v =>
    obtain ⟨j1, j2, j3⟩ := hb.2.2.2 v rfl
    rw [Nat.one_mul] at j2
    by_cases c : least ≤ v
    · simp only [if_pos c]
      refine ⟨b2, fun u hu => ?_⟩
      cases hu
      exact ⟨c, j1, j2, j3⟩
    · simp only [if_neg c]
      exact ⟨by omega, fun u hu => by cases hu⟩
/-- the item's last part, behind two distances -/
theorem e4_tail (N : Nat) {k k1 tl p2 : Nat} {tx : Nat → Int} {F : Int32} {I I15 I18 : Mem} {w1 w2 : Int} {s : Sg} (hk : k + 1 < k1) (hO : OkS s) (hn : nS s < 8) (e1 : f4_takeDistance N (st I k 2 (I k 2 + zI 1)) k = some (zI w1, I15)) (e2 : f4_takeDistance N I15 k = some (zI w2, I18)) (b1 : -999 ≤ w1) (b2 : w1 ≤ 999) (b3 : -999 ≤ w2) (b4 : w2 ≤ 999) (hp2 : p2 ≤ 100) (hx : TxR I18 k tl tx p2 F) (hS : StR I18 k1 s) :
    ∃ I1, f4_takeItem_33 N k k1 I (zI 109) = some I1 ∧ TxR I1 k tl tx p2 (if w1 = 0 ∧ w2 = 0 then (if F = zI (-9) then zI ((p2 : Int) - 1) else F) else F) ∧ StR I1 k1 (addI s (w1, w2, 0)) ∧ ∀ x, x ≠ k → (x < k1 ∨ k1 + 3 < x) → I1 x = I18 x := by
  have hx2 := hx.2.1
  by_cases c : w1 = 0 ∧ w2 = 0
  · rw [if_pos c]
    obtain ⟨rfl, rfl⟩ := c
    obtain ⟨I2, u1, u2, u3⟩ := e4_failZ N (z := zI ((p2 : Int) - 1)) hx
    obtain ⟨I3, v1, v2, v3⟩ := e5_addItem N (q := (0, 0, 0)) hO hn (hS.fr (fun x a b => u3 x (by omega)))
    have v1' : f5_addItem N I2 k1 (zI 0) (zI 0) (zI 0) = some I3 := v1
    refine ⟨I3, ?_, u2.fr (v3 k (by omega)) (v3 (k+1) (by omega)), v2, fun x a b => by rw [v3 x b, u3 x a]⟩
    unfold f4_takeItem_33
    rw [l_119, l_0, l_1]
    simp (disch := omega) only [letM_s, z_eq, if_neg, if_pos, e1, e2, clP_s, hx2, z_sub, u1, clM_s, v1', if_true]
  · rw [if_neg c]
    obtain ⟨I3, v1, v2, v3⟩ := e5_addItem N (q := (w1, w2, 0)) hO hn hS
    have v1' : f5_addItem N I18 k1 (zI w1) (zI w2) (zI 0) = some I3 := v1
    refine ⟨I3, ?_, hx.fr (v3 k (by omega)) (v3 (k+1) (by omega)), v2, fun x a b => v3 x b⟩
    unfold f4_takeItem_33
    rw [l_119, l_0, l_1]
    by_cases c1 : w1 = 0
    · simp (disch := omega) only [letM_s, z_eq, if_neg, if_pos, e1, e2, clP_s, clM_s, v1', if_true]
    · simp (disch := omega) only [letM_s, z_eq, if_neg, if_pos, e1, e2, clP_s, clM_s, v1']
theorem e4_item {N : Nat} {k k1 tl p : Nat} {tx : Nat → Int} {I : Mem} {s : Sg} (hN : 100 ≤ N) (hk : k + 1 < k1) (hT : OkT tl tx) (hp : p ≤ tl) (hO : OkS s) (h : TxR I k tl tx p (zI (-9))) (hS : StR I k1 s) :
    ∃ I1, f4_takeItem N I k k1 = some I1 ∧ (match (if nS s = 8 then (none, p) else itT tl tx p) with | (some d, q) => ItOk d ∧ q ≤ tl ∧ TxR I1 k tl tx q (zI (-9)) ∧ StR I1 k1 (addI s d) | (none, q) => q ≤ 80 ∧ I1 k 3 = zI (q : Int) ∧ I1 k 1 = zI (tl : Int)) ∧ ∀ x, x ≠ k → (x < k1 ∨ k1 + 3 < x) → I1 x = I x := by
  have hb := hO.b
  have ht := hT.1
  have e1 := e4_present N hT hp h
  have e2 := e5_isFull N hS.n hb.2.2.2.2
  have hc := chT_bd hT p
  have hx2 := h.2.1
  have hfz : ∀ q, flt (zI (-9)) q = zI (q : Int) := fun q => if_pos rfl
  by_cases c8 : nS s = 8
  · rw [if_pos c8] at e2
    simp only [if_pos c8]
    obtain ⟨I1, q1, q2, q3⟩ := e4_fail N (q := p) h
    refine ⟨I1, ?_, ⟨by omega, by rw [q2.2.2.1, hfz], q2.1⟩, fun x a _ => q3 x a⟩
    unfold f4_takeItem
    rw [l_0]
    simp (disch := omega) only [e1, e2, clP_s, z_eq, if_neg, hx2, q1, clM_s]
  · rw [if_neg c8] at e2
    simp only [if_neg c8]
    unfold itT
    by_cases c1 : chT tl tx p = 119
    · have hp1 : p + 1 ≤ tl := by have := hc.2.2 (by omega); omega
      obtain ⟨I2, w, p', q1, q2, q3, q4⟩ := e4_pos (N := N) (D := 4) hN hT (by omega) (by omega) hp1 h.adv
      have nb := nmT_bd hT (D := 4) (p := p + 1) (least := 1) (by omega) hp1
      obtain ⟨I3, v1, v2, v3⟩ := e5_addItem N (q := (0, 0, w)) hO (by omega) (hS.fr (fun x a b => by rw [q4 x (by omega), st_k (by omega)] : ∀ x, k1 ≤ x → x ≤ k1 + 3 → I2 x = I x))
      have v1' : f5_addItem N I2 k1 (zI 0) (zI 0) (zI w) = some I3 := v1
      have q1' : f4_takePositive N (st I k 2 (zI ((p : Int) + 1))) k (zI 4) = some (zI w, I2) := q1
      simp only [if_pos c1]
      refine ⟨I3, ?_, ?_, fun x a b => by rw [v3 x b, q4 x a, st_k a]⟩
      · rw [c1] at e1
        unfold f4_takeItem f4_takeItem_33
        rw [l_109, l_119, l_0, l_1, l_4]
        simp (disch := omega) only [e1, e2, clP_s, z_eq, if_neg, if_pos, hx2, z_add, letM_s, q1', v1', clM_s, if_true]
      · generalize nmT tl tx 4 1 (p + 1) = r at *
        obtain ⟨o, q⟩ := r
        cases o with
        | none =>
          have nb1 : q ≤ tl := nb.1
          refine ⟨by omega, ?_, by rw [v3 k (by omega)]; exact q2.2.1⟩
          rw [v3 k (by omega), q2.2.2.2.1, hfz]
        | some u =>
          obtain ⟨rfl, rfl, q5⟩ := q2
          obtain ⟨n1, n2, n3, n4⟩ := nb.2 w rfl
          have n3 : w < 10000 := n3
          exact ⟨(show (-999 : Int) ≤ 0 ∧ (0 : Int) ≤ 999 ∧ (-999 : Int) ≤ 0 ∧ (0 : Int) ≤ 999 ∧ 0 ≤ w ∧ w ≤ 9999 ∧ (w = 0 → (0 : Int) ≠ 0 ∨ (0 : Int) ≠ 0) from ⟨by decide, by decide, by decide, by decide, n2, by omega, fun z => by omega⟩), q3, q5.fr (v3 k (by omega)) (v3 (k+1) (by omega)), v2⟩
    · by_cases c2 : chT tl tx p = 109
      · have hp1 : p + 1 ≤ tl := by have := hc.2.2 (by omega); omega
        obtain ⟨I2, w1, p1, q1, q2, q3, q4⟩ := e4_dist (N := N) hN hT hp1 h.adv
        have q1' : f4_takeDistance N (st I k 2 (I k 2 + zI 1)) k = some (zI w1, I2) := by rw [hx2, z_add]; exact q1
        have s2 : ∀ x, k1 ≤ x → x ≤ k1 + 3 → I2 x = I x := fun x a b => by rw [q4 x (by omega), st_k (by omega)]
        have hst : f4_takeItem N I k k1 = f4_takeItem_33 N k k1 I (zI 109) := by
          rw [c2] at e1
          unfold f4_takeItem
          rw [l_109, l_119, l_0]
          simp (disch := omega) only [e1, e2, clP_s, z_eq, if_neg, if_pos, if_true]
        rw [hst]
        simp only [if_neg c1, if_pos c2]
        generalize dsT tl tx 0 (p + 1) = r at *
        obtain ⟨o, q⟩ := r
        cases o with
        | none =>
          obtain ⟨rfl, q80, q5⟩ := q2
          obtain ⟨I3, w2, p2, t1, t2, t3, t4⟩ := e4_dist (N := N) hN hT q3 q5
          have hne : zI (q : Int) ≠ zI (-9) := by rw [← hfz]; exact flt_ne (by omega)
          have t2' : -999 ≤ w2 ∧ w2 ≤ 999 ∧ TxR I3 k tl tx p2 (zI (q : Int)) := by
            rw [hfz] at t2
            generalize dsT tl tx 0 p1 = r2 at *
            obtain ⟨o2, q'⟩ := r2
            cases o2 with
            | none => exact ⟨by have := t2.1; omega, by have := t2.1; omega, by have := t2.2.2; rw [flt_k hne] at this; exact this⟩
            | some u => exact ⟨t2.2.1, t2.2.2.1, t2.2.2.2.2.2⟩
          obtain ⟨I4, f1, f2, f3, f4⟩ := e4_tail N hk hO (by omega) q1' t1 (by omega) (by omega) t2'.1 t2'.2.1 (by omega) t2'.2.2 (hS.fr (fun x a b => by rw [t4 x (by omega), s2 x a b]))
          refine ⟨I4, f1, ⟨q80, ?_, f2.1⟩, fun x a b => by rw [f4 x a b, t4 x a, q4 x a, st_k a]⟩
          have := f2.2.2.1
          rw [this, if_neg hne]
          exact ite_self _
        | some dx =>
          obtain ⟨rfl, b1, b2, rfl, -, q5⟩ := q2
          obtain ⟨I3, w2, p2, t1, t2, t3, t4⟩ := e4_dist (N := N) hN hT q3 q5
          have hd1 := ds1 hT q3
          have hfr : ∀ x, k1 ≤ x → x ≤ k1 + 3 → I3 x = I x := fun x a b => by rw [t4 x (by omega), s2 x a b]
          generalize hr2 : dsT tl tx 0 p1 = r2 at *
          obtain ⟨o2, q'⟩ := r2
          cases o2 with
          | none =>
            obtain ⟨rfl, q80, q6⟩ := t2
            rw [hfz] at q6
            have hne : zI (q' : Int) ≠ zI (-9) := by rw [← hfz]; exact flt_ne (by omega)
            obtain ⟨I4, f1, f2, f3, f4⟩ := e4_tail N hk hO (by omega) q1' t1 b1 b2 (by omega) (by omega) (by omega) q6 (hS.fr hfr)
            refine ⟨I4, f1, ?_, fun x a b => by rw [f4 x a b, t4 x a, q4 x a, st_k a]⟩
            have hds : dsT tl tx (if w1 = 0 then 1 else 0) p1 = (none, q') := by
              by_cases cz : w1 = 0
              · rw [if_pos cz]; exact hd1
              · rw [if_neg cz]; exact hr2
            simp only [hds]
            refine ⟨q80, ?_, f2.1⟩
            have := f2.2.2.1
            rw [this, if_neg hne]
            exact ite_self _
          | some dy =>
            obtain ⟨rfl, b3, b4, rfl, b5, q6⟩ := t2
            obtain ⟨I4, f1, f2, f3, f4⟩ := e4_tail N hk hO (by omega) q1' t1 b1 b2 b3 b4 (by omega) q6 (hS.fr hfr)
            refine ⟨I4, f1, ?_, fun x a b => by rw [f4 x a b, t4 x a, q4 x a, st_k a]⟩
            by_cases cz : w1 = 0 ∧ w2 = 0
            · have hds : dsT tl tx (if w1 = 0 then 1 else 0) p1 = (none, p2 - 1) := by
                rw [if_pos cz.1, hd1]
                simp only [if_pos cz.2]
              rw [if_pos cz, if_pos rfl] at f2
              simp only [hds]
              exact ⟨by omega, by rw [f2.2.2.1, show (p2 : Int) - 1 = ((p2 - 1 : Nat) : Int) by omega], f2.1⟩
            · have hds : dsT tl tx (if w1 = 0 then 1 else 0) p1 = (some w2, p2) := by
                by_cases cw : w1 = 0
                · rw [if_pos cw, hd1]
                  simp only [if_neg (show ¬ w2 = 0 from fun e => cz ⟨cw, e⟩)]
                · rw [if_neg cw]; exact hr2
              rw [if_neg cz] at f2
              simp only [hds]
              exact ⟨⟨b1, b2, b3, b4, by show (0 : Int) ≤ 0; omega, by show (0 : Int) ≤ 9999; omega, fun _ => by show w1 ≠ 0 ∨ w2 ≠ 0; omega⟩, t3, f2, f3⟩
      · simp only [if_neg c1, if_neg c2]
        obtain ⟨I1, q1, q2, q3⟩ := e4_fail N (q := p) h
        refine ⟨I1, ?_, ⟨by omega, by rw [q2.2.2.1, hfz], q2.1⟩, fun x a _ => q3 x a⟩
        generalize chT tl tx p = C at *
        unfold f4_takeItem
        rw [l_109, l_119, l_0]
        simp (disch := omega) only [e1, e2, clP_s, z_eq, if_neg, if_pos, hx2, q1, clM_s, if_true]
