/-! RAMPED: intervals, the top index, times of moves, lengths -/
theorem Do.br {α : Type} {c : Prop} {d : Decidable c} {A B : Nat → Mem → Nat → Option (α × Mem)} {g g' : GS} {r : α} (h1 : c → Do A g r g') (h2 : ¬ c → Do B g r g') : Do (fun N I k => @ite _ c d (A N I k) (B N I k)) g r g' := by
  by_cases h : c
  · exact Do.pos h (h1 h)
  · exact Do.neg h (h2 h)
theorem itv_bd {a c n : Nat} (ha : 1 ≤ a) (hc : c ≤ 10000) (hn : n ≤ 999) : itv a c n ≤ 447213 := by
  have h1 := T_bd (n := n + 1) ha (by omega)
  unfold itv Rr
  omega
theorem d_itv {g : GS} (hG : OkG g) {n : Nat} (hn : n ≤ 999) {w : Int32} (hw : w = zI (n : Int)) : Do (fun N I k => f6_interval N I k w) g (zI (itv (sA (sG g)) (cr (sV (sG g))) n : Int)) g := by
  subst hw
  refine (d_interval hG _).eqr ?_
  rw [zI_t (by omega) (by omega)]
  unfold spInt
  rw [if_pos (show (0 : Int) ≤ n ∧ (n : Int) ≤ 999 by omega)]
  rfl
theorem d_mvt {g : GS} (hG : OkG g) {n : Nat} (h1 : 1 ≤ n) (hn : n ≤ 999) {w : Int32} (hw : w = zI (n : Int)) : Do (fun N I k => f6_moveTicks N I k w) g (zI (mv (sA (sG g)) (cr (sV (sG g))) n : Int)) g := by
  subst hw
  refine (d_moveTicks hG _).eqr ?_
  rw [zI_t (by omega) (by omega)]
  unfold spMoveT
  rw [if_pos (show (1 : Int) ≤ n ∧ (n : Int) ≤ 999 by omega)]
  rfl
theorem grtL_sp {a v S : Nat} {K : Int} (h1 : 1 ≤ S) (hK : (mv a (cr v) S : Int) ≤ K) : ∀ t, S ≤ t → ∃ l : Nat, grtL a v K t = (l : Int) ∧ S ≤ l ∧ l ≤ t ∧ (mv a (cr v) l : Int) ≤ K ∧ ∀ l', l < l' → l' ≤ t → K < (mv a (cr v) l' : Int) := by
  intro t
  induction t with
  | zero => intro h; omega
  | succ t ih =>
    intro h
    rw [grtL]
    by_cases c : (mv a (cr v) (t + 1) : Int) ≤ K
    · rw [if_pos c]
      exact ⟨t + 1, rfl, h, Nat.le_refl _, c, fun l' q1 q2 => by omega⟩
    · rw [if_neg c]
      have hne : S ≠ t + 1 := fun e => c (by rw [← e]; exact hK)
      obtain ⟨l, a1, a2, a3, a4, a5⟩ := ih (by omega)
      refine ⟨l, a1, a2, by omega, a4, fun l' q1 q2 => ?_⟩
      by_cases e : l' = t + 1
      · rw [e]; omega
      · exact a5 l' q1 (by omega)
theorem w_r188 {g : GS} (hG : OkG g) (y1 : Int32) {S : Nat} (hS : 1 ≤ S) (hS2 : S ≤ 60) : Do (fun N I k => fL_ramped_188 N k y1 I (1 : Int32) (zI (S : Int)) (zI (mv (sA (sG g)) (cr (sV (sG g))) S : Int)) (zI 0)) g (1 : Int32) g := by
  have hb := hG.S.b
  have hc := cr_bd hb.2.2.1 hb.2.2.2.1
  have hm : ∀ l, l ≤ 999 → mv (sA (sG g)) (cr (sV (sG g))) l ≤ 446765787 := fun l hl => mv_bd9 hb.1 hc.2 hl
  have hge := mv_ge (sA (sG g)) (cr (sV (sG g))) S
  have hmS := hm S (by omega)
  have h11 : 1 ≤ mv (sA (sG g)) (cr (sV (sG g))) S := Nat.le_trans (Nat.mul_le_mul hS (show 1 ≤ cr (sV (sG g)) by omega)) hge
  unfold fL_ramped_188
  refine Do.neg (by decide) ?_
  refine Do.bind (d_mvt hG hS (by omega) rfl) ?_
  refine Do.pos rfl ?_
  refine Do.pos (by decide) ?_
  unfold fL_ramped_214
  refine Do.br (fun _ => Do.neg (by decide) (Do.ret _ _)) (fun c1 => ?_)
  rw [l_100000, z_le (by omega) (by omega) (by omega) (by omega)] at c1
  refine Do.neg (by decide) ?_
  obtain ⟨lg, a1, a2, a3, a4, a5⟩ := grtL_sp (a := sA (sG g)) (v := sV (sG g)) (K := (mv (sA (sG g)) (cr (sV (sG g))) S : Int)) hS (Int.le_refl _) 999 (by omega)
  refine Do.bind ((d_greatestLength hG _).eqr (r' := zI (lg : Int)) ?_) ?_
  · rw [zI_t (by omega) (by omega)]
    unfold spGreat
    rw [if_pos (by omega), a1]
  refine Do.neg ?_ ?_
  · rw [z_lt (by omega) (by omega) (by omega) (by omega)]; omega
  have hml := hm lg a3
  refine Do.bind (d_mvt hG (by omega) a3 rfl) ?_
  refine Do.neg ?_ ?_
  · rw [z_lt (by omega) (by omega) (by omega) (by omega)]; omega
  refine Do.br (fun _ => Do.ret _ _) (fun c2 => ?_)
  rw [l_999, z_eq (by omega) (by omega) (by omega) (by omega)] at c2
  have hml1 := hm (lg + 1) (by omega)
  refine Do.bind (d_mvt (n := lg + 1) hG (by omega) (by omega) (by rw [l_1, z_add]; rfl)) ?_
  refine Do.neg ?_ (Do.ret _ _)
  have := a5 (lg + 1) (by omega) (by omega)
  rw [z_le (by omega) (by omega) (by omega) (by omega)]
  omega
def itq (a c S tp k : Nat) : Nat := itv a c (min (min k (S - 1 - k)) tp)
theorem w_r98 {g : GS} (hG : OkG g) (y1 : Int32) {S tp : Nat} (hS : 1 ≤ S) (hS2 : S ≤ 60) (htp : tp = topN (sA (sG g)) (cr (sV (sG g))) 999) :
    ∀ (e j i : Nat) (v6 v7 v8 : Int32), i + e = S → j + e ≤ 100 → v6 = zI (sumN (itq (sA (sG g)) (cr (sV (sG g))) S tp) i : Int) → v7 = zI ((if i = 0 then 0 else min (min (i - 1) (S - 1 - (i - 1))) tp : Nat) : Int) → v8 = zI (e : Int) → Do (fun N I k => fL_ramped_98 N k y1 (N - j) I (zI (tp : Int)) (1 : Int32) (zI (S : Int)) v6 v7 v8) g (1 : Int32) g := by
  have hb := hG.S.b
  have hc := cr_bd hb.2.2.1 hb.2.2.2.1
  have ht9 : tp ≤ 999 := by rw [htp]; exact topN_le _ _ _
  intro e
  induction e with
  | zero =>
    intro j i v6 v7 v8 hi hj h6 h7 h8
    subst h6 h7 h8
    refine Do.of (fun N I k hN => (congrArg (fun cc => fL_ramped_98 N k y1 cc I (zI (tp : Int)) (1 : Int32) (zI (S : Int)) _ _ _) (sub1 hN (by omega))).trans (fL_ramped_98.eq_2 ..)) ?_
    refine Do.pos (by decide) ?_
    have e1 : i = S := by omega
    have e2 : sumN (itq (sA (sG g)) (cr (sV (sG g))) S tp) i = mv (sA (sG g)) (cr (sV (sG g))) S := by
      rw [e1, htp]
      exact mv_ud _ _ _
    have e3 : (if i = 0 then 0 else min (min (i - 1) (S - 1 - (i - 1))) tp : Nat) = 0 := by
      rw [if_neg (by omega)]; omega
    rw [e2, e3]
    exact w_r188 hG y1 hS hS2
  | succ e ih =>
    intro j i v6 v7 v8 hi hj h6 h7 h8
    have hstep : ∀ (q : Nat) (x : Int32), q = min (min i (S - 1 - i)) tp → x = zI (q : Int) → Do (fun N I k => clP (f6_interval N I k x) (fun (q_ : Int32) (I_ : Mem) => letM (v6 + q_) (fun (a : Int32) => letM (v8 + (-1 : Int32)) (fun (b : Int32) => fL_ramped_98 N k y1 (N - (j + 1)) I_ (zI (tp : Int)) (1 : Int32) (zI (S : Int)) a x b)))) g (1 : Int32) g := by
      intro q x hq hx
      refine Do.bind (d_itv hG (show q ≤ 999 by omega) hx) ?_
      refine Do.lt (Do.lt ?_)
      refine ih (j + 1) (i + 1) _ _ _ (by omega) (by omega) ?_ ?_ ?_
      · rw [h6, z_add, sumN, hq]
        rfl
      · rw [hx, if_neg (by omega), hq]
        rfl
      · rw [h8, l_m1, z_add]
        exact congrArg zI (by omega)
    refine Do.of (fun N I k hN => (congrArg (fun cc => fL_ramped_98 N k y1 cc I (zI (tp : Int)) (1 : Int32) (zI (S : Int)) v6 v7 v8) (sub1 hN (by omega))).trans (fL_ramped_98.eq_2 ..)) ?_
    have b7 : (if i = 0 then 0 else min (min (i - 1) (S - 1 - (i - 1))) tp : Nat) ≤ 60 := by
      by_cases c : i = 0
      · rw [if_pos c]; omega
      · rw [if_neg c]; omega
    obtain ⟨p, hp⟩ : ∃ p, p = (if i = 0 then 0 else min (min (i - 1) (S - 1 - (i - 1))) tp : Nat) := ⟨_, rfl⟩
    have hp2 : ¬ i = 0 → p = min (min (i - 1) (S - 1 - (i - 1))) tp := fun c => by rw [hp, if_neg c]
    rw [← hp] at h7 b7
    refine Do.neg ?_ ?_
    · rw [h8, l_0, z_le (by omega) (by omega) (by omega) (by omega)]; omega
    refine Do.neg (by decide) ?_
    refine Do.br (fun c1 => ?_) (fun c1 => ?_)
    · rw [h8, l_1, z_sub, z_le (by omega) (by omega) (by omega) (by omega)] at c1
      refine Do.br (fun c2 => ?_) (fun c2 => ?_)
      · rw [h8, z_eq (by omega) (by omega) (by omega) (by omega)] at c2
        exact hstep 0 _ (by omega) l_0
      · rw [h8, z_eq (by omega) (by omega) (by omega) (by omega)] at c2
        have hp3 := hp2 (by omega)
        refine Do.br (fun c3 => ?_) (fun c3 => ?_)
        · rw [h7, l_1, z_add, z_lt (by omega) (by omega) (by omega) (by omega)] at c3
          refine Do.br (fun c4 => ?_) (fun c4 => ?_)
          · rw [h7, z_lt (by omega) (by omega) (by omega) (by omega)] at c4
            omega
          · exact hstep p _ (by omega) h7
        · rw [h7, l_1, z_add, z_lt (by omega) (by omega) (by omega) (by omega)] at c3
          refine Do.lt ?_
          exact hstep (p + 1) _ (by omega) (by rw [h7, l_1, z_add]; rfl)
    · rw [h8, l_1, z_sub, z_le (by omega) (by omega) (by omega) (by omega)] at c1
      refine Do.lt ?_
      refine Do.br (fun c2 => ?_) (fun c2 => ?_)
      · rw [h8, z_eq (by omega) (by omega) (by omega) (by omega)] at c2
        exact hstep 0 _ (by omega) l_0
      · rw [h8, z_eq (by omega) (by omega) (by omega) (by omega)] at c2
        have hp3 := hp2 (by omega)
        refine Do.br (fun c3 => ?_) (fun c3 => ?_)
        · rw [h8, h7, l_1, z_add, z_sub, z_lt (by omega) (by omega) (by omega) (by omega)] at c3
          refine Do.br (fun c4 => ?_) (fun c4 => ?_)
          · rw [h8, h7, l_1, z_sub, z_lt (by omega) (by omega) (by omega) (by omega)] at c4
            refine Do.lt ?_
            exact hstep (p - 1) _ (by omega) (by rw [h7, l_1, z_sub]; exact congrArg zI (by omega))
          · rw [h8, h7, l_1, z_sub, z_lt (by omega) (by omega) (by omega) (by omega)] at c4
            exact hstep p _ (by omega) h7
        · rw [h8, h7, l_1, z_add, z_sub, z_lt (by omega) (by omega) (by omega) (by omega)] at c3
          refine Do.lt ?_
          exact hstep (p + 1) _ (by omega) (by rw [h7, l_1, z_add]; rfl)
theorem w_r80 {g : GS} (hG : OkG g) {y : Int} (hy : 0 ≤ y) (hy2 : y < 2147483648) {tp : Nat} (htp : tp = topN (sA (sG g)) (cr (sV (sG g))) 999) : Do (fun N I k => fL_ramped_80 N k (zI y) I (zI (tp : Int)) (1 : Int32)) g (1 : Int32) g := by
  have e1 : (1 : Int32) + (zI y - zI y / (60 : Int32) * (60 : Int32)) = zI (((y % 60).toNat + 1 : Nat) : Int) := by
    rw [show (60 : Int32) = zI 60 from rfl, z_remI hy hy2 (by decide) (by decide), l_1, z_add]
    exact congrArg zI (by omega)
  unfold fL_ramped_80
  refine Do.lt ?_
  rw [e1]
  exact w_r98 hG (zI y) (S := (y % 60).toNat + 1) (by omega) (by omega) htp _ 0 0 _ _ _ (by omega) (by omega) l_0 l_0 rfl
theorem itv_up {r1 r2 c : Nat} (u1 : c < r1) (u2 : r2 ≤ c) : max r2 c < max r1 c := by omega
theorem w_r32 {g : GS} (hG : OkG g) {y1 : Int32} {tp : Nat} (ht9 : tp ≤ 999) (hup : ∀ i, i < tp → cr (sV (sG g)) < Rr (sA (sG g)) i) (hat : tp < 999 → Rr (sA (sG g)) tp ≤ cr (sV (sG g))) (hK : Do (fun N I k => fL_ramped_80 N k y1 I (zI (tp : Int)) (1 : Int32)) g (1 : Int32) g) : ∀ (e j v : Nat) (v5 : Int32), v + e = 40 → j + e ≤ 100 → v5 = zI (v : Int) → Do (fun N I k => fL_ramped_32 N k y1 (N - j) I (zI (tp : Int)) (zI (itv (sA (sG g)) (cr (sV (sG g))) tp : Int)) (1 : Int32) v5) g (1 : Int32) g := by
  have hb := hG.S.b
  have hc := cr_bd hb.2.2.1 hb.2.2.2.1
  have hb1 := itv_bd (n := tp) hb.1 hc.2 ht9
  intro e
  induction e with
  | zero =>
    intro j v v5 hv hj h5
    subst h5
    refine Do.of (fun N I k hN => (congrArg (fun cc => fL_ramped_32 N k y1 cc I (zI (tp : Int)) _ (1 : Int32) (zI (v : Int))) (sub1 hN (by omega))).trans (fL_ramped_32.eq_2 ..)) ?_
    refine Do.br (fun _ => hK) (fun _ => Do.pos ?_ hK)
    rw [show (40 : Int32) = zI 40 from rfl, z_le (by omega) (by omega) (by omega) (by omega)]; omega
  | succ e ih =>
    intro j v v5 hv hj h5
    have hI : Do (fun N I k => fL_ramped_32 N k y1 (N - (j + 1)) I (zI (tp : Int)) (zI (itv (sA (sG g)) (cr (sV (sG g))) tp : Int)) (1 : Int32) (v5 + (1 : Int32))) g (1 : Int32) g := ih (j + 1) (v + 1) _ (by omega) (by omega) (by rw [h5, l_1, z_add]; rfl)
    have hb2 := itv_bd (n := v) hb.1 hc.2 (by omega)
    have hup := hup v
    have hlt : v < tp → tp < 999 → itv (sA (sG g)) (cr (sV (sG g))) tp < itv (sA (sG g)) (cr (sV (sG g))) v := fun q1 q2 => itv_up (hup q1) (hat q2)
    clear hup hat
    generalize itv (sA (sG g)) (cr (sV (sG g))) tp = t1 at *
    refine Do.of (fun N I k hN => (congrArg (fun cc => fL_ramped_32 N k y1 cc I (zI (tp : Int)) _ (1 : Int32) v5) (sub1 hN (by omega))).trans (fL_ramped_32.eq_2 ..)) ?_
    refine Do.br (fun _ => hK) (fun c1 => ?_)
    rw [h5, z_le (by omega) (by omega) (by omega) (by omega)] at c1
    refine Do.br (fun _ => hK) (fun _ => ?_)
    refine Do.neg (by decide) ?_
    refine Do.bind (d_itv hG (show v ≤ 999 by omega) h5) ?_
    refine Do.br (fun _ => Do.lt hI) (fun c2 => ?_)
    generalize itv (sA (sG g)) (cr (sV (sG g))) v = t2 at *
    rw [z_lt (by omega) (by omega) (by omega) (by omega)] at c2
    refine Do.pos ?_ (Do.lt hI)
    have h9 : tp = 999 := by
      rcases Nat.lt_or_ge tp 999 with q | q
      · have := hlt (by omega) q
        omega
      · exact Nat.le_antisymm ht9 q
    rw [h9]
    rfl
/-- ramps and the times of moves are as they should be -/
theorem w_ramped {g : GS} (hG : OkG g) {y : Int} (hy : 0 ≤ y) (hy2 : y < 2147483648) : Do (fun N I k => fL_ramped N I k (zI y)) g (1 : Int32) g := by
  obtain ⟨tp, htp⟩ : ∃ tp, tp = topN (sA (sG g)) (cr (sV (sG g))) 999 := ⟨_, rfl⟩
  have ht9 : tp ≤ 999 := by rw [htp]; exact topN_le _ _ _
  unfold fL_ramped
  refine Do.bind ((d_topIndex hG).eqr (r' := zI (tp : Int)) (by rw [htp]; rfl)) ?_
  refine Do.bind (d_itv hG ht9 rfl) ?_
  refine Do.neg ?_ ?_
  · rw [l_0, z_lt (by omega) (by omega) (by omega) (by omega)]; omega
  refine Do.neg ?_ ?_
  · rw [l_999, z_lt (by omega) (by omega) (by omega) (by omega)]; omega
  unfold fL_ramped_27
  refine w_r32 hG ht9 (fun i hi => topN_up (most := 999) (by rw [← htp]; exact hi)) (fun q => ?_) (w_r80 hG hy hy2 htp) 40 0 0 (0 : Int32) (by omega) (by omega) l_0
  rw [htp] at q ⊢
  exact topN_at q
