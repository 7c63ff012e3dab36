/-! AHEAD: predictions come about; undone, all is as it was; a stopped move slows down index by index -/
abbrev hhG (g : GS) : Nat → Sg := g.2.2.2.2.2.1
theorem ag_s (g : GS) (s : Sg) : sG (actG g s) = s := by
  obtain ⟨tl, tx, s0, hc, he, hh, sv⟩ := g
  rfl
theorem ag_c (g : GS) (s : Sg) : nHc (actG g s) = min (nHc g + 1) 14 := by
  obtain ⟨tl, tx, s0, hc, he, hh, sv⟩ := g
  rfl
theorem ag_h0 (g : GS) (s : Sg) : hhG (actG g s) 0 = sG g := by
  obtain ⟨tl, tx, s0, hc, he, hh, sv⟩ := g
  rfl
theorem ag_h1 (g : GS) (s : Sg) : hhG (actG g s) 1 = hhG g 0 := by
  obtain ⟨tl, tx, s0, hc, he, hh, sv⟩ := g
  rfl
theorem ag_v (g : GS) (s : Sg) (b : Nat) : nSav (actG g s) b = nSav g b := by
  obtain ⟨tl, tx, s0, hc, he, hh, sv⟩ := g
  rfl
theorem ug_s (g : GS) : sG (undG g) = hhG g 0 := by
  obtain ⟨tl, tx, s0, hc, he, hh, sv⟩ := g
  rfl
theorem ug_c (g : GS) : nHc (undG g) = nHc g - 1 := by
  obtain ⟨tl, tx, s0, hc, he, hh, sv⟩ := g
  rfl
theorem ug_h (g : GS) : hhG (undG g) 0 = hhG g 1 := by
  obtain ⟨tl, tx, s0, hc, he, hh, sv⟩ := g
  rfl
theorem ug_v (g : GS) (b : Nat) : nSav (undG g) b = nSav g b := by
  obtain ⟨tl, tx, s0, hc, he, hh, sv⟩ := g
  rfl
theorem rg_s (g : GS) (s : Sg) : sG (resG g s) = s := by
  obtain ⟨tl, tx, s0, hc, he, hh, sv⟩ := g
  rfl
theorem rg_c (g : GS) (s : Sg) : nHc (resG g s) = 0 := by
  obtain ⟨tl, tx, s0, hc, he, hh, sv⟩ := g
  rfl
/-- a run to the end -/
theorem run_all : ∀ (M : Nat) (s : Sg), OkS s → mu s ≤ M → ∃ j, j ≤ M ∧ tsum j s ≤ 20000 * j ∧ ∀ (f : Nat) (K : Int), j ≤ f → (tsum j s : Int) ≤ K → runS f K s = (j, itS j s) := by
  intro M
  induction M with
  | zero =>
    intro s hO hM
    have hn : nS s = 0 := by
      rcases Nat.eq_zero_or_pos (nS s) with q | q
      · exact q
      · have := mu_step hO q; omega
    exact ⟨0, Nat.le_refl _, Nat.zero_le _, fun f K _ _ => runS_0 (Or.inl hn)⟩
  | succ M ih =>
    intro s hO hM
    rcases Nat.eq_zero_or_pos (nS s) with hn | hn
    · exact ⟨0, Nat.zero_le _, Nat.zero_le _, fun f K _ _ => runS_0 (Or.inl hn)⟩
    · have h1 := mu_step hO hn
      have h2 := tkS_bd hO hn
      obtain ⟨j, a1, a2, a3⟩ := ih (stepS s) (OkS_step hO hn) (by omega)
      have ht : tsum (j + 1) s = tkS s + tsum j (stepS s) := rfl
      refine ⟨j + 1, by omega, by rw [ht]; omega, fun f K hf hK => ?_⟩
      rw [ht] at hK
      obtain ⟨f, rfl⟩ : ∃ x, f = x + 1 := ⟨f - 1, by omega⟩
      rw [runS, if_neg (by omega), a3 f (K - (tkS s : Int)) (by omega) (by omega)]
      rfl
theorem z_left (x t k : Int32) : x - (t + k) = x - t - k := by grind
theorem left_step {s : Sg} (hO : OkS s) (hn : 0 < nS s) : sT (runS 8000 BIG (stepS s)).2 - sT (stepS s) = sT (runS 8000 BIG s).2 - sT s - zI (tkS s : Int) := by
  have h1 := OkS_step hO hn
  have h2 := tkS_bd hO hn
  have h3 := mu_le h1
  obtain ⟨j, a1, a2, a3⟩ := run_all 7992 (stepS s) h1 h3
  have hB : (BIG : Int) = 1000000000 := rfl
  have e1 := a3 8000 BIG (by omega) (by omega)
  have e2 : runS 8000 BIG s = ((runS 7999 (BIG - (tkS s : Int)) (stepS s)).1 + 1, (runS 7999 (BIG - (tkS s : Int)) (stepS s)).2) := by
    show runS (7999 + 1) BIG s = _
    rw [runS, if_neg (by omega)]
  rw [a3 7999 (BIG - (tkS s : Int)) (by omega) (by omega)] at e2
  rw [e1, e2, sT_step]
  exact z_left _ _ _
/-- what a run takes, and why it ends -/
theorem run_t : ∀ (f : Nat) (K : Int) (s : Sg), OkS s → 0 ≤ K → mu s ≤ f → ∃ c : Nat, (c : Int) ≤ K ∧ sT (runS f K s).2 = sT s + zI (c : Int) ∧ (nS (runS f K s).2 = 0 ∨ K - (c : Int) < (tkS (runS f K s).2 : Int)) := by
  intro f
  induction f with
  | zero =>
    intro K s hO hK hM
    refine ⟨0, hK, (Int32.add_zero _).symm, Or.inl ?_⟩
    rcases Nat.eq_zero_or_pos (nS s) with q | q
    · exact q
    · have := mu_step hO q; omega
  | succ f ih =>
    intro K s hO hK hM
    by_cases c1 : nS s = 0 ∨ K < (tkS s : Int)
    · rw [runS, if_pos c1]
      refine ⟨0, hK, (Int32.add_zero _).symm, ?_⟩
      rcases c1 with q | q
      · exact Or.inl q
      · exact Or.inr (by show K - ((0 : Nat) : Int) < (tkS s : Int); omega)
    · have hn : 0 < nS s := by omega
      have h1 := mu_step hO hn
      obtain ⟨c, a1, a2, a3⟩ := ih (K - (tkS s : Int)) (stepS s) (OkS_step hO hn) (by omega) (by omega)
      rw [runS, if_neg c1]
      refine ⟨tkS s + c, by omega, ?_, ?_⟩
      · show sT (runS f (K - (tkS s : Int)) (stepS s)).2 = _
        rw [a2, sT_step, Int32.add_assoc, z_add]
        rfl
      · rcases a3 with q | q
        · exact Or.inl q
        · refine Or.inr ?_
          show K - ((tkS s + c : Nat) : Int) < (tkS (runS f (K - (tkS s : Int)) (stepS s)).2 : Int)
          omega
theorem w_384 {g : GS} {m : Nat} {s : Sg} (hg : Gd g m) (hsv : nSav g 1 = some s) (y1 : Int32) : D1 (fun N I k => fL_ahead_384 N k y1 I (nowZ s) (zI (nS s : Int)) (1 : Int32)) g (m + 1) := by
  have hr : spRest g ((1 : Int32)).toInt = (zI (nS s : Int), resG g s) := by
    unfold spRest
    rw [if_pos (show ((1 : Int32)).toInt = 0 ∨ ((1 : Int32)).toInt = 1 from Or.inr rfl)]
    show (match nSav g 1 with | none => (zI (-3), g) | some s => (zI (nS s : Int), resG g s)) = _
    rw [hsv]
  have hg' : Gd (resG g s) (m + 1) := by
    have := gd_rest (z := ((1 : Int32)).toInt) hg
    rw [hr] at this
    exact this
  unfold fL_ahead_384
  refine D1.neg (by decide) ?_
  refine D1.call ((d_restore hg.1 (1 : Int32)).to hr) ?_
  refine D1.pos rfl ?_
  refine D1.call ((w_now hg'.1).eqr (r' := nowZ s) (by rw [rg_s])) ?_
  refine D1.pos (lg_self _) ?_
  refine D1.call ((d_undo hg'.1).to (r := (-3 : Int32)) (g' := resG g s) ?_) ?_
  · unfold spUndo
    rw [if_pos (rg_c g s), l_m3]
  exact D1.pos rfl (D1.ret hg')
theorem ramp_0 {g : GS} (h : sM (sG g) = 0) : (spRamp g).1 = (-9 : Int32) := by
  unfold spRamp
  rw [if_pos h, l_m9]
theorem ramp_i {g : GS} {v : Nat} (h : sM (sG g) ≠ 0) (hi : sI (sG g) = v) : (spRamp g).1 = zI (v : Int) := by
  unfold spRamp
  rw [if_neg h, hi]
theorem step_to {g : GS} (h : nS (sG g) ≠ 0) : spStep g = (zI (tkS (sG g) : Int), actG g (stepS (sG g))) := by
  unfold spStep
  rw [if_neg h]
theorem gd_stepA {g : GS} {m : Nat} (hg : Gd g m) (hm : m < 100000) (h : nS (sG g) ≠ 0) : Gd (actG g (stepS (sG g))) (m + 1) := gd_act hg hm (OkS_step hg.1.S (Nat.pos_of_ne_zero h))
def StpQ (s : Sg) (v : Nat) : Prop := nS s = 0 ∨ (nS s = 1 ∧ sM s ≠ 0 ∧ sI s = v ∧ sL s = v ∧ 1 ≤ v)
theorem stp_step {s : Sg} {v : Nat} (hO : OkS s) (h1 : nS s = 1) (h2 : sM s ≠ 0) (h3 : sI s = v) (h4 : sL s = v) (h5 : 1 ≤ v) : (v = 1 → nS (stepS s) = 0 ∧ sM (stepS s) = 0) ∧ (v ≠ 1 → nS (stepS s) = 1 ∧ sM (stepS s) ≠ 0 ∧ sI (stepS s) = v - 1 ∧ sL (stepS s) = v - 1) := by
  obtain ⟨a, w, x, y, t, n, d, m, i, l⟩ := s
  change n = 1 at h1
  change m ≠ 0 at h2
  change i = v at h3
  change l = v at h4
  subst h1 h3 h4
  obtain ⟨-, -, -, -, -, -, -, o8⟩ := hO
  obtain ⟨-, b2, -, -, -⟩ := o8 (by omega)
  have hx : nxtI a w m l l = l - 1 := by
    unfold nxtI idxA
    rw [if_neg h2, if_neg (by omega), if_neg (by omega)]
  unfold stepS
  simp only [b2, Int.lt_irrefl, if_false, if_neg h2, hx]
  refine ⟨fun e => ?_, fun e => ?_⟩
  · rw [if_pos (by omega)]
    exact ⟨rfl, rfl⟩
  · rw [if_neg (by omega)]
    exact ⟨rfl, Nat.succ_ne_zero _, rfl, rfl⟩
theorem w_326 (y1 : Int32) {s0 : Sg} : ∀ (v j m : Nat) (g : GS) (v12 : Int32), j + v ≤ 2000 → Gd g m → nSav g 1 = some s0 → StpQ (sG g) v → v12 = zI (v : Int) → m + v < 99000 → D1 (fun N I k => fL_ahead_326 N k y1 (N - j) I (nowZ s0) (zI (nS s0 : Int)) (1 : Int32) v12) g (m + v + 1) := by
  intro v
  induction v with
  | zero =>
    intro j m g v12 hj hg hsv hs h12 hm
    have hn : nS (sG g) = 0 := by
      rcases hs with q | q
      · exact q
      · exact absurd q.2.2.2.2 (by omega)
    refine D1.of (fun N I k hN => (congrArg (fun c => fL_ahead_326 N k y1 c I (nowZ s0) (zI (nS s0 : Int)) (1 : Int32) v12) (sub1 hN (by omega))).trans (fL_ahead_326.eq_2 ..)) ?_
    refine D1.neg (by decide) ?_
    refine D1.call (d_queueLength hg.1) ?_
    refine D1.pos ?_ (w_384 hg hsv y1)
    rw [hn]; decide
  | succ v ih =>
    intro j m g v12 hj hg hsv hs h12 hm
    refine D1.of (fun N I k hN => (congrArg (fun c => fL_ahead_326 N k y1 c I (nowZ s0) (zI (nS s0 : Int)) (1 : Int32) v12) (sub1 hN (by omega))).trans (fL_ahead_326.eq_2 ..)) ?_
    refine D1.neg (by decide) ?_
    refine D1.call (d_queueLength hg.1) ?_
    rcases hs with hn | ⟨p1, p2, p3, p4, p5⟩
    · refine D1.pos ?_ ((w_384 hg hsv y1).le (by omega))
      rw [hn]; decide
    · refine D1.neg ?_ ?_
      · rw [p1]; decide
      refine D1.lt ?_
      have hx : v12 + (-1 : Int32) = zI (v : Int) := by
        rw [h12, l_m1, z_add]
        exact congrArg zI (by omega)
      rw [hx]
      have hn0 : nS (sG g) ≠ 0 := by omega
      have htk := tkS_bd hg.1.S (Nat.pos_of_ne_zero hn0)
      obtain ⟨q1, q2⟩ := stp_step hg.1.S p1 p2 p3 p4 p5
      have hg2 := gd_stepA hg (by omega) hn0
      have hsv2 : nSav (actG g (stepS (sG g))) 1 = some s0 := by rw [ag_v]; exact hsv
      refine D1.call ((d_step hg.1).to (step_to hn0)) ?_
      refine D1.neg ?_ ?_
      · rw [l_0, z_le (by omega) (by omega) (by omega) (by omega)]; omega
      by_cases cv : v = 0
      · subst cv
        obtain ⟨u1, u2⟩ := q1 rfl
        refine D1.pos (by decide) ?_
        refine D1.call ((d_rampIndex hg2.1).eqr (ramp_0 (by rw [ag_s]; exact u2))) ?_
        refine D1.pos rfl ?_
        exact (ih (j + 1) (m + 1) _ _ (by omega) hg2 hsv2 (Or.inl (by rw [ag_s]; exact u1)) rfl (by omega)).le (by omega)
      · obtain ⟨u1, u2, u3, u4⟩ := q2 (by omega)
        refine D1.neg ?_ ?_
        · rw [l_0, z_eq (by omega) (by omega) (by omega) (by omega)]; omega
        refine D1.call ((d_rampIndex hg2.1).eqr (ramp_i (v := v) (by rw [ag_s]; exact u2) (by rw [ag_s]; exact u3))) ?_
        refine D1.pos rfl ?_
        exact (ih (j + 1) (m + 1) _ _ (by omega) hg2 hsv2 (Or.inr (by rw [ag_s]; exact ⟨u1, u2, u3, u4, by omega⟩)) rfl (by omega)).le (by omega)
theorem stop_0 {s : Sg} (h : sI s = 0) : nS (stopS s) = 0 ∧ sM (stopS s) = 0 := by
  obtain ⟨a, w, x, y, t, n, d, m, i, l⟩ := s
  have h : i = 0 := h
  have e : stopS (a, w, x, y, t, n, d, m, i, l) = if i = 0 then (a, w, x, y, t, 0, d, 0, 0, 0) else (a, w, x, y, t, 1, d, m, i, i) := rfl
  rw [e, if_pos h]
  exact ⟨rfl, rfl⟩
theorem stop_i {s : Sg} (h : sI s ≠ 0) : nS (stopS s) = 1 ∧ sM (stopS s) = sM s ∧ sI (stopS s) = sI s ∧ sL (stopS s) = sI s ∧ sD (stopS s) = sD s := by
  obtain ⟨a, w, x, y, t, n, d, m, i, l⟩ := s
  have h : i ≠ 0 := h
  have e : stopS (a, w, x, y, t, n, d, m, i, l) = if i = 0 then (a, w, x, y, t, 0, d, 0, 0, 0) else (a, w, x, y, t, 1, d, m, i, i) := rfl
  rw [e, if_neg h]
  exact ⟨rfl, rfl, rfl, rfl, rfl⟩
theorem moving_d {s : Sg} (h : OkS s) (c : sM s ≠ 0) : (sD s 0).2.2 = 0 := by
  obtain ⟨a, v, x, y, t, n, d, m, i, l⟩ := s
  exact (h.2.2.2.2.2.2.2 (Nat.pos_of_ne_zero c)).2.1
theorem w_248 (y1 : Int32) {s0 : Sg} {g : GS} {m : Nat} (hg : Gd g m) (hsv : nSav g 1 = some s0) (hm : m < 97000) : D1 (fun N I k => fL_ahead_248 N k y1 I (nowZ s0) (zI (nS s0 : Int)) (1 : Int32)) g (m + 1100) := by
  unfold fL_ahead_248
  refine D1.neg (by decide) ?_
  by_cases c : sM (sG g) = 0
  · refine D1.call ((d_rampIndex hg.1).eqr (ramp_0 c)) ?_
    exact D1.pos rfl ((w_384 hg hsv y1).le (by omega))
  · obtain ⟨i, hi⟩ : ∃ i, i = sI (sG g) := ⟨_, rfl⟩
    have hb := m_bd hg.1.S
    refine D1.call ((d_rampIndex hg.1).eqr (ramp_i c hi.symm)) ?_
    refine D1.neg ?_ ?_
    · rw [l_m9, z_eq (by omega) (by omega) (by omega) (by omega)]; omega
    refine D1.call ((d_rampIndex hg.1).eqr (ramp_i c hi.symm)) ?_
    refine D1.call ((d_stop hg.1).to (r := zI (i : Int)) (g' := actG g (stopS (sG g))) ?_) ?_
    · unfold spStop
      rw [if_neg c, hi]
    have hg2 : Gd (actG g (stopS (sG g))) (m + 1) := gd_act hg (by omega) (ok_stopS hg.1.S c)
    have hsv2 : nSav (actG g (stopS (sG g))) 1 = some s0 := by rw [ag_v]; exact hsv
    refine D1.pos rfl ?_
    by_cases ci : i = 0
    · obtain ⟨u1, u2⟩ := stop_0 (s := sG g) (by omega)
      subst ci
      refine D1.pos (by decide) ?_
      refine D1.call ((d_rampIndex hg2.1).eqr (ramp_0 (by rw [ag_s]; exact u2))) ?_
      refine D1.pos rfl ?_
      refine D1.call ((d_queueLength hg2.1).eqr (r' := (0 : Int32)) (by rw [ag_s, u1]; rfl)) ?_
      refine D1.pos rfl ?_
      unfold fL_ahead_319 fL_ahead_324
      exact (w_326 y1 0 0 (m + 1) _ _ (by omega) hg2 hsv2 (Or.inl (by rw [ag_s]; exact u1)) rfl (by omega)).le (by omega)
    · obtain ⟨u1, u2, u3, u4, u5⟩ := stop_i (s := sG g) (by omega)
      refine D1.neg ?_ ?_
      · rw [l_0, z_eq (by omega) (by omega) (by omega) (by omega)]; omega
      refine D1.call ((d_itemAt hg2.1 (0 : Int32)).eqr (r' := zI (i : Int)) ?_) ?_
      · unfold spItem
        rw [ag_s, u1, u2, u4, u5, show ((0 : Int32)).toInt = 0 from rfl, if_pos (by omega)]
        show zI (if 0 < (sD (sG g) 0).2.2 then _ else _) = _
        rw [moving_d hg.1.S c, if_neg (by omega), if_pos ⟨rfl, c⟩, hi]
      refine D1.pos rfl ?_
      refine D1.call ((d_queueLength hg2.1).eqr (r' := (1 : Int32)) (by rw [ag_s, u1]; rfl)) ?_
      refine D1.pos rfl ?_
      unfold fL_ahead_319 fL_ahead_324
      exact (w_326 y1 i 0 (m + 1) _ _ (by omega) hg2 hsv2 (Or.inr (by rw [ag_s]; exact ⟨u1, by rw [u2]; exact c, by rw [u3, hi], by rw [u4, hi], by omega⟩)) rfl (by omega)).le (by omega)
theorem w_169 (y1 : Int32) {s0 : Sg} : ∀ (e j v m : Nat) (g : GS) (v11 : Int32), v + e = 9 → j + e ≤ 100 → v11 = zI (v : Int) → Gd g m → nSav g 1 = some s0 → m + e < 96000 → D1 (fun N I k => fL_ahead_169 N k y1 (N - j) I (nowZ s0) (zI (nS s0 : Int)) (1 : Int32) v11) g (m + e + 1100) := by
  intro e
  induction e with
  | zero =>
    intro j v m g v11 hv hj h11 hg hsv hm
    refine D1.of (fun N I k hN => (congrArg (fun c => fL_ahead_169 N k y1 c I (nowZ s0) (zI (nS s0 : Int)) (1 : Int32) v11) (sub1 hN (by omega))).trans (fL_ahead_169.eq_2 ..)) ?_
    refine D1.neg (by decide) ?_
    refine D1.pos ?_ (w_248 y1 hg hsv (by omega))
    rw [h11, l_9, z_le (by omega) (by omega) (by omega) (by omega)]; omega
  | succ e ih =>
    intro j v m g v11 hv hj h11 hg hsv hm
    have h8 := hg.1.S.b.2.2.2.2
    refine D1.of (fun N I k hN => (congrArg (fun c => fL_ahead_169 N k y1 c I (nowZ s0) (zI (nS s0 : Int)) (1 : Int32) v11) (sub1 hN (by omega))).trans (fL_ahead_169.eq_2 ..)) ?_
    refine D1.neg (by decide) ?_
    refine D1.neg ?_ ?_
    · rw [h11, l_9, z_le (by omega) (by omega) (by omega) (by omega)]; omega
    refine D1.call (d_queueLength hg.1) ?_
    refine D1.br (fun _ => (w_248 y1 hg hsv (by omega)).le (by omega)) (fun c => ?_)
    rw [l_0, z_le (by omega) (by omega) (by omega) (by omega)] at c
    have hn0 : nS (sG g) ≠ 0 := by omega
    have htk := tkS_bd hg.1.S (Nat.pos_of_ne_zero hn0)
    have hg2 := gd_stepA hg (by omega) hn0
    have hsv2 : nSav (actG g (stepS (sG g))) 1 = some s0 := by rw [ag_v]; exact hsv
    refine D1.call (d_clock hg.1) ?_
    refine D1.call (d_ticksLeft hg.1) ?_
    refine D1.call ((d_step hg.1).to (step_to hn0)) ?_
    refine D1.neg ?_ ?_
    · rw [l_0, z_le (by omega) (by omega) (by omega) (by omega)]; omega
    refine D1.call (d_clock hg2.1) ?_
    refine D1.pos ?_ ?_
    · rw [ag_s]; exact sT_step
    refine D1.call (d_ticksLeft hg2.1) ?_
    refine D1.pos ?_ ?_
    · unfold spLeft
      rw [ag_s]
      exact left_step hg.1.S (Nat.pos_of_ne_zero hn0)
    refine D1.lt ?_
    exact (ih (j + 1) (v + 1) (m + 1) _ _ (by omega) (by omega) (by rw [h11, l_1, z_add]; rfl) hg2 hsv2 (by omega)).le (by omega)
theorem w_143 (y1 : Int32) {s0 : Sg} {g : GS} {m : Nat} (hg : Gd g m) (hsv : nSav g 1 = some s0) (hc : 1 ≤ nHc g) (hh : hhG g 0 = s0) (hm : m < 95000) : D1 (fun N I k => fL_ahead_143 N k y1 I (nowZ s0) (zI (nS s0 : Int))) g (m + 1200) := by
  have h14 : nHc g ≤ 14 := hg.1.2.2.2.1
  have hu : spUndo g = (zI ((nHc g - 1 : Nat) : Int), undG g) := by
    unfold spUndo
    rw [if_neg (by omega)]
  have hg2 : Gd (undG g) (m + 1) := by
    have := gd_undo hg
    rw [hu] at this
    exact this
  unfold fL_ahead_143
  refine D1.call ((d_undo hg.1).to hu) ?_
  refine D1.neg ?_ ?_
  · rw [l_0, z_lt (by omega) (by omega) (by omega) (by omega)]; omega
  refine D1.call ((w_now hg2.1).eqr (r' := nowZ s0) (by rw [ug_s, hh])) ?_
  refine D1.pos (lg_self _) ?_
  unfold fL_ahead_164
  exact (w_169 y1 9 0 0 (m + 1) _ (0 : Int32) (by omega) (by omega) l_0 hg2 (by rw [ug_v]; exact hsv) (by omega)).le (by omega)
theorem w_over {g : GS} {m : Nat} (hg : Gd g m) (hm : m < 99000) (hn : nS (sG g) ≠ 0) {r : Int} (hr0 : -2147483648 ≤ r) (hr : r < (tkS (sG g) : Int)) : Do (fun N I k => fL_over N I k (zI r)) g (1 : Int32) (undG (actG g (stepS (sG g)))) := by
  have htk := tkS_bd hg.1.S (Nat.pos_of_ne_zero hn)
  have hg2 := gd_stepA hg (by omega) hn
  have h14 : nHc g ≤ 14 := hg.1.2.2.2.1
  unfold fL_over
  refine Do.bind ((d_step hg.1).to (step_to hn)) ?_
  refine Do.neg ?_ ?_
  · rw [z_le (by omega) (by omega) (by omega) (by omega)]; omega
  refine Do.bind ((d_undo hg2.1).to (r := zI ((nHc (actG g (stepS (sG g))) - 1 : Nat) : Int)) (g' := undG (actG g (stepS (sG g)))) ?_) ?_
  · unfold spUndo
    rw [if_neg (by rw [ag_c]; omega)]
  refine Do.neg ?_ (Do.ret _ _)
  rw [ag_c, l_0, z_lt (by omega) (by omega) (by omega) (by omega)]
  omega
theorem w_ahead {g : GS} {m : Nat} (hg : Gd g m) (hm : m < 90000) {y : Int} (hy : 0 ≤ y) (hy2 : y < 2147483648) : D1 (fun N I k => fL_ahead N I k (zI y)) g (m + 1300) := by
  obtain ⟨s, hs⟩ : ∃ s, s = sG g := ⟨_, rfl⟩
  have hO : OkS s := by rw [hs]; exact hg.1.S
  have h8 := hO.b.2.2.2.2
  have hsp : spSave g ((1 : Int32)).toInt = (zI (nS s : Int), savG g 1) := by
    unfold spSave
    rw [if_pos (show ((1 : Int32)).toInt = 0 ∨ ((1 : Int32)).toInt = 1 from Or.inr rfl), hs]
    rfl
  obtain ⟨g1, hg1e⟩ : ∃ g1, g1 = savG g 1 := ⟨_, rfl⟩
  have hg1 : Gd g1 (m + 1) := by
    have := gd_save (z := ((1 : Int32)).toInt) hg
    rw [hsp, ← hg1e] at this
    exact this
  have e1 : sG g1 = s := by
    rw [hg1e, hs]
    obtain ⟨tl, tx, s0, hc, he, hh, sv⟩ := g
    rfl
  have e2 : nSav g1 1 = some s := by
    rw [hg1e, hs]
    obtain ⟨tl, tx, s0, hc, he, hh, sv⟩ := g
    rfl
  rw [← hg1e] at hsp
  unfold fL_ahead
  refine D1.call ((w_now hg.1).eqr (r' := nowZ s) (by rw [hs])) ?_
  refine D1.call ((d_queueLength hg.1).eqr (r' := zI (nS s : Int)) (by rw [hs])) ?_
  refine D1.call ((d_save hg.1 (1 : Int32)).to hsp) ?_
  refine D1.pos rfl ?_
  obtain ⟨x, hx⟩ : ∃ x : Int, x = y % 4000 := ⟨_, rfl⟩
  have ex : zI y - zI y / (4000 : Int32) * (4000 : Int32) = zI x := by
    rw [show (4000 : Int32) = zI 4000 from rfl, z_remI hy hy2 (by decide) (by decide), hx]
  have hx0 : 0 ≤ x := by omega
  have hx1 : x < 4000 := by omega
  unfold fL_ahead_26
  refine D1.lt ?_
  rw [ex]
  obtain ⟨s2, hs2⟩ : ∃ s2, s2 = (runS 8000 x s).2 := ⟨_, rfl⟩
  have hO2 : OkS s2 := by rw [hs2]; exact runS_ok _ _ _ hO
  refine D1.call ((d_positionAfter hg1.1 (0 : Int32) (zI x)).eqr (r' := shownX s2 0) ?_) ?_
  · rw [zI_t (by omega) (by omega)]
    unfold spAfter
    rw [if_pos (show ((0 : Int32)).toInt = 0 ∨ ((0 : Int32)).toInt = 1 from Or.inl rfl), if_pos (by omega), e1, hs2]
    rfl
  refine D1.call ((d_positionAfter hg1.1 (1 : Int32) (zI x)).eqr (r' := shownX s2 1) ?_) ?_
  · rw [zI_t (by omega) (by omega)]
    unfold spAfter
    rw [if_pos (show ((1 : Int32)).toInt = 0 ∨ ((1 : Int32)).toInt = 1 from Or.inr rfl), if_pos (by omega), e1, hs2]
    rfl
  refine D1.br (fun _ => (w_384 hg1 e2 _).le (by omega)) (fun c1 => ?_)
  rw [l_0, z_le (by omega) (by omega) (by omega) (by omega)] at c1
  refine D1.br (fun _ => (w_384 hg1 e2 _).le (by omega)) (fun c2 => ?_)
  rw [l_0, z_le (by omega) (by omega) (by omega) (by omega)] at c2
  refine D1.neg (by decide) ?_
  have hmu := mu_le hO
  obtain ⟨c, k1, k2, k3⟩ := run_t 8000 x s hO hx0 (by omega)
  rw [← hs2] at k2 k3
  have hle := runS_le 8000 x s
  have hcl : sT s2 - sT s = zI (c : Int) := by
    rw [k2]
    generalize sT s = t
    generalize zI (c : Int) = q
    grind
  have hru : spRun g1 (zI x).toInt = (zI ((runS 8000 x s).1 : Int), actG g1 s2) := by
    rw [zI_t (by omega) (by omega)]
    unfold spRun
    rw [if_pos (by omega), e1, if_neg (by omega), hs2]
  obtain ⟨g2, hg2e⟩ : ∃ g2, g2 = actG g1 s2 := ⟨_, rfl⟩
  have hg2 : Gd g2 (m + 2) := by rw [hg2e]; exact gd_act hg1 (by omega) hO2
  have f1 : sG g2 = s2 := by rw [hg2e, ag_s]
  have f2 : nSav g2 1 = some s := by rw [hg2e, ag_v]; exact e2
  have f3 : 1 ≤ nHc g2 := by rw [hg2e, ag_c]; omega
  have f4 : hhG g2 0 = s := by rw [hg2e, ag_h0, e1]
  rw [← hg2e] at hru
  refine D1.call ((d_clock hg1.1).eqr (r' := sT s) (by rw [e1])) ?_
  refine D1.call ((d_run hg1.1 (zI x)).to hru) ?_
  refine D1.neg ?_ ?_
  · rw [l_0, z_lt (by omega) (by omega) (by omega) (by omega)]; omega
  refine D1.call ((d_position hg2.1 (0 : Int32)).eqr (r' := shownX s2 0) ?_) ?_
  · unfold spPos
    rw [if_pos (show ((0 : Int32)).toInt = 0 ∨ ((0 : Int32)).toInt = 1 from Or.inl rfl), f1]
    rfl
  refine D1.pos rfl ?_
  refine D1.call ((d_position hg2.1 (1 : Int32)).eqr (r' := shownX s2 1) ?_) ?_
  · unfold spPos
    rw [if_pos (show ((1 : Int32)).toInt = 0 ∨ ((1 : Int32)).toInt = 1 from Or.inr rfl), f1]
    rfl
  refine D1.pos rfl ?_
  refine D1.call ((d_clock hg2.1).eqr (r' := sT s2) (by rw [f1])) ?_
  refine D1.neg ?_ ?_
  · rw [hcl, z_lt (by omega) (by omega) (by omega) (by omega)]; omega
  refine D1.call ((d_queueLength hg2.1).eqr (r' := zI (nS s2 : Int)) (by rw [f1])) ?_
  have h82 := hO2.b.2.2.2.2
  refine D1.br (fun _ => (w_143 _ hg2 f2 f3 f4 (by omega)).le (by omega)) (fun c3 => ?_)
  rw [l_0, z_eq (by omega) (by omega) (by omega) (by omega)] at c3
  refine D1.call ((d_clock hg2.1).eqr (r' := sT s2) (by rw [f1])) ?_
  rw [hcl, z_sub]
  have hn2 : nS (sG g2) ≠ 0 := by rw [f1]; omega
  have hov := w_over hg2 (by omega) hn2 (r := x - (c : Int)) (by omega) (by
    rw [f1]
    rcases k3 with q | q
    · omega
    · exact q)
  refine D1.call hov ?_
  refine D1.neg (by decide) ?_
  have hg3 : Gd (undG (actG g2 (stepS (sG g2)))) (m + 4) := by
    have h1 := gd_undo (gd_stepA hg2 (by omega) hn2)
    unfold spUndo at h1
    rw [if_neg (by rw [ag_c]; omega)] at h1
    exact h1
  refine (w_143 _ hg3 ?_ ?_ ?_ (by omega)).le (by omega)
  · rw [ug_v, ag_v]; exact f2
  · rw [ug_c, ag_c]; omega
  · rw [ug_h, ag_h1]; exact f4
