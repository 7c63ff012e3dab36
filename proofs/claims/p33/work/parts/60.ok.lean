/-! every call leaves a good state; both objects step together -/
theorem rd_q {g : GS} {N : Nat} {I : Mem} {k : Nat} (hN : 8100 ≤ N) (hG : OkG g) (h : CInv I k g) : ∀ q, rdT g.1 g.2.1 = (none, q) → q ≤ 80 := by
  obtain ⟨I1, r, q1, q2, q3, q4⟩ := c_read hN hG h
  intro q e
  rw [e] at q2
  exact q2.1
def Gd (g : GS) (n : Nat) : Prop := OkG g ∧ heG g ≤ n
theorem Gd.up {g : GS} {n : Nat} (h : Gd g n) : Gd g (n + 1) := ⟨h.1, Nat.le_succ_of_le h.2⟩
theorem gd_act {g : GS} {s : Sg} {n : Nat} (h : Gd g n) (hn : n < 100000) (hs : OkS s) : Gd (actG g s) (n + 1) :=
  ⟨ok_act h.1 (Nat.lt_of_le_of_lt h.2 hn) hs, by rw [he_act]; exact Nat.succ_le_succ h.2⟩
theorem gd_app {g : GS} {n : Nat} {z : Int} (h : Gd g n) : Gd (spApp g z).2 (n + 1) := by
  unfold spApp
  by_cases c : 0 ≤ z ∧ z ≤ 255
  · rw [if_pos c]
    by_cases c2 : g.1 = 80
    · rw [if_pos c2]; exact h.up
    · rw [if_neg c2]
      obtain ⟨tl, tx, s, hc, he, hh, sv⟩ := g
      have c2 : ¬ tl = 80 := c2
      obtain ⟨⟨g1, g2, g3, g4, g5, g6, g7, g8⟩, h2⟩ := h
      refine ⟨⟨by omega, fun j hj => ?_, g3, g4, g5, g6, g7, g8⟩, Nat.le_succ_of_le h2⟩
      have hj : j < tl + 1 := hj
      show 0 ≤ (if j = tl then z else tx j) ∧ (if j = tl then z else tx j) ≤ 255
      by_cases e : j = tl
      · rw [if_pos e]; exact c
      · rw [if_neg e]; exact g2 j (by omega)
  · rw [if_neg c]; exact h.up
theorem gd_clr {g : GS} {n : Nat} (h : Gd g n) : Gd (spClr g).2 (n + 1) := by
  obtain ⟨tl, tx, s, hc, he, hh, sv⟩ := g
  obtain ⟨⟨g1, g2, g3⟩, h2⟩ := h
  exact ⟨⟨Nat.zero_le _, fun j hj => absurd hj (Nat.not_lt_zero j), g3⟩, Nat.le_succ_of_le h2⟩
theorem gd_load {g : GS} {n : Nat} (hr : ∀ s q, rdT g.1 g.2.1 = (some s, q) → OkS s) (h : Gd g n) : Gd (spLoad g).2 (n + 1) := by
  unfold spLoad
  generalize rdT g.1 g.2.1 = w at *
  obtain ⟨o, q⟩ := w
  cases o with
  | none => exact h.up
  | some s =>
    have hs := hr s q rfl
    obtain ⟨tl, tx, s0, hc, he, hh, sv⟩ := g
    obtain ⟨⟨g1, g2, g3, g4, g5, g6, g7, g8⟩, h2⟩ := h
    exact ⟨⟨g1, g2, hs, Nat.zero_le _, Nat.zero_le _, g6, fun i hi => absurd hi (Nat.not_lt_zero i), fun b z e => by cases e⟩, Nat.le_succ_of_le h2⟩
theorem gd_setA {g : GS} {n : Nat} {z : Int} (h : Gd g n) (hn : n < 100000) : Gd (spSetA g z).2 (n + 1) := by
  unfold spSetA
  by_cases c : 1 ≤ z ∧ z ≤ 999
  · rw [if_pos c]
    by_cases c2 : sM (sG g) ≠ 0
    · rw [if_pos c2]; exact h.up
    · rw [if_neg c2]; exact gd_act h hn (ok_setA h.1.S (by omega) (by omega))
  · rw [if_neg c]; exact h.up
theorem gd_setV {g : GS} {n : Nat} {z : Int} (h : Gd g n) (hn : n < 100000) : Gd (spSetV g z).2 (n + 1) := by
  unfold spSetV
  by_cases c : 1 ≤ z ∧ z ≤ 999
  · rw [if_pos c]; exact gd_act h hn (ok_setV h.1.S (by omega) (by omega))
  · rw [if_neg c]; exact h.up
theorem gd_add {g : GS} {n : Nat} {q : Itm} (h : Gd g n) (hn : n < 100000) (hq : ItOk q) : Gd (spAdd g q).2 (n + 1) := by
  unfold spAdd
  have := h.1.S.b.2.2.2.2
  by_cases c : nS (sG g) = 8
  · rw [if_pos c]; exact h.up
  · rw [if_neg c]; exact gd_act h hn (ok_addI h.1.S (by omega) hq)
theorem gd_move {g : GS} {n : Nat} {z w : Int} (h : Gd g n) (hn : n < 100000) : Gd (spMove g z w).2 (n + 1) := by
  unfold spMove
  by_cases c : -999 ≤ z ∧ z ≤ 999 ∧ -999 ≤ w ∧ w ≤ 999 ∧ ¬ (z = 0 ∧ w = 0)
  · rw [if_pos c]
    refine gd_add h hn (show -999 ≤ z ∧ z ≤ 999 ∧ -999 ≤ w ∧ w ≤ 999 ∧ (0 : Int) ≤ 0 ∧ (0 : Int) ≤ 9999 ∧ ((0 : Int) = 0 → z ≠ 0 ∨ w ≠ 0) from ⟨c.1, c.2.1, c.2.2.1, c.2.2.2.1, by decide, by decide, fun _ => ?_⟩)
    have := c.2.2.2.2
    omega
  · rw [if_neg c]; exact h.up
theorem gd_wait {g : GS} {n : Nat} {z : Int} (h : Gd g n) (hn : n < 100000) : Gd (spWait g z).2 (n + 1) := by
  unfold spWait
  by_cases c : 1 ≤ z ∧ z ≤ 9999
  · rw [if_pos c]
    exact gd_add h hn (show (-999 : Int) ≤ 0 ∧ (0 : Int) ≤ 999 ∧ (-999 : Int) ≤ 0 ∧ (0 : Int) ≤ 999 ∧ 0 ≤ z ∧ z ≤ 9999 ∧ (z = 0 → (0 : Int) ≠ 0 ∨ (0 : Int) ≠ 0) from ⟨by decide, by decide, by decide, by decide, by omega, by omega, fun e => by omega⟩)
  · rw [if_neg c]; exact h.up
theorem gd_step {g : GS} {n : Nat} (h : Gd g n) (hn : n < 100000) : Gd (spStep g).2 (n + 1) := by
  unfold spStep
  by_cases c : nS (sG g) = 0
  · rw [if_pos c]; exact h.up
  · rw [if_neg c]; exact gd_act h hn (OkS_step h.1.S (Nat.pos_of_ne_zero c))
theorem gd_run {g : GS} {n : Nat} {z : Int} (h : Gd g n) (hn : n < 100000) : Gd (spRun g z).2 (n + 1) := by
  unfold spRun
  by_cases c : 1 ≤ z ∧ z ≤ 99999
  · rw [if_pos c]
    by_cases c2 : nS (sG g) = 0
    · rw [if_pos c2]; exact h.up
    · rw [if_neg c2]; exact gd_act h hn (runS_ok _ _ _ h.1.S)
  · rw [if_neg c]; exact h.up
theorem gd_stop {g : GS} {n : Nat} (h : Gd g n) (hn : n < 100000) : Gd (spStop g).2 (n + 1) := by
  unfold spStop
  by_cases c : sM (sG g) = 0
  · rw [if_pos c]; exact h.up
  · rw [if_neg c]; exact gd_act h hn (ok_stopS h.1.S c)
theorem gd_rem {g : GS} {n : Nat} {z : Int} (h : Gd g n) (hn : n < 100000) : Gd (spRem g z).2 (n + 1) := by
  unfold spRem
  by_cases c : 0 ≤ z ∧ z < nS (sG g)
  · rw [if_pos c]
    by_cases c2 : z = 0 ∧ sM (sG g) ≠ 0
    · rw [if_pos c2]; exact h.up
    · rw [if_neg c2]; exact gd_act h hn (ok_remI h.1.S (by omega) (fun e => Decidable.byContradiction (fun q => c2 ⟨by omega, q⟩)))
  · rw [if_neg c]; exact h.up
theorem gd_undo {g : GS} {n : Nat} (h : Gd g n) : Gd (spUndo g).2 (n + 1) := by
  unfold spUndo
  by_cases c : nHc g = 0
  · rw [if_pos c]; exact h.up
  · rw [if_neg c]
    obtain ⟨tl, tx, s0, hc, he, hh, sv⟩ := g
    have c : ¬ hc = 0 := c
    obtain ⟨⟨g1, g2, g3, g4, g5, g6, g7, g8⟩, h2⟩ := h
    have h2 : he ≤ n := h2
    exact ⟨⟨g1, g2, g7 0 (by omega), by omega, by omega, by omega, fun i hi => g7 (i + 1) (by omega), g8⟩, show he - 1 ≤ n + 1 by omega⟩
theorem gd_save {g : GS} {n : Nat} {z : Int} (h : Gd g n) : Gd (spSave g z).2 (n + 1) := by
  unfold spSave
  by_cases c : z = 0 ∨ z = 1
  · rw [if_pos c]
    obtain ⟨tl, tx, s0, hc, he, hh, sv⟩ := g
    obtain ⟨⟨g1, g2, g3, g4, g5, g6, g7, g8⟩, h2⟩ := h
    refine ⟨⟨g1, g2, g3, g4, g5, g6, g7, fun b y e => ?_⟩, Nat.le_succ_of_le h2⟩
    have e : (if b = z.toNat then some s0 else sv b) = some y := e
    by_cases cb : b = z.toNat
    · rw [if_pos cb] at e
      have e := Option.some.inj e
      rw [← e]
      exact g3
    · rw [if_neg cb] at e
      exact g8 b y e
  · rw [if_neg c]; exact h.up
theorem gd_rest {g : GS} {n : Nat} {z : Int} (h : Gd g n) : Gd (spRest g z).2 (n + 1) := by
  unfold spRest
  by_cases c : z = 0 ∨ z = 1
  · rw [if_pos c]
    obtain ⟨tl, tx, s0, hc, he, hh, sv⟩ := g
    obtain ⟨⟨g1, g2, g3, g4, g5, g6, g7, g8⟩, h2⟩ := h
    unfold nSav
    have h8 := g8 z.toNat
    dsimp only
    generalize sv z.toNat = o at *
    cases o with
    | none => exact ⟨⟨g1, g2, g3, g4, g5, g6, g7, g8⟩, Nat.le_succ_of_le h2⟩
    | some y => exact ⟨⟨g1, g2, h8 y rfl, Nat.zero_le _, Nat.zero_le _, g6, fun i hi => absurd hi (Nat.not_lt_zero i), g8⟩, Nat.le_succ_of_le h2⟩
  · rw [if_neg c]; exact h.up
theorem CInv.fr {I I1 : Mem} {k : Nat} {g : GS} (h : CInv I k g) (hx : ∀ x, k ≤ x → x < k + 81 → I1 x = I x) : CInv I1 k g := by
  obtain ⟨tl, tx, s, hc, he, hh, sv⟩ := g
  obtain ⟨m1, m2, m3, m4, m5, m6, m7, m8⟩ := h
  refine ⟨by rw [hx _ (by omega) (by omega)]; exact m1, fun j hj => by rw [hx _ (by omega) (by omega)]; exact m2 j hj, m3.fr (fun x a b => hx x (by omega) (by omega)), by rw [hx _ (by omega) (by omega)]; exact m4, by rw [hx _ (by omega) (by omega)]; exact m5, fun i hi => (m6 i hi).fr (fun x a b => hx x (by omega) (by omega)), fun b hb => ?_, m8.fr (hx _ (by omega) (by omega)) (hx _ (by omega) (by omega))⟩
  rw [hx (k+69+5*b) (by omega) (by omega)]
  exact ⟨(m7 b hb).1, fun z hz => ⟨((m7 b hb).2 z hz).1, ((m7 b hb).2 z hz).2.fr (fun x p q => hx x (by omega) (by omega))⟩⟩
/-- a call that changes nothing -/
theorem nowC {I : Mem} {k : Nat} {g : GS} {r : Int32} {a : Option (Int32 × Mem)} (h : CInv I k g) (e : a = some (r, I)) : ∃ I1, a = some (r, I1) ∧ CInv I1 k g ∧ ∀ x, (x < k ∨ k + 81 ≤ x) → I1 x = I x := ⟨I, e, h, fun _ _ => rfl⟩
