/-! THE CLASS' PUBLIC METHODS: scripts -/
theorem runS_pos {f : Nat} {K : Int} {s : Sg} (hf : f ≠ 0) (hn : nS s ≠ 0) (hK : (tkS s : Int) ≤ K) : 1 ≤ (runS f K s).1 := by
  obtain ⟨f, rfl⟩ : ∃ f', f = f' + 1 := ⟨f - 1, by omega⟩
  rw [runS, if_neg (fun q => q.elim hn (fun e => by omega))]
  exact Nat.succ_le_succ (Nat.zero_le _)
theorem c_succ {N : Nat} {I : Mem} {k C c w : Nat} {g : GS} {s : Sg} (hN : 8100 ≤ N) (hC0 : C < 10000) (hcd : c = C / 1000) (hwd : w = C % 1000) (hC : CInv I k g) (hO : OkS s) (hS : StR I (k+7) s) :
    ∃ I1, f6_succeeds N I k (zI (C : Int)) = some (zI (if (cmdS s c w).1 = true then 1 else 0), I1) ∧ StR I1 (k+7) (cmdS s c w).2 ∧ OkS (cmdS s c w).2 ∧ CInv I1 k g ∧ ∀ x, k + 81 ≤ x → I1 x = I x := by
  have hc : c < 10 := by omega
  have hw : w < 1000 := by omega
  have r5 := hS.n
  have hn8 := hO.b.2.2.2.2
  have hmb := m_bd hO
  have e1 : zI (C : Int) / zI 1000 = zI (c : Int) := by rw [hcd]; exact z_divN (b := 1000) (by omega) (by omega)
  have e2 := rem_lit (w := C) 1000 (by omega) (by omega) (by omega)
  have e2' : zI (C : Int) - zI (c : Int) * zI 1000 = zI (w : Int) := by rw [← e1, hwd]; exact e2
  have hnI : ∀ j : Nat, j < 10 → (zI (c : Int) = nI j) = (c = j) := fun j hj => by
    rw [nI_z, z_eq (by omega) (by omega) (by omega) (by omega)]
    exact propext ⟨fun q => by omega, fun q => by omega⟩
  have hci : ∀ j : Nat, ((c : Int) = (j : Int)) = (c = j) := fun j => propext ⟨fun q => by omega, fun q => by omega⟩
  have k1 := hci 1
  have k2 := hci 2
  have k3 := hci 3
  have k4 := hci 4
  have k5 := hci 5
  have k6 := hci 6
  have kw : ((w : Int) = 0) = (w = 0) := propext ⟨fun q => by omega, fun q => by omega⟩
  rw [show (((1 : Nat) : Int)) = 1 from rfl] at k1
  rw [show (((2 : Nat) : Int)) = 2 from rfl] at k2
  rw [show (((3 : Nat) : Int)) = 3 from rfl] at k3
  rw [show (((4 : Nat) : Int)) = 4 from rfl] at k4
  rw [show (((5 : Nat) : Int)) = 5 from rfl] at k5
  rw [show (((6 : Nat) : Int)) = 6 from rfl] at k6
  unfold f6_succeeds cmdS
  rw [l_1000, l_1000000000, l_0, l_1, e1, e2']
  simp only [letM_s, hnI 1 (by omega), hnI 2 (by omega), hnI 3 (by omega), hnI 4 (by omega), hnI 5 (by omega), hnI 6 (by omega), k1, k2, k3, k4, k5, k6, kw, Int.toNat_natCast]
  have hle : (zI (w : Int) ≤ zI 0) = (w = 0) := by
    rw [z_le (by omega) (by omega) (by omega) (by omega)]
    exact propext ⟨fun q => by omega, fun q => by omega⟩
  have hlt : (zI 0 < zI (w : Int)) = ¬ (w = 0) := by
    rw [z_lt (by omega) (by omega) (by omega) (by omega)]
    exact propext ⟨fun q => by omega, fun q => by omega⟩
  simp only [hle, hlt]
  by_cases c1 : c = 1
  · simp only [if_pos c1]
    by_cases cw : w = 0
    · simp only [if_pos cw]
      exact ⟨I, rfl, hS, hO, hC, fun _ _ => rfl⟩
    · simp only [if_neg cw]
      obtain ⟨I1, q1, q2, q3, q4⟩ := c_tadv (f := w) (K := 1000000000) hN hC hO hS (by omega) (by omega) (by omega)
      by_cases hn : nS s = 0
      · simp only [if_pos hn]
        rw [runS_0 (Or.inl hn)] at q1 q2
        refine ⟨I1, ?_, q2, hO, q3, q4⟩
        rw [q1]
        simp (disch := omega) only [clP_s, show (((0, s) : Nat × Sg).1 : Int) = 0 from rfl, z_le, if_pos]
        rfl
      · simp only [if_neg hn]
        have hb := tkS_bd hO (Nat.pos_of_ne_zero hn)
        have hp := runS_pos (f := w) (K := 1000000000) cw hn (by omega)
        have hl := runS_le w 1000000000 s
        refine ⟨I1, ?_, q2, runS_ok _ _ _ hO, q3, q4⟩
        rw [q1]
        simp (disch := omega) only [clP_s, z_le, if_neg]
        rfl
  · simp only [if_neg c1]
    by_cases c2 : c = 2
    · simp only [if_pos c2]
      by_cases cw : w = 0
      · simp only [if_pos cw]
        exact ⟨I, rfl, hS, hO, hC, fun _ _ => rfl⟩
      · simp only [if_neg cw]
        obtain ⟨v1, v2, v3⟩ := c_tv (w := w) hC hS
        exact ⟨_, rfl, v2, ok_setV hO (by omega) (by omega), v1, v3⟩
    · simp only [if_neg c2]
      by_cases c3 : c = 3
      · simp only [if_pos c3]
        by_cases cw : w = 0
        · have e3 := e5_isMoving N hS.m hmb.1
          subst cw
          simp only [not_true, ite_false, ne_eq, if_false]
          by_cases cm : sM s = 0
          · simp only [if_pos cm]
            rw [if_pos cm] at e3
            refine ⟨I, ?_, hS, hO, hC, fun _ _ => rfl⟩
            rw [e3]
            rfl
          · simp only [if_neg cm]
            rw [if_neg cm] at e3
            obtain ⟨I1, t1, t2, t3⟩ := e5_halt (N := N) (by omega) hO cm hS
            refine ⟨I1, ?_, t2, ok_stopS hO cm, hC.scr (fun x a _ _ => t3 x (by omega)) (hC.R.fr (t3 _ (by omega)) (t3 _ (by omega))), fun x hx => t3 x (by omega)⟩
            rw [e3]
            have e0 : ¬ (zI 1 = zI 0) := by decide
            simp only [clP_s, if_neg e0, t1]
            rfl
        · simp only [show ((w : Int) ≠ 0) = True from eq_true (by omega), show (¬ w = 0) = True from eq_true cw, if_true]
          exact ⟨I, rfl, hS, hO, hC, fun _ _ => rfl⟩
      · simp only [if_neg c3]
        by_cases c4 : c = 4
        · simp only [if_pos c4]
          refine ⟨I, ?_, hS, hO, hC, fun _ _ => rfl⟩
          rw [hS.x]
          by_cases cx : sX s = zI (w : Int)
          · rw [if_pos cx, if_pos (by rw [decide_eq_true_eq]; exact cx)]
          · rw [if_neg cx, if_neg (by rw [decide_eq_true_eq]; exact cx)]
        · simp only [if_neg c4]
          by_cases c5 : c = 5
          · simp only [if_pos c5]
            refine ⟨I, ?_, hS, hO, hC, fun _ _ => rfl⟩
            have e3 := e5_isMoving N hS.m hmb.1
            by_cases cm : sM s = 0
            · rw [if_pos cm] at e3
              rw [e3, if_neg (by rw [decide_eq_true_eq]; exact fun q => q.1 cm)]
              rfl
            · rw [if_neg cm] at e3
              have e0 : ¬ (zI 1 = zI 0) := by decide
              have hi := hS.i cm
              rw [e3]
              simp only [clP_s, if_neg e0, hi]
              by_cases ci : sI s = w
              · rw [if_pos (by rw [ci]), if_pos (by rw [decide_eq_true_eq]; exact ⟨cm, by omega⟩)]
              · rw [if_neg (by rw [z_eq (by omega) (by omega) (by omega) (by omega)]; omega), if_neg (by rw [decide_eq_true_eq]; exact fun q => ci (by omega))]
          · simp only [if_neg c5]
            by_cases c6 : c = 6
            · simp only [if_pos c6]
              refine ⟨I, ?_, hS, hO, hC, fun _ _ => rfl⟩
              rw [r5]
              by_cases ci : nS s = w
              · rw [if_pos (by rw [ci]), if_pos (by rw [decide_eq_true_eq]; omega)]
              · rw [if_neg (by rw [z_eq (by omega) (by omega) (by omega) (by omega)]; omega), if_neg (by rw [decide_eq_true_eq]; omega)]
            · simp only [if_neg c6]
              exact ⟨I, rfl, hS, hO, hC, fun _ _ => rfl⟩
