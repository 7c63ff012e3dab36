/-! THE CLASS' PUBLIC METHODS: scripts -/
theorem runS_pos {f : Nat} {K : Int} {s : Sg} (hf : f ≠ 0) (hn : nS s ≠ 0) (hK : (tkS s : Int) ≤ K) : 1 ≤ (runS f K s).1 := by
  obtain ⟨f, rfl⟩ : ∃ f', f = f' + 1 := ⟨f - 1, by omega⟩
  rw [runS, if_neg (fun q => q.elim hn (fun e => by omega))]
  exact Nat.succ_le_succ (Nat.zero_le _)
theorem c_succ {N : Nat} {I : Mem} {k C c w : Nat} {g : GS} {s : Sg} (hN : 8100 ≤ N) (hC0 : C < 10000) (hcd : c = C / 1000) (hwd : w = C % 1000) (hC : CInv I k g) (hO : OkS s) (hS : StR I (k+7) s) :
    ∃ I1, f6_succeeds N I k (zI (C : Int)) = some (zI (if (cmdS s c w).1 = true then 1 else 0), I1) ∧ StR I1 (k+7) (cmdS s c w).2 ∧ OkS (cmdS s c w).2 ∧ CInv I1 k g ∧ ∀ x, (x < k ∨ k + 81 ≤ x) → I1 x = I x := by
  have hc : c < 10 := by omega
  have hw : w < 1000 := by omega
  have r5 := hS.n
  have hn8 := hO.b.2.2.2.2
  have hmb := m_bd hO
  have e1 : zI (C : Int) / zI 1000 = zI (c : Int) := by rw [hcd]; exact z_divN (b := 1000) (by omega) (by omega)
  have e2 := rem_lit (w := C) 1000 (by omega) (by omega) (by omega)
  have e2' : zI (C : Int) - zI (c : Int) * zI 1000 = zI (w : Int) := by rw [← e1, hwd]; exact e2
  have hnI : ∀ j : Nat, j < 10 → (zI (c : Int) = nI j) = (c = j) := fun j hj => by
    rw [nI_z, z_eq (by omega) (by omega) (by omega) (by omega)]
    exact propext ⟨fun q => by omega, fun q => by omega⟩
  have hci : ∀ j : Nat, ((c : Int) = (j : Int)) = (c = j) := fun j => propext ⟨fun q => by omega, fun q => by omega⟩
  have k1 := hci 1
  have k2 := hci 2
  have k3 := hci 3
  have k4 := hci 4
  have k5 := hci 5
  have k6 := hci 6
  have kw : ((w : Int) = 0) = (w = 0) := propext ⟨fun q => by omega, fun q => by omega⟩
  rw [show (((1 : Nat) : Int)) = 1 from rfl] at k1
  rw [show (((2 : Nat) : Int)) = 2 from rfl] at k2
  rw [show (((3 : Nat) : Int)) = 3 from rfl] at k3
  rw [show (((4 : Nat) : Int)) = 4 from rfl] at k4
  rw [show (((5 : Nat) : Int)) = 5 from rfl] at k5
  rw [show (((6 : Nat) : Int)) = 6 from rfl] at k6
  unfold f6_succeeds cmdS
  rw [l_1000, l_1000000000, l_0, l_1, e1, e2']
  simp only [letM_s, hnI 1 (by omega), hnI 2 (by omega), hnI 3 (by omega), hnI 4 (by omega), hnI 5 (by omega), hnI 6 (by omega), k1, k2, k3, k4, k5, k6, kw, Int.toNat_natCast]
  have hle : (zI (w : Int) ≤ zI 0) = (w = 0) := by
    rw [z_le (by omega) (by omega) (by omega) (by omega)]
    exact propext ⟨fun q => by omega, fun q => by omega⟩
  have hlt : (zI 0 < zI (w : Int)) = ¬ (w = 0) := by
    rw [z_lt (by omega) (by omega) (by omega) (by omega)]
    exact propext ⟨fun q => by omega, fun q => by omega⟩
  simp only [hle, hlt]
  by_cases c1 : c = 1
  · simp only [if_pos c1]
    by_cases cw : w = 0
    · simp only [if_pos cw]
      exact ⟨I, rfl, hS, hO, hC, fun _ _ => rfl⟩
    · simp only [if_neg cw]
      obtain ⟨I1, q1, q2, q3, q4⟩ := c_tadv (f := w) (K := 1000000000) hN hC hO hS (by omega) (by omega) (by omega)
      by_cases hn : nS s = 0
      · simp only [if_pos hn]
        rw [runS_0 (Or.inl hn)] at q1 q2
        refine ⟨I1, ?_, q2, hO, q3, q4⟩
        rw [q1]
        simp (disch := omega) only [clP_s, show (((0, s) : Nat × Sg).1 : Int) = 0 from rfl, z_le, if_pos]
        rfl
      · simp only [if_neg hn]
        have hb := tkS_bd hO (Nat.pos_of_ne_zero hn)
        have hp := runS_pos (f := w) (K := 1000000000) cw hn (by omega)
        have hl := runS_le w 1000000000 s
        refine ⟨I1, ?_, q2, runS_ok _ _ _ hO, q3, q4⟩
        rw [q1]
        simp (disch := omega) only [clP_s, z_le, if_neg]
        rfl
  · simp only [if_neg c1]
    by_cases c2 : c = 2
    · simp only [if_pos c2]
      by_cases cw : w = 0
      · simp only [if_pos cw]
        exact ⟨I, rfl, hS, hO, hC, fun _ _ => rfl⟩
      · simp only [if_neg cw]
        obtain ⟨v1, v2, v3⟩ := c_tv (w := w) hC hS
        exact ⟨_, rfl, v2, ok_setV hO (by omega) (by omega), v1, v3⟩
    · simp only [if_neg c2]
      by_cases c3 : c = 3
      · simp only [if_pos c3]
        by_cases cw : w = 0
        · have e3 := e5_isMoving N hS.m hmb.1
          subst cw
          simp only [not_true, ite_false, ne_eq, if_false]
          by_cases cm : sM s = 0
          · simp only [if_pos cm]
            rw [if_pos cm] at e3
            refine ⟨I, ?_, hS, hO, hC, fun _ _ => rfl⟩
            rw [e3]
            rfl
          · simp only [if_neg cm]
            rw [if_neg cm] at e3
            obtain ⟨I1, t1, t2, t3⟩ := e5_halt (N := N) (by omega) hO cm hS
            refine ⟨I1, ?_, t2, ok_stopS hO cm, hC.scr (fun x a _ _ => t3 x (by omega)) (hC.R.fr (t3 _ (by omega)) (t3 _ (by omega))), fun x hx => t3 x (by omega)⟩
            rw [e3]
            have e0 : ¬ (zI 1 = zI 0) := by decide
            simp only [clP_s, if_neg e0, t1]
            rfl
        · simp only [show ((w : Int) ≠ 0) = True from eq_true (by omega), show (¬ w = 0) = True from eq_true cw, if_true]
          exact ⟨I, rfl, hS, hO, hC, fun _ _ => rfl⟩
      · simp only [if_neg c3]
        by_cases c4 : c = 4
        · simp only [if_pos c4]
          refine ⟨I, ?_, hS, hO, hC, fun _ _ => rfl⟩
          rw [hS.x]
          by_cases cx : sX s = zI (w : Int)
          · rw [if_pos cx, if_pos (by rw [decide_eq_true_eq]; exact cx)]
          · rw [if_neg cx, if_neg (by rw [decide_eq_true_eq]; exact cx)]
        · simp only [if_neg c4]
          by_cases c5 : c = 5
          · simp only [if_pos c5]
            refine ⟨I, ?_, hS, hO, hC, fun _ _ => rfl⟩
            have e3 := e5_isMoving N hS.m hmb.1
            by_cases cm : sM s = 0
            · rw [if_pos cm] at e3
              rw [e3, if_neg (by rw [decide_eq_true_eq]; exact fun q => q.1 cm)]
              rfl
            · rw [if_neg cm] at e3
              have e0 : ¬ (zI 1 = zI 0) := by decide
              have hi := hS.i cm
              rw [e3]
              simp only [clP_s, if_neg e0, hi]
              by_cases ci : sI s = w
              · rw [if_pos (by rw [ci]), if_pos (by rw [decide_eq_true_eq]; exact ⟨cm, by omega⟩)]
              · rw [if_neg (by rw [z_eq (by omega) (by omega) (by omega) (by omega)]; omega), if_neg (by rw [decide_eq_true_eq]; exact fun q => ci (by omega))]
          · simp only [if_neg c5]
            by_cases c6 : c = 6
            · simp only [if_pos c6]
              refine ⟨I, ?_, hS, hO, hC, fun _ _ => rfl⟩
              rw [r5]
              by_cases ci : nS s = w
              · rw [if_pos (by rw [ci]), if_pos (by rw [decide_eq_true_eq]; omega)]
              · rw [if_neg (by rw [z_eq (by omega) (by omega) (by omega) (by omega)]; omega), if_neg (by rw [decide_eq_true_eq]; omega)]
            · simp only [if_neg c6]
              exact ⟨I, rfl, hS, hO, hC, fun _ _ => rfl⟩
theorem c_scr_67 {N : Nat} {k n Z : Nat} {g : GS} (hN : 8100 ≤ N) (hn : n ≤ 4) (hZ : Z < 10000 ^ n) : ∀ (e i cnt : Nat) (I : Mem) (s : Sg), i + e = n → e < cnt → CInv I k g → OkS s → StR I (k+7) s →
    ∃ I1, f6_runScript_67 N k (zI (n : Int)) (yI (Z : Int)) cnt I (yI ((10000 ^ (n - i) : Nat) : Int)) (zI (i : Int)) = some (zI (scrS (Z : Int) n e i s), I1) ∧ CInv I1 k g ∧ ∀ x, (x < k ∨ k + 81 ≤ x) → I1 x = I x := by
  have hpn := p4 n hn
  intro e
  induction e with
  | zero =>
    intro i cnt I s h1 h2 hC hO hS
    obtain ⟨cnt, rfl⟩ : ∃ x, cnt = x + 1 := ⟨cnt - 1, by omega⟩
    refine ⟨I, ?_, hC, fun _ _ => rfl⟩
    rw [f6_runScript_67]
    simp (disch := omega) only [z_le, if_pos, l_m9]
    rfl
  | succ e ih =>
    intro i cnt I s h1 h2 hC hO hS
    obtain ⟨cnt, rfl⟩ : ∃ x, cnt = x + 1 := ⟨cnt - 1, by omega⟩
    have hp := p4 (n - 1 - i) (by omega)
    have hp2 := p4 (n - i) (by omega)
    have hpp : 10000 ^ (n - i) = 10000 ^ (n - 1 - i) * 10000 := by
      rw [← Nat.pow_succ]
      congr 1
      omega
    have hni : n - (i + 1) = n - 1 - i := by omega
    rw [scr_step]
    have hq : Z / 10000 ^ (n - 1 - i) ≤ Z := Nat.div_le_self _ _
    rw [hpp] at hp2 ⊢
    have ihs := fun J s' => ih (i + 1) cnt J s' (by omega) (by omega)
    rw [hni] at ihs
    generalize 10000 ^ (n - 1 - i) = Q at *
    have ed : yI (Z : Int) / yI (Q : Int) = yI ((Z / Q : Nat) : Int) := y_divN (by omega) (by omega)
    have ew : yI ((Q * 10000 : Nat) : Int) / yI 10000 = yI (Q : Int) := by
      have := y_divN (a := Q * 10000) (b := 10000) (by omega) (by omega)
      rw [Nat.mul_div_cancel _ (by omega)] at this
      exact this
    generalize hF : Z / Q = F at *
    have er := y_rem (w := F) (d := 10000) (by omega) (by omega)
    have er' : yI (F : Int) - yI (F : Int) / yI 10000 * yI 10000 = yI ((F % 10000 : Nat) : Int) := er
    have em := eJ_maxL N I (a := (Q : Int)) (b := 1) (by omega) (by omega) (by omega) (by omega)
    rw [show max (Q : Int) 1 = (Q : Int) by omega] at em
    obtain ⟨I1, t1, t2, t3, t4, t5⟩ := c_succ (N := N) (I := I) (k := k) (C := F % 10000) (c := F % 10000 / 1000) (w := F % 10000 % 1000) hN (by omega) rfl rfl hC hO hS
    have hne : ¬ yI (Q : Int) = yI 0 := by rw [y_eq (by omega) (by omega) (by omega) (by omega)]; omega
    by_cases c : (cmdS s ((F % 10000 / 1000 : Nat) : Int) ((F % 10000 % 1000 : Nat) : Int)).1 = true
    · rw [if_pos c] at t1 ⊢
      obtain ⟨I2, u1, u2, u3⟩ := ihs I1 (cmdS s ((F % 10000 / 1000 : Nat) : Int) ((F % 10000 % 1000 : Nat) : Int)).2 t4 t3 t2
      refine ⟨I2, ?_, u2, fun x hx => by rw [u3 x hx, t5 x hx]⟩
      rw [← u1, f6_runScript_67]
      simp (disch := omega) only [l_0, l_1, m_0, m_1, m_10000, cmp_le, z_le, y_le, if_neg, letM_s, ew, em, clP_s, hne, ed, er', y_toI, t1, z_eq, z_add]
      rfl
    · rw [if_neg c] at t1 ⊢
      refine ⟨I1, ?_, t4, t5⟩
      rw [f6_runScript_67]
      simp (disch := omega) only [l_0, l_1, m_0, m_1, m_10000, cmp_le, z_le, y_le, if_neg, if_pos, letM_s, ew, em, clP_s, hne, ed, er', y_toI, t1, z_eq, z_add, if_true, if_false]
theorem c_scr_23 {N : Nat} {I : Mem} {k n : Nat} {z : Int} (hn : n ≤ 4) (h3 : -9223372036854775808 ≤ z) (h4 : z < 9223372036854775808) : ∀ (e i cnt : Nat), i + e = n → e < cnt → f6_runScript_23 N k (zI (n : Int)) (yI z) cnt I (yI ((10000 ^ i : Nat) : Int)) (zI (i : Int)) = if z < ((10000 ^ n : Nat) : Int) then clM (f5_become N I (k + 7) (k + 3)) (fun I_9 : Mem => f6_runScript_67 N k (zI (n : Int)) (yI z) N I_9 (yI ((10000 ^ n : Nat) : Int)) (zI 0)) else some (zI (-2), I) := by
  have hpn := p4 n hn
  intro e
  induction e with
  | zero =>
    intro i cnt h1 h2
    obtain ⟨cnt, rfl⟩ : ∃ x, cnt = x + 1 := ⟨cnt - 1, by omega⟩
    rw [f6_runScript_23, show i = n by omega]
    generalize 10000 ^ n = Q at *
    by_cases c : z < (Q : Int)
    · rw [if_pos c]
      simp (disch := omega) only [z_le, if_pos, l_0, cmp_lt, y_lt]
    · rw [if_neg c]
      simp (disch := omega) only [z_le, if_pos, if_neg, l_0, l_m2, cmp_lt, y_lt]
  | succ e ih =>
    intro i cnt h1 h2
    obtain ⟨cnt, rfl⟩ : ∃ x, cnt = x + 1 := ⟨cnt - 1, by omega⟩
    have hi := ih (i + 1) cnt (by omega) (by omega)
    have ep : yI ((10000 ^ i : Nat) : Int) * yI 10000 = yI ((10000 ^ (i + 1) : Nat) : Int) := by
      rw [y_mul, Nat.pow_succ, Int.natCast_mul]
      rfl
    rw [← hi, f6_runScript_23]
    simp (disch := omega) only [m_10000, l_1, ep, z_le, if_neg, letM_s, z_add]
    rfl
theorem c_script {N : Nat} {I : Mem} {k : Nat} {g : GS} {n z : Int} (hN : 8100 ≤ N) (hG : OkG g) (h : CInv I k g) (h1 : -2147483648 ≤ n) (h2 : n < 2147483648) (h3 : -9223372036854775808 ≤ z) (h4 : z < 9223372036854775808) : ∃ I1, f6_runScript N I k (zI n) (yI z) = some ((spScript g n z).1, I1) ∧ CInv I1 k g ∧ ∀ x, (x < k ∨ k + 81 ≤ x) → I1 x = I x := by
  have e := c_bit N I (w := 4) h1 h2 (by omega) (by omega)
  unfold f6_runScript spScript
  by_cases c : 1 ≤ n ∧ n ≤ 4
  · rw [if_pos c] at e
    obtain ⟨q, rfl⟩ := Int.eq_ofNat_of_zero_le (show 0 ≤ n by omega)
    have hp := p4 q (by omega)
    have ep : (10000 : Int) ^ ((q : Int).toNat) = ((10000 ^ q : Nat) : Int) := by rw [Int.toNat_natCast, Int.natCast_pow]; rfl
    rw [ep, Int.toNat_natCast]
    have e23 : f6_runScript_23 N k (zI (q : Int)) (yI z) N I (yI 1) (zI 0) = _ := c_scr_23 (N := N) (I := I) (k := k) (n := q) (by omega) h3 h4 q 0 N (by omega) (by omega)
    by_cases c1 : 0 ≤ z
    · by_cases c2 : z < ((10000 ^ q : Nat) : Int)
      · rw [if_pos c2] at e23
        rw [if_pos ⟨c.1, c.2, c1, c2⟩]
        obtain ⟨Z, rfl⟩ := Int.eq_ofNat_of_zero_le c1
        obtain ⟨I1, q1, q2, q3, q4⟩ := c_copy hN hG h
        obtain ⟨I2, t1, t2, t3⟩ := c_scr_67 (N := N) (k := k) (n := q) (Z := Z) hN (by omega) (by omega) q 0 N I1 (sG g) (by omega) (by omega) q3 hG.S q2
        refine ⟨I2, ?_, t2, fun x hx => by rw [t3 x hx, q4 x hx]⟩
        have t1' : f6_runScript_67 N k (zI (q : Int)) (yI (Z : Int)) N I1 (yI ((10000 ^ q : Nat) : Int)) (zI 0) = _ := t1
        rw [q1] at e23
        simp only [clM_s] at e23
        rw [t1'] at e23
        simp (disch := omega) only [e, clP_s, l_0, l_1, l_4, m_0, m_1, z_eq, if_neg, if_pos, cmp_ge, y_le, e23]
      · rw [if_neg c2] at e23
        rw [if_neg (fun w => c2 w.2.2.2)]
        refine ⟨I, ?_, h, fun _ _ => rfl⟩
        simp (disch := omega) only [e, clP_s, l_0, l_1, l_4, m_0, m_1, z_eq, if_neg, if_pos, cmp_ge, y_le, e23]
    · rw [if_neg (fun w => c1 w.2.2.1)]
      refine ⟨I, ?_, h, fun _ _ => rfl⟩
      simp (disch := omega) only [e, clP_s, l_0, l_1, l_4, l_m2, m_0, m_1, z_eq, if_neg, if_pos, cmp_ge, y_le]
  · rw [if_neg c] at e
    rw [if_neg (fun w => c ⟨w.1, w.2.1⟩)]
    refine ⟨I, ?_, h, fun _ _ => rfl⟩
    simp (disch := omega) only [e, letM_s, clP_s, clM_s, l_m89910, l_m999, l_m9, l_m4, l_m3, l_m2, l_m1, l_0, l_1, l_2, l_3, l_4, l_5, l_6, l_7, l_8, l_9, l_10, l_11, l_12, l_13, l_14, l_18, l_31, l_32, l_33, l_43, l_45, l_48, l_57, l_64, l_66, l_80, l_97, l_100, l_109, l_118, l_119, l_200, l_255, l_462, l_500, l_676, l_999, l_1000, l_1001, l_9999, l_10000, l_99999, l_100000, l_447214, l_1000000000, m_m999, m_m9, m_0, m_1, m_2, m_4, m_9, m_255, m_500, m_999, m_9999, m_10000, m_99999, m_200000000, m_4294967295, m_1442695040888963407, m_6364136223846793005, z_add, z_sub, z_mul, z_neg, y_add, y_sub, y_mul, y_neg, z_toL, y_toI, cmp_lt, cmp_gt, cmp_le, cmp_ge, z_lt, z_le, z_eq, y_lt, y_le, y_eq, if_pos, if_neg, ite_true, ite_false]
