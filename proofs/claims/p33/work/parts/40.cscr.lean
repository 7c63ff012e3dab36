/-! THE CLASS' PUBLIC METHODS: random speeds, scripts -/
theorem c_tv {I : Mem} {k w : Nat} {g : GS} {s : Sg} (h : CInv I k g) (hS : StR I (k+7) s) : CInv (st I (k+7) 1 (zI (w : Int))) k g ∧ StR (st I (k+7) 1 (zI (w : Int))) (k+7) (setV s w) ∧ ∀ x, (x < k ∨ k + 81 ≤ x) → st I (k+7) 1 (zI (w : Int)) x = I x :=
  ⟨h.scr (fun x a _ _ => st_k (by omega)) (h.R.fr (st_k (by omega)) (st_k (by omega))), hS.setV, fun x hx => st_k (by omega)⟩
theorem c_tstep {N : Nat} {I : Mem} {k : Nat} {g : GS} {s : Sg} (hN : 8100 ≤ N) (h : CInv I k g) (hO : OkS s) (hn : nS s ≠ 0) (hS : StR I (k+7) s) : ∃ I1, f5_advance N I (k+7) (k+79) (zI 1) (zI 1000000000) = some (zI 1, I1) ∧ StR I1 (k+7) (stepS s) ∧ CInv I1 k g ∧ ∀ x, (x < k ∨ k + 81 ≤ x) → I1 x = I x := by
  obtain ⟨I1, q1, q2, q3, q4⟩ := c_tadv (f := 1) (K := 1000000000) hN h hO hS (by omega) (by omega) (by omega)
  rw [run1 hO hn] at q1 q2
  exact ⟨I1, q1, q2, q3, q4⟩
theorem c_rnd_30 {N : Nat} {k mm : Nat} {g : GS} (j1 : Int64) (hN : 8100 ≤ N) (hm : mm ≤ 500) : ∀ (e i cnt : Nat) (x : Int64) (I : Mem) (s : Sg), i + e = mm → e < cnt → CInv I k g → OkS s → StR I (k+7) s →
    ∃ I1, f6_randomSpeeds_30 N k j1 (zI (mm : Int)) cnt I x (zI (i : Int)) = some (sT (rndS e x s) - sT (sG g), I1) ∧ CInv I1 k g ∧ ∀ x, (x < k ∨ k + 81 ≤ x) → I1 x = I x := by
  intro e
  induction e with
  | zero =>
    intro i cnt x I s h1 h2 hC hO hS
    obtain ⟨cnt, rfl⟩ : ∃ x, cnt = x + 1 := ⟨cnt - 1, by omega⟩
    refine ⟨I, ?_, hC, fun _ _ => rfl⟩
    show _ = some (sT s - sT (sG g), I)
    rw [f6_randomSpeeds_30, hS.t, hC.now.t]
    simp (disch := omega) only [z_le, if_pos]
  | succ e ih =>
    intro i cnt x I s h1 h2 hC hO hS
    obtain ⟨cnt, rfl⟩ : ∃ x, cnt = x + 1 := ⟨cnt - 1, by omega⟩
    have hn8 := hO.b.2.2.2.2
    have r5 := hS.n
    by_cases hn : nS s = 0
    · refine ⟨I, ?_, hC, fun _ _ => rfl⟩
      rw [hn] at r5
      have r5' : I (k+7) 5 = zI 0 := r5
      rw [show rndS (e+1) x s = s from by unfold rndS; rw [if_pos hn], f6_randomSpeeds_30, hS.t, hC.now.t, r5', l_0]
      simp (disch := omega) only [z_le, if_pos, if_neg]
    · have hx : x * (6364136223846793005 : Int64) + (1442695040888963407 : Int64) = rndX x := rfl
      obtain ⟨w, w1, w2, w3⟩ := rnd_v (rndX x)
      have e4 := rem_lit (w := w) 4 w1 (by omega) (by omega)
      have e4' : zI (w : Int) - zI (w : Int) / zI 4 * zI 4 = zI ((w % 4 : Nat) : Int) := e4
      have ed : zI (w : Int) / zI 4 = zI ((w / 4 : Nat) : Int) := z_divN (b := 4) w1 (by omega)
      have e44 : zI (w : Int) - zI ((w / 4 : Nat) : Int) * zI 4 = zI ((w % 4 : Nat) : Int) := by rw [← ed]; exact e4'
      have e9 := rem_lit (w := w / 4) 999 (by omega) (by omega) (by omega)
      have e9' : zI ((w / 4 : Nat) : Int) - zI ((w / 4 : Nat) : Int) / zI 999 * zI 999 = zI ((w / 4 % 999 : Nat) : Int) := e9
      unfold rndS
      rw [if_neg hn, w2]
      by_cases c : w % 4 = 0
      · have hO2 : OkS (setV s (w / 4 % 999 + 1)) := ok_setV hO (by omega) (by omega)
        obtain ⟨v1, v2, v3⟩ := c_tv (w := w / 4 % 999 + 1) hC hS
        obtain ⟨I1, s1, s2, s3, s4⟩ := c_tstep (N := N) hN v1 hO2 (by rw [nS_setV]; exact hn) v2
        obtain ⟨I2, t1, t2, t3⟩ := ih (i + 1) cnt (rndX x) I1 (stepS (setV s (w / 4 % 999 + 1))) (by omega) (by omega) s3 (OkS_step hO2 (show 0 < nS (setV s (w / 4 % 999 + 1)) by rw [nS_setV]; exact Nat.pos_of_ne_zero hn)) s2
        refine ⟨I2, ?_, t2, fun x hx => by rw [t3 x hx, s4 x hx, v3 x hx]⟩
        rw [if_pos (show (w : Int) % 4 = 0 by omega), show ((w : Int) / 4 % 999 + 1).toNat = w / 4 % 999 + 1 by omega, f6_randomSpeeds_30, r5]
        have e5 : zI ((w / 4 % 999 : Nat) : Int) + zI 1 = zI ((w / 4 % 999 + 1 : Nat) : Int) := by rw [z_add]; rfl
        simp (disch := omega) only [hx, w3, l_0, l_1, l_4, l_999, l_1000000000, e44, ed, e9', e5, s1, letM_s, clP_s, z_le, z_eq, if_pos, if_neg, z_add]
        rw [show ((i : Int) + 1) = ((i + 1 : Nat) : Int) from rfl, t1]
      · obtain ⟨I1, s1, s2, s3, s4⟩ := c_tstep (N := N) hN hC hO hn hS
        obtain ⟨I2, t1, t2, t3⟩ := ih (i + 1) cnt (rndX x) I1 (stepS s) (by omega) (by omega) s3 (OkS_step hO (Nat.pos_of_ne_zero hn)) s2
        refine ⟨I2, ?_, t2, fun x hx => by rw [t3 x hx, s4 x hx]⟩
        rw [if_neg (show ¬ (w : Int) % 4 = 0 by omega), f6_randomSpeeds_30, r5]
        simp (disch := omega) only [hx, w3, l_0, l_1, l_4, l_999, l_1000000000, e44, ed, s1, letM_s, clP_s, z_le, z_eq, if_pos, if_neg, z_add]
        rw [show ((i : Int) + 1) = ((i + 1 : Nat) : Int) from rfl, t1]
theorem c_rnd {N : Nat} {I : Mem} {k : Nat} {g : GS} {z : Int} (x : Int64) (hN : 8100 ≤ N) (hG : OkG g) (h : CInv I k g) (h1 : -2147483648 ≤ z) (h2 : z < 2147483648) : ∃ I1, f6_randomSpeeds N I k x (zI z) = some ((spRnd g x z).1, I1) ∧ CInv I1 k g ∧ ∀ x, (x < k ∨ k + 81 ≤ x) → I1 x = I x := by
  have e1 := c_bit N I (w := 500) h1 h2 (by omega) (by omega)
  show ∃ I1, _ = some (if 1 ≤ z ∧ z ≤ 500 then sT (rndS z.toNat x (sG g)) - sT (sG g) else zI (-2), I1) ∧ _
  unfold f6_randomSpeeds
  by_cases c : 1 ≤ z ∧ z ≤ 500
  · rw [if_pos c] at e1 ⊢
    obtain ⟨n, rfl⟩ := Int.eq_ofNat_of_zero_le (show 0 ≤ z by omega)
    rw [Int.toNat_natCast]
    obtain ⟨I2, p1, p2, p3, p4⟩ := c_copy hN hG h
    obtain ⟨I1, q1, q2, q3⟩ := c_rnd_30 (N := N) (k := k) (mm := n) x hN (by omega) n 0 N x I2 (sG g) (by omega) (by omega) p3 hG.S p2
    have q1' : f6_randomSpeeds_30 N k x (zI (n : Int)) N I2 x (zI 0) = _ := q1
    refine ⟨I1, ?_, q2, fun x hx => by rw [q3 x hx, p4 x hx]⟩
    simp (disch := omega) only [e1, p1, q1', clP_s, clM_s, l_0, l_500, z_eq, if_neg]
  · rw [if_neg c] at e1 ⊢
    refine ⟨I, ?_, h, fun _ _ => rfl⟩
    simp (disch := omega) only [e1, letM_s, clP_s, clM_s, l_m89910, l_m999, l_m9, l_m4, l_m3, l_m2, l_m1, l_0, l_1, l_2, l_3, l_4, l_5, l_6, l_7, l_8, l_9, l_10, l_11, l_12, l_13, l_14, l_18, l_31, l_32, l_33, l_43, l_45, l_48, l_57, l_64, l_66, l_80, l_97, l_100, l_109, l_118, l_119, l_200, l_255, l_462, l_500, l_676, l_999, l_1000, l_1001, l_9999, l_10000, l_99999, l_100000, l_447214, l_1000000000, m_m999, m_m9, m_0, m_1, m_2, m_4, m_9, m_255, m_500, m_999, m_9999, m_10000, m_99999, m_200000000, m_4294967295, m_1442695040888963407, m_6364136223846793005, z_add, z_sub, z_mul, z_neg, y_add, y_sub, y_mul, y_neg, z_toL, y_toI, cmp_lt, cmp_gt, cmp_le, cmp_ge, z_lt, z_le, z_eq, y_lt, y_le, y_eq, if_pos, if_neg, ite_true, ite_false]
