/-! the reference's scripts whole; its text's short calls -/
theorem p4 : ∀ n : Nat, n ≤ 4 → 1 ≤ 10000 ^ n ∧ 10000 ^ n ≤ 10000000000000000 := by decide
theorem e7_ten_4 (N : Nat) (I : Mem) {n : Nat} (hn : n ≤ 4) : ∀ (e i cnt : Nat), i + e = n → e < cnt → f7_tenThousands_4 N (zI (n : Int)) cnt I (yI ((10000 ^ i : Nat) : Int)) (zI (i : Int)) = some (yI ((10000 ^ n : Nat) : Int), I) := by
  intro e
  induction e with
  | zero =>
    intro i cnt h1 h2
    obtain ⟨cnt, rfl⟩ : ∃ x, cnt = x + 1 := ⟨cnt - 1, by omega⟩
    rw [f7_tenThousands_4, show i = n by omega]
    simp (disch := omega) only [l_0, z_le, if_pos]
  | succ e ih =>
    intro i cnt h1 h2
    obtain ⟨cnt, rfl⟩ : ∃ x, cnt = x + 1 := ⟨cnt - 1, by omega⟩
    have hi := ih (i + 1) cnt (by omega) (by omega)
    have ep : yI ((10000 ^ i : Nat) : Int) * yI 10000 = yI ((10000 ^ (i + 1) : Nat) : Int) := by
      rw [y_mul, Nat.pow_succ, Int.natCast_mul]
      rfl
    rw [← hi, f7_tenThousands_4]
    simp (disch := omega) only [m_10000, l_1, ep, z_le, if_neg, letM_s, z_add]
    rfl
theorem e7_ten {N : Nat} (I : Mem) {n : Nat} (hN : 100 ≤ N) (hn : n ≤ 4) : f7_tenThousands N I (zI (n : Int)) = some (yI ((10000 ^ n : Nat) : Int), I) := by
  unfold f7_tenThousands
  exact e7_ten_4 N I hn n 0 N (by omega) (by omega)
theorem y_rem {w d : Nat} (hw : w < 9223372036854775808) (hd : d < 9223372036854775808) : yI (w : Int) - yI (w : Int) / yI (d : Int) * yI (d : Int) = yI ((w % d : Nat) : Int) := by
  rw [y_divN hw hd, y_mul, y_sub]
  congr 1
  have := Nat.div_add_mod w d
  rw [Nat.mul_comm] at this
  have e : ((w / d : Nat) : Int) * (d : Int) = ((w / d * d : Nat) : Int) := by rw [Int.natCast_mul]
  rw [e]
  omega
theorem scr_step {Z n i e : Nat} {s : Sg} : scrS (Z : Int) n (e+1) i s = if (cmdS s ((Z / 10000 ^ (n - 1 - i) % 10000 / 1000 : Nat) : Int) ((Z / 10000 ^ (n - 1 - i) % 10000 % 1000 : Nat) : Int)).1 = true then scrS (Z : Int) n e (i + 1) (cmdS s ((Z / 10000 ^ (n - 1 - i) % 10000 / 1000 : Nat) : Int) ((Z / 10000 ^ (n - 1 - i) % 10000 % 1000 : Nat) : Int)).2 else (i : Int) := by
  have e1 : ((Z / 10000 ^ (n - 1 - i) % 10000 / 1000 : Nat) : Int) = (Z : Int) / 10000 ^ (n - 1 - i) % 10000 / 1000 := by
    rw [Int.natCast_ediv, Int.natCast_emod, Int.natCast_ediv, Int.natCast_pow]
    rfl
  have e2 : ((Z / 10000 ^ (n - 1 - i) % 10000 % 1000 : Nat) : Int) = (Z : Int) / 10000 ^ (n - 1 - i) % 10000 % 1000 := by
    rw [Int.natCast_emod, Int.natCast_emod, Int.natCast_ediv, Int.natCast_pow]
    rfl
  rw [e1, e2]
  rfl
theorem e7_scr_43 {N : Nat} {k n Z : Nat} (hN : 8100 ≤ N) (hn : n ≤ 4) (hZ : Z < 10000 ^ n) : ∀ (e i cnt : Nat) (I : Mem) (s : Sg), i + e = n → e < cnt → McC I k → OkS s → RowR (I (k+3)) s →
    ∃ I1, f7_runScript_43 N k (zI (n : Int)) (yI (Z : Int)) cnt I (zI (i : Int)) = some (zI (scrS (Z : Int) n e i s), I1) ∧ McC I1 k ∧ Cr I I1 k (k+3) := by
  have hpn := p4 n hn
  intro e
  induction e with
  | zero =>
    intro i cnt I s h1 h2 hC hO hR
    obtain ⟨cnt, rfl⟩ : ∃ x, cnt = x + 1 := ⟨cnt - 1, by omega⟩
    refine ⟨I, ?_, hC, Cr.rf⟩
    rw [f7_runScript_43]
    simp (disch := omega) only [letM_s, clP_s, clM_s, l_m89910, l_m999, l_m9, l_m4, l_m3, l_m2, l_m1, l_0, l_1, l_2, l_3, l_4, l_5, l_6, l_7, l_8, l_9, l_10, l_11, l_12, l_13, l_14, l_18, l_31, l_32, l_33, l_43, l_45, l_48, l_57, l_64, l_66, l_80, l_97, l_100, l_109, l_118, l_119, l_200, l_255, l_462, l_500, l_676, l_999, l_1000, l_1001, l_9999, l_10000, l_99999, l_100000, l_447214, l_1000000000, m_m999, m_m9, m_0, m_1, m_2, m_4, m_9, m_255, m_500, m_999, m_9999, m_10000, m_99999, m_200000000, m_4294967295, m_1442695040888963407, m_6364136223846793005, z_add, z_sub, z_mul, z_neg, y_add, y_sub, y_mul, y_neg, z_toL, y_toI, cmp_lt, cmp_gt, cmp_le, cmp_ge, z_lt, z_le, z_eq, y_lt, y_le, y_eq, if_pos, if_neg, ite_true, ite_false]
    rfl
  | succ e ih =>
    intro i cnt I s h1 h2 hC hO hR
    obtain ⟨cnt, rfl⟩ : ∃ x, cnt = x + 1 := ⟨cnt - 1, by omega⟩
    have hp := p4 (n - 1 - i) (by omega)
    have et := e7_ten (N := N) I (n := n - 1 - i) (by omega) (by omega)
    have ed : yI (Z : Int) / yI ((10000 ^ (n - 1 - i) : Nat) : Int) = yI ((Z / 10000 ^ (n - 1 - i) : Nat) : Int) := y_divN (by omega) (by omega)
    have hq : Z / 10000 ^ (n - 1 - i) ≤ Z := Nat.div_le_self _ _
    rw [scr_step]
    generalize 10000 ^ (n - 1 - i) = Q at *
    generalize hF : Z / Q = F at *
    have er := y_rem (w := F) (d := 10000) (by omega) (by omega)
    have er' : yI (F : Int) - yI (F : Int) / yI 10000 * yI 10000 = yI ((F % 10000 : Nat) : Int) := er
    have e1 : zI ((F % 10000 : Nat) : Int) / zI 1000 = zI ((F % 10000 / 1000 : Nat) : Int) := z_divN (b := 1000) (by omega) (by omega)
    have e2 := rem_lit (w := F % 10000) 1000 (by omega) (by omega) (by omega)
    have e2' : zI ((F % 10000 : Nat) : Int) - zI ((F % 10000 / 1000 : Nat) : Int) * zI 1000 = zI ((F % 10000 % 1000 : Nat) : Int) := by rw [← e1]; exact e2
    obtain ⟨I1, t1, t2, t3, t4, t5⟩ := e7_command (N := N) (k := k) (c := F % 10000 / 1000) (w := F % 10000 % 1000) hN (by omega) (by omega) hC hO hR
    have hne : ¬ yI (Q : Int) = yI 0 := by rw [y_eq (by omega) (by omega) (by omega) (by omega)]; omega
    have hni : zI ((n : Int) - 1 - (i : Int)) = zI ((n - 1 - i : Nat) : Int) := by congr 1; omega
    by_cases c : (cmdS s ((F % 10000 / 1000 : Nat) : Int) ((F % 10000 % 1000 : Nat) : Int)).1 = true
    · rw [if_pos c] at t1 ⊢
      obtain ⟨I2, u1, u2, u3⟩ := ih (i + 1) cnt I1 (cmdS s ((F % 10000 / 1000 : Nat) : Int) ((F % 10000 % 1000 : Nat) : Int)).2 (by omega) (by omega) t4 t3 t2
      refine ⟨I2, ?_, u2, t5.tr u3⟩
      rw [← u1, f7_runScript_43]
      simp (disch := omega) only [l_0, l_1, l_1000, m_0, m_10000, z_sub, hni, et, z_le, if_neg, clP_s, hne, ed, er', y_toI, letM_s, e1, e2', t1, z_eq, z_add, ite_true, ite_false]
      rfl
    · rw [if_neg c] at t1 ⊢
      refine ⟨I1, ?_, t4, t5⟩
      rw [f7_runScript_43]
      simp (disch := omega) only [l_0, l_1, l_1000, m_0, m_10000, z_sub, hni, et, z_le, if_neg, clP_s, hne, ed, er', y_toI, letM_s, e1, e2', t1, z_eq, if_pos, ite_true, ite_false]
theorem m_script {N : Nat} {I : Mem} {k : Nat} {g : GS} {n z : Int} (hN : 8100 ≤ N) (hG : OkG g) (h : MInv I k g) (h1 : -2147483648 ≤ n) (h2 : n < 2147483648) (h3 : -9223372036854775808 ≤ z) (h4 : z < 9223372036854775808) : ∃ I1, f7_runScript N I k (zI n) (yI z) = some ((spScript g n z).1, I1) ∧ MInv I1 k g ∧ ∀ x, x < k → I1 x = I x := by
  have e := in_lit N I 1 4 h1 h2 (by omega) (by omega) (by omega) (by omega)
  unfold f7_runScript spScript
  by_cases c : 1 ≤ n ∧ n ≤ 4
  · obtain ⟨q, rfl⟩ := Int.eq_ofNat_of_zero_le (show 0 ≤ n by omega)
    have hp := p4 q (by omega)
    have et := e7_ten (N := N) I (n := q) (by omega) (by omega)
    have ei := e7_in N I (v := z) (a := 0) (b := ((10000 ^ q : Nat) : Int) - 1) h3 h4 (by omega) (by omega) (by omega) (by omega)
    have ep : (10000 : Int) ^ ((q : Int).toNat) = ((10000 ^ q : Nat) : Int) := by rw [Int.toNat_natCast, Int.natCast_pow]; rfl
    rw [ep, Int.toNat_natCast]
    by_cases c1 : 0 ≤ z ∧ z < ((10000 ^ q : Nat) : Int)
    · rw [if_pos ⟨c.1, c.2, c1.1, c1.2⟩]
      obtain ⟨Z, rfl⟩ := Int.eq_ofNat_of_zero_le c1.1
      obtain ⟨I1, q1, q2, q3, q4⟩ := copy_tr (N := N) (by omega) hG h
      obtain ⟨I2, t1, t2, t3⟩ := e7_scr_43 (N := N) (k := k) (n := q) (Z := Z) hN (by omega) (by omega) q 0 N I1 (sG g) (by omega) (by omega) q3.C hG.S q2
      refine ⟨I2, ?_, q3.tr t3 t2, fun x hx => by rw [fm_cr t3 (by omega) x hx, q4 x hx]⟩
      have t1' : f7_runScript_43 N k (zI (q : Int)) (yI (Z : Int)) N I1 (zI 0) = _ := t1
      generalize 10000 ^ q = Q at *
      simp (disch := omega) only [e, et, ei, q1, t1', letM_s, clP_s, clM_s, l_m89910, l_m999, l_m9, l_m4, l_m3, l_m2, l_m1, l_0, l_1, l_2, l_3, l_4, l_5, l_6, l_7, l_8, l_9, l_10, l_11, l_12, l_13, l_14, l_18, l_31, l_32, l_33, l_43, l_45, l_48, l_57, l_64, l_66, l_80, l_97, l_100, l_109, l_118, l_119, l_200, l_255, l_462, l_500, l_676, l_999, l_1000, l_1001, l_9999, l_10000, l_99999, l_100000, l_447214, l_1000000000, m_m999, m_m9, m_0, m_1, m_2, m_4, m_9, m_255, m_500, m_999, m_9999, m_10000, m_99999, m_200000000, m_4294967295, m_1442695040888963407, m_6364136223846793005, z_add, z_sub, z_mul, z_neg, y_add, y_sub, y_mul, y_neg, z_toL, y_toI, cmp_lt, cmp_gt, cmp_le, cmp_ge, z_lt, z_le, z_eq, y_lt, y_le, y_eq, if_pos, if_neg, ite_true, ite_false]
    · rw [if_neg (fun w => c1 ⟨w.2.2.1, w.2.2.2⟩)]
      refine ⟨I, ?_, h, fun _ _ => rfl⟩
      generalize 10000 ^ q = Q at *
      simp (disch := omega) only [e, et, ei, letM_s, clP_s, clM_s, l_m89910, l_m999, l_m9, l_m4, l_m3, l_m2, l_m1, l_0, l_1, l_2, l_3, l_4, l_5, l_6, l_7, l_8, l_9, l_10, l_11, l_12, l_13, l_14, l_18, l_31, l_32, l_33, l_43, l_45, l_48, l_57, l_64, l_66, l_80, l_97, l_100, l_109, l_118, l_119, l_200, l_255, l_462, l_500, l_676, l_999, l_1000, l_1001, l_9999, l_10000, l_99999, l_100000, l_447214, l_1000000000, m_m999, m_m9, m_0, m_1, m_2, m_4, m_9, m_255, m_500, m_999, m_9999, m_10000, m_99999, m_200000000, m_4294967295, m_1442695040888963407, m_6364136223846793005, z_add, z_sub, z_mul, z_neg, y_add, y_sub, y_mul, y_neg, z_toL, y_toI, cmp_lt, cmp_gt, cmp_le, cmp_ge, z_lt, z_le, z_eq, y_lt, y_le, y_eq, if_pos, if_neg, ite_true, ite_false]
  · rw [if_neg (fun w => c ⟨w.1, w.2.1⟩)]
    refine ⟨I, ?_, h, fun _ _ => rfl⟩
    simp (disch := omega) only [e, letM_s, clP_s, clM_s, l_m89910, l_m999, l_m9, l_m4, l_m3, l_m2, l_m1, l_0, l_1, l_2, l_3, l_4, l_5, l_6, l_7, l_8, l_9, l_10, l_11, l_12, l_13, l_14, l_18, l_31, l_32, l_33, l_43, l_45, l_48, l_57, l_64, l_66, l_80, l_97, l_100, l_109, l_118, l_119, l_200, l_255, l_462, l_500, l_676, l_999, l_1000, l_1001, l_9999, l_10000, l_99999, l_100000, l_447214, l_1000000000, m_m999, m_m9, m_0, m_1, m_2, m_4, m_9, m_255, m_500, m_999, m_9999, m_10000, m_99999, m_200000000, m_4294967295, m_1442695040888963407, m_6364136223846793005, z_add, z_sub, z_mul, z_neg, y_add, y_sub, y_mul, y_neg, z_toL, y_toI, cmp_lt, cmp_gt, cmp_le, cmp_ge, z_lt, z_le, z_eq, y_lt, y_le, y_eq, if_pos, if_neg, ite_true, ite_false]
def spApp (g : GS) (z : Int) : Int32 × GS := if 0 ≤ z ∧ z ≤ 255 then (if g.1 = 80 then (zI (-4), g) else (zI ((g.1 + 1 : Nat) : Int), (g.1 + 1, fun j => if j = g.1 then z else g.2.1 j, g.2.2))) else (zI (-2), g)
def spClr (g : GS) : Int32 × GS := (zI (g.1 : Int), (0, g.2))
theorem m_app {N : Nat} {I : Mem} {k : Nat} {g : GS} {z : Int} (hG : OkG g) (h : MInv I k g) (h1 : -2147483648 ≤ z) (h2 : z < 2147483648) : ∃ I1, f7_append N I k (zI z) = some ((spApp g z).1, I1) ∧ MInv I1 k (spApp g z).2 ∧ ∀ x, x < k → I1 x = I x := by
  have e := in_lit N I 0 255 h1 h2 (by omega) (by omega) (by omega) (by omega)
  obtain ⟨tl, tx, s, hc, he, hh, sv⟩ := g
  obtain ⟨g1, g2, -⟩ := hG
  obtain ⟨m1, m2, m3, m4, m5, m6, m7, m8⟩ := id h
  unfold f7_append spApp
  by_cases c : 0 ≤ z ∧ z ≤ 255
  · rw [if_pos c]
    by_cases c1 : tl = 80
    · have c1' : ((tl, tx, s, hc, he, hh, sv) : GS).1 = 80 := c1
      rw [if_pos c1']
      refine ⟨I, ?_, h, fun _ _ => rfl⟩
      subst c1
      simp (disch := omega) only [e, m1, letM_s, clP_s, clM_s, l_m89910, l_m999, l_m9, l_m4, l_m3, l_m2, l_m1, l_0, l_1, l_2, l_3, l_4, l_5, l_6, l_7, l_8, l_9, l_10, l_11, l_12, l_13, l_14, l_18, l_31, l_32, l_33, l_43, l_45, l_48, l_57, l_64, l_66, l_80, l_97, l_100, l_109, l_118, l_119, l_200, l_255, l_462, l_500, l_676, l_999, l_1000, l_1001, l_9999, l_10000, l_99999, l_100000, l_447214, l_1000000000, m_m999, m_m9, m_0, m_1, m_2, m_4, m_9, m_255, m_500, m_999, m_9999, m_10000, m_99999, m_200000000, m_4294967295, m_1442695040888963407, m_6364136223846793005, z_add, z_sub, z_mul, z_neg, y_add, y_sub, y_mul, y_neg, z_toL, y_toI, cmp_lt, cmp_gt, cmp_le, cmp_ge, z_lt, z_le, z_eq, y_lt, y_le, y_eq, if_pos, if_neg, ite_true, ite_false, show ((80 : Nat) : Int) = 80 from rfl]
    · have c1' : ¬ ((tl, tx, s, hc, he, hh, sv) : GS).1 = 80 := c1
      rw [if_neg c1']
      have n1 : (zI (tl : Int)).toNatClampNeg = tl := by rw [z_nat (by omega) (by omega)]; rfl
      have e1 : st I (k+1) tl (zI z) k 1 = zI (tl : Int) := by rw [st_k (by omega)]; exact m1
      have fx : ∀ x, x ≠ k → x ≠ k + 1 → st (st I (k+1) tl (zI z)) k 1 (zI ((tl : Int) + 1)) x = I x := fun x a b => by rw [st_k a, st_k b]
      have fk : ∀ j, j ≠ 1 → st (st I (k+1) tl (zI z)) k 1 (zI ((tl : Int) + 1)) k j = I k j := fun j a => by rw [st_j a, st_k (by omega)]
      refine ⟨st (st I (k+1) tl (zI z)) k 1 (zI ((tl : Int) + 1)), ?_, ⟨by rw [st_s]; rfl, fun j hj => ?_, by rw [fx (k+2) (by omega) (by omega)]; exact m3, by rw [fk 7 (by omega)]; exact m4, by rw [fk 8 (by omega)]; exact m5, fun i hi => by rw [fx (k+5) (by omega) (by omega)]; exact m6 i hi, fun b hb => by rw [fx (k+7) (by omega) (by omega), fx (k+6) (by omega) (by omega)]; exact m7 b hb, ⟨?_, fun a v a1 a2 a3 a4 => ?_⟩⟩, fun x hx => fx x (by omega) (by omega)⟩
      · simp (disch := omega) only [e, n1, m1, e1, st_s, letM_s, clP_s, clM_s, l_m89910, l_m999, l_m9, l_m4, l_m3, l_m2, l_m1, l_0, l_1, l_2, l_3, l_4, l_5, l_6, l_7, l_8, l_9, l_10, l_11, l_12, l_13, l_14, l_18, l_31, l_32, l_33, l_43, l_45, l_48, l_57, l_64, l_66, l_80, l_97, l_100, l_109, l_118, l_119, l_200, l_255, l_462, l_500, l_676, l_999, l_1000, l_1001, l_9999, l_10000, l_99999, l_100000, l_447214, l_1000000000, m_m999, m_m9, m_0, m_1, m_2, m_4, m_9, m_255, m_500, m_999, m_9999, m_10000, m_99999, m_200000000, m_4294967295, m_1442695040888963407, m_6364136223846793005, z_add, z_sub, z_mul, z_neg, y_add, y_sub, y_mul, y_neg, z_toL, y_toI, cmp_lt, cmp_gt, cmp_le, cmp_ge, z_lt, z_le, z_eq, y_lt, y_le, y_eq, if_pos, if_neg, ite_true, ite_false]
        rfl
      · show _ = zI (if j = tl then z else tx j)
        have hj : j < tl + 1 := hj
        rw [st_k (by omega)]
        by_cases cj : j = tl
        · rw [if_pos cj, cj, st_s]
        · rw [if_neg cj, st_j cj]; exact m2 j (by omega)
      · rw [fk 13 (by omega), fk 12 (by omega), fx (k+8) (by omega) (by omega)]; exact m8.1
      · rw [fk 14 (by omega), fk 15 (by omega), fk 16 (by omega)]; exact m8.2 a v a1 a2 a3 a4
  · rw [if_neg c]
    refine ⟨I, ?_, h, fun _ _ => rfl⟩
    simp (disch := omega) only [e, letM_s, clP_s, clM_s, l_m89910, l_m999, l_m9, l_m4, l_m3, l_m2, l_m1, l_0, l_1, l_2, l_3, l_4, l_5, l_6, l_7, l_8, l_9, l_10, l_11, l_12, l_13, l_14, l_18, l_31, l_32, l_33, l_43, l_45, l_48, l_57, l_64, l_66, l_80, l_97, l_100, l_109, l_118, l_119, l_200, l_255, l_462, l_500, l_676, l_999, l_1000, l_1001, l_9999, l_10000, l_99999, l_100000, l_447214, l_1000000000, m_m999, m_m9, m_0, m_1, m_2, m_4, m_9, m_255, m_500, m_999, m_9999, m_10000, m_99999, m_200000000, m_4294967295, m_1442695040888963407, m_6364136223846793005, z_add, z_sub, z_mul, z_neg, y_add, y_sub, y_mul, y_neg, z_toL, y_toI, cmp_lt, cmp_gt, cmp_le, cmp_ge, z_lt, z_le, z_eq, y_lt, y_le, y_eq, if_pos, if_neg, ite_true, ite_false]
theorem m_clr (N : Nat) {I : Mem} {k : Nat} {g : GS} (h : MInv I k g) : ∃ I1, f7_clearText N I k = some ((spClr g).1, I1) ∧ MInv I1 k (spClr g).2 ∧ ∀ x, x < k → I1 x = I x := by
  obtain ⟨tl, tx, s, hc, he, hh, sv⟩ := g
  obtain ⟨m1, m2, m3, m4, m5, m6, m7, m8⟩ := id h
  have fk : ∀ j, j ≠ 1 → st I k 1 (zI 0) k j = I k j := fun j a => st_j a
  have fx : ∀ x, x ≠ k → st I k 1 (zI 0) x = I x := fun x a => st_k a
  refine ⟨st I k 1 (zI 0), ?_, ⟨by rw [st_s]; rfl, fun j hj => absurd hj (Nat.not_lt_zero j), by rw [fx (k+2) (by omega)]; exact m3, by rw [fk 7 (by omega)]; exact m4, by rw [fk 8 (by omega)]; exact m5, fun i hi => by rw [fx (k+5) (by omega)]; exact m6 i hi, fun b hb => by rw [fx (k+7) (by omega), fx (k+6) (by omega)]; exact m7 b hb, ⟨?_, fun a v a1 a2 a3 a4 => ?_⟩⟩, fun x hx => fx x (by omega)⟩
  · unfold f7_clearText spClr
    rw [m1]
    rfl
  · rw [fk 13 (by omega), fk 12 (by omega), fx (k+8) (by omega)]; exact m8.1
  · rw [fk 14 (by omega), fk 15 (by omega), fk 16 (by omega)]; exact m8.2 a v a1 a2 a3 a4
