/-! the reference's scripts and random speeds -/
theorem rnd_nat (x : Int64) : ∃ w : Nat, w < 2147483648 ∧ ((x.toUInt64 >>> (((33 : Int32)).toInt64.toUInt64 &&& Int64.toUInt64 63)).toInt64.toInt32) = zI (w : Int) := by
  have hs : (((33 : Int32)).toInt64.toUInt64 &&& Int64.toUInt64 63) = 33 := by decide +kernel
  rw [hs]
  have hn : (x.toUInt64 >>> 33).toNat = x.toUInt64.toNat / 8589934592 := by
    rw [UInt64.toNat_shiftRight]
    show x.toUInt64.toNat >>> 33 = _
    rw [Nat.shiftRight_eq_div_pow]
  have hlt : x.toUInt64.toNat < 18446744073709551616 := x.toUInt64.toNat_lt
  generalize x.toUInt64 >>> 33 = y at *
  have hy : y.toNat < 2147483648 := by omega
  refine ⟨y.toNat, hy, ?_⟩
  have e : y.toInt64 = yI (y.toNat : Int) := by
    refine Int64.toBitVec_inj.mp ?_
    rw [yN_bv]
    refine BitVec.eq_of_toNat_eq ?_
    rw [BitVec.toNat_ofNat, Nat.mod_eq_of_lt (by omega)]
    rfl
  rw [e, y_toI]
theorem rnd_v (x : Int64) : ∃ w : Nat, w < 2147483648 ∧ rndV x = w ∧ ((x.toUInt64 >>> (((33 : Int32)).toInt64.toUInt64 &&& Int64.toUInt64 63)).toInt64.toInt32) = zI (w : Int) := by
  obtain ⟨w, h1, h2⟩ := rnd_nat x
  refine ⟨w, h1, ?_, h2⟩
  unfold rndV
  rw [h2, zI_t (by omega) (by omega)]
theorem rem_lit {w : Nat} (d : Nat) (hw : w < 2147483648) (hd : 0 < d) (hd2 : d < 100000) : zI (w : Int) - zI (w : Int) / zI (d : Int) * zI (d : Int) = zI ((w % d : Nat) : Int) := by
  rw [z_divN hw (by omega), z_mul, z_sub]
  congr 1
  have := Nat.div_add_mod w d
  rw [Nat.mul_comm] at this
  have e : ((w / d : Nat) : Int) * (d : Int) = ((w / d * d : Nat) : Int) := by rw [Int.natCast_mul]
  rw [e]
  omega
theorem row_setV {I I1 : Mem} {k w : Nat} {s : Sg} (hR : RowR (I k) s) (h1 : I1 k = st I k 1 (zI (w : Int)) k) : RowR (I1 k) (setV s w) := by
  obtain ⟨a, v, x, y, t, n, d, m, i, l⟩ := s
  obtain ⟨r0, r1, r2, r3, r4, r5, r6, r7, r8, r9⟩ := hR
  rw [h1]
  refine ⟨by rw [st_j (by omega)]; exact r0, by rw [st_s], by rw [st_j (by omega)]; exact r2, by rw [st_j (by omega)]; exact r3, by rw [st_j (by omega)]; exact r4, by rw [st_j (by omega)]; exact r5, by rw [st_j (by omega)]; exact r6, by rw [st_j (by omega)]; exact r7, by rw [st_j (by omega)]; exact r8, fun j hj => ?_⟩
  rw [st_j (by omega), st_j (by omega), st_j (by omega)]
  exact r9 j hj
theorem nS_setV (s : Sg) (w : Nat) : nS (setV s w) = nS s := by
  obtain ⟨a, v, x, y, t, n, d, m, i, l⟩ := s
  rfl
theorem sT_setV (s : Sg) (w : Nat) : sT (setV s w) = sT s := by
  obtain ⟨a, v, x, y, t, n, d, m, i, l⟩ := s
  rfl
theorem e7_rnd_35 {N : Nat} {k mm : Nat} (j1 : Int64) (hN : 8100 ≤ N) (hm : mm ≤ 500) : ∀ (e i cnt : Nat) (v : Int32) (x : Int64) (I : Mem) (s : Sg), i + e = mm → e < cnt → McC I k → OkS s → RowR (I (k+3)) s →
    ∃ I1, f7_randomSpeeds_35 N k j1 (zI (mm : Int)) cnt I x v (zI (i : Int)) = some (v + (sT (rndS e x s) - sT s), I1) ∧ McC I1 k ∧ Cr I I1 k (k+3) := by
  have zz : ∀ v t : Int32, v = v + (t - t) := fun v t => by
    obtain ⟨a, rfl, -, -⟩ := zI_of v
    obtain ⟨b, rfl, -, -⟩ := zI_of t
    simp only [z_add, z_sub]
    congr 1
    omega
  intro e
  induction e with
  | zero =>
    intro i cnt v x I s h1 h2 hC hO hR
    obtain ⟨cnt, rfl⟩ : ∃ x, cnt = x + 1 := ⟨cnt - 1, by omega⟩
    refine ⟨I, ?_, hC, Cr.rf⟩
    show _ = some (v + (sT s - sT s), I)
    rw [← zz v (sT s), f7_randomSpeeds_35]
    simp (disch := omega) only [letM_s, clP_s, clM_s, l_m89910, l_m999, l_m9, l_m4, l_m3, l_m2, l_m1, l_0, l_1, l_2, l_3, l_4, l_5, l_6, l_7, l_8, l_9, l_10, l_11, l_12, l_13, l_14, l_18, l_31, l_32, l_33, l_43, l_45, l_48, l_57, l_64, l_66, l_80, l_97, l_100, l_109, l_118, l_119, l_200, l_255, l_462, l_500, l_676, l_999, l_1000, l_1001, l_9999, l_10000, l_99999, l_100000, l_447214, l_1000000000, m_m999, m_m9, m_0, m_1, m_2, m_4, m_9, m_255, m_500, m_999, m_9999, m_10000, m_99999, m_200000000, m_4294967295, m_1442695040888963407, m_6364136223846793005, z_add, z_sub, z_mul, z_neg, y_add, y_sub, y_mul, y_neg, z_toL, y_toI, cmp_lt, cmp_gt, cmp_le, cmp_ge, z_lt, z_le, z_eq, y_lt, y_le, y_eq, if_pos, if_neg, ite_true, ite_false]
  | succ e ih =>
    intro i cnt v x I s h1 h2 hC hO hR
    obtain ⟨cnt, rfl⟩ : ∃ x, cnt = x + 1 := ⟨cnt - 1, by omega⟩
    have hn8 := n8_of hO
    have r5 := n5_of hR
    by_cases hn : nS s = 0
    · refine ⟨I, ?_, hC, Cr.rf⟩
      rw [show rndS (e+1) x s = s from by unfold rndS; rw [if_pos hn], ← zz v (sT s), f7_randomSpeeds_35, r5, hn]
      simp (disch := omega) only [letM_s, clP_s, clM_s, l_m89910, l_m999, l_m9, l_m4, l_m3, l_m2, l_m1, l_0, l_1, l_2, l_3, l_4, l_5, l_6, l_7, l_8, l_9, l_10, l_11, l_12, l_13, l_14, l_18, l_31, l_32, l_33, l_43, l_45, l_48, l_57, l_64, l_66, l_80, l_97, l_100, l_109, l_118, l_119, l_200, l_255, l_462, l_500, l_676, l_999, l_1000, l_1001, l_9999, l_10000, l_99999, l_100000, l_447214, l_1000000000, m_m999, m_m9, m_0, m_1, m_2, m_4, m_9, m_255, m_500, m_999, m_9999, m_10000, m_99999, m_200000000, m_4294967295, m_1442695040888963407, m_6364136223846793005, z_add, z_sub, z_mul, z_neg, y_add, y_sub, y_mul, y_neg, z_toL, y_toI, cmp_lt, cmp_gt, cmp_le, cmp_ge, z_lt, z_le, z_eq, y_lt, y_le, y_eq, if_pos, if_neg, ite_true, ite_false, show ((0 : Nat) : Int) = 0 from rfl]
    · have hx : x * (6364136223846793005 : Int64) + (1442695040888963407 : Int64) = rndX x := rfl
      obtain ⟨w, w1, w2, w3⟩ := rnd_v (rndX x)
      have e4 := rem_lit (w := w) 4 w1 (by omega) (by omega)
      have e4' : zI (w : Int) - zI (w : Int) / zI 4 * zI 4 = zI ((w % 4 : Nat) : Int) := e4
      have ed : zI (w : Int) / zI 4 = zI ((w / 4 : Nat) : Int) := z_divN (b := 4) w1 (by omega)
      have e44 : zI (w : Int) - zI ((w / 4 : Nat) : Int) * zI 4 = zI ((w % 4 : Nat) : Int) := by rw [← ed]; exact e4'
      have e9 := rem_lit (w := w / 4) 999 (by omega) (by omega) (by omega)
      have e9' : zI ((w / 4 : Nat) : Int) - zI ((w / 4 : Nat) : Int) / zI 999 * zI 999 = zI ((w / 4 % 999 : Nat) : Int) := e9
      unfold rndS
      rw [if_neg hn, w2]
      by_cases c : w % 4 = 0
      · have hO2 : OkS (setV s (w / 4 % 999 + 1)) := ok_setV hO (by omega) (by omega)
        have hR2 := row_setV (I1 := st I (k+3) 1 (zI ((w / 4 % 999 + 1 : Nat) : Int))) (w := w / 4 % 999 + 1) hR rfl
        obtain ⟨I1, s1, s2, s3, s4⟩ := e7_stepIn (N := N) (I := st I (k+3) 1 (zI ((w / 4 % 999 + 1 : Nat) : Int))) (k := k) (row := k+3) (by omega) (by omega) (by omega) (hC.row (st_k (by omega)) (st_k (by omega))) (show 0 < nS (setV s (w / 4 % 999 + 1)) by rw [nS_setV]; exact Nat.pos_of_ne_zero hn) hO2 hR2
        obtain ⟨I2, t1, t2, t3⟩ := ih (i + 1) cnt (v + zI (tkS (setV s (w / 4 % 999 + 1)) : Int)) (rndX x) I1 (stepS (setV s (w / 4 % 999 + 1))) (by omega) (by omega) s3 (OkS_step hO2 (show 0 < nS (setV s (w / 4 % 999 + 1)) by rw [nS_setV]; exact Nat.pos_of_ne_zero hn)) s2
        refine ⟨I2, ?_, t2, ((Cr.st (by omega)).tr s4).tr t3⟩
        rw [if_pos (show (w : Int) % 4 = 0 by omega), show ((w : Int) / 4 % 999 + 1).toNat = w / 4 % 999 + 1 by omega, f7_randomSpeeds_35, r5]
        have e5 : zI ((w / 4 % 999 : Nat) : Int) + zI 1 = zI ((w / 4 % 999 + 1 : Nat) : Int) := by rw [z_add]; rfl
        simp (disch := omega) only [hx, w3, l_0, l_1, l_4, l_999, e44, ed, e9', e5, s1, letM_s, clP_s, z_le, z_eq, if_pos, if_neg, z_add]
        rw [show ((i : Int) + 1) = ((i + 1 : Nat) : Int) from rfl, t1, sT_step, sT_setV, sum_assoc]
      · obtain ⟨I1, s1, s2, s3, s4⟩ := e7_stepIn (N := N) (I := I) (k := k) (row := k+3) (by omega) (by omega) (by omega) hC (Nat.pos_of_ne_zero hn) hO hR
        obtain ⟨I2, t1, t2, t3⟩ := ih (i + 1) cnt (v + zI (tkS s : Int)) (rndX x) I1 (stepS s) (by omega) (by omega) s3 (OkS_step hO (Nat.pos_of_ne_zero hn)) s2
        refine ⟨I2, ?_, t2, s4.tr t3⟩
        rw [if_neg (show ¬ (w : Int) % 4 = 0 by omega), f7_randomSpeeds_35, r5]
        simp (disch := omega) only [hx, w3, l_0, l_1, l_4, l_999, e44, ed, s1, letM_s, clP_s, z_le, z_eq, if_pos, if_neg, z_add]
        rw [show ((i : Int) + 1) = ((i + 1 : Nat) : Int) from rfl, t1, sT_step, sum_assoc]
theorem m_rnd {N : Nat} {I : Mem} {k : Nat} {g : GS} {z : Int} (x : Int64) (hN : 8100 ≤ N) (hG : OkG g) (h : MInv I k g) (h1 : -2147483648 ≤ z) (h2 : z < 2147483648) : ∃ I1, f7_randomSpeeds N I k x (zI z) = some ((spRnd g x z).1, I1) ∧ MInv I1 k g ∧ ∀ x, x < k → I1 x = I x := by
  have e := in_lit N I 1 500 h1 h2 (by omega) (by omega) (by omega) (by omega)
  unfold f7_randomSpeeds spRnd
  by_cases c : 1 ≤ z ∧ z ≤ 500
  · rw [if_pos c]
    obtain ⟨q, rfl⟩ := Int.eq_ofNat_of_zero_le (show 0 ≤ z by omega)
    obtain ⟨I1, q1, q2, q3, q4⟩ := copy_tr (N := N) (by omega) hG h
    obtain ⟨I2, t1, t2, t3⟩ := e7_rnd_35 (N := N) (k := k) (mm := q) x hN (by omega) q 0 N (zI 0) x I1 (sG g) (by omega) (by omega) q3.C hG.S q2
    refine ⟨I2, ?_, q3.tr t3 t2, fun x hx => by rw [fm_cr t3 (by omega) x hx, q4 x hx]⟩
    have t1' : f7_randomSpeeds_35 N k x (zI (q : Int)) N I1 x (zI 0) (zI 0) = some (zI 0 + (sT (rndS q x (sG g)) - sT (sG g)), I2) := t1
    have z0 : ∀ u : Int32, zI 0 + u = u := fun u => by
      obtain ⟨b, rfl, -, -⟩ := zI_of u
      rw [z_add]
      congr 1
      omega
    rw [z0] at t1'
    simp (disch := omega) only [e, q1, t1', letM_s, clP_s, clM_s, l_m89910, l_m999, l_m9, l_m4, l_m3, l_m2, l_m1, l_0, l_1, l_2, l_3, l_4, l_5, l_6, l_7, l_8, l_9, l_10, l_11, l_12, l_13, l_14, l_18, l_31, l_32, l_33, l_43, l_45, l_48, l_57, l_64, l_66, l_80, l_97, l_100, l_109, l_118, l_119, l_200, l_255, l_462, l_500, l_676, l_999, l_1000, l_1001, l_9999, l_10000, l_99999, l_100000, l_447214, l_1000000000, m_m999, m_m9, m_0, m_1, m_2, m_4, m_9, m_255, m_500, m_999, m_9999, m_10000, m_99999, m_200000000, m_4294967295, m_1442695040888963407, m_6364136223846793005, z_add, z_sub, z_mul, z_neg, y_add, y_sub, y_mul, y_neg, z_toL, y_toI, cmp_lt, cmp_gt, cmp_le, cmp_ge, z_lt, z_le, z_eq, y_lt, y_le, y_eq, if_pos, if_neg, ite_true, ite_false]
    rfl
  · rw [if_neg c]
    refine ⟨I, ?_, h, fun _ _ => rfl⟩
    simp (disch := omega) only [e, letM_s, clP_s, clM_s, l_m89910, l_m999, l_m9, l_m4, l_m3, l_m2, l_m1, l_0, l_1, l_2, l_3, l_4, l_5, l_6, l_7, l_8, l_9, l_10, l_11, l_12, l_13, l_14, l_18, l_31, l_32, l_33, l_43, l_45, l_48, l_57, l_64, l_66, l_80, l_97, l_100, l_109, l_118, l_119, l_200, l_255, l_462, l_500, l_676, l_999, l_1000, l_1001, l_9999, l_10000, l_99999, l_100000, l_447214, l_1000000000, m_m999, m_m9, m_0, m_1, m_2, m_4, m_9, m_255, m_500, m_999, m_9999, m_10000, m_99999, m_200000000, m_4294967295, m_1442695040888963407, m_6364136223846793005, z_add, z_sub, z_mul, z_neg, y_add, y_sub, y_mul, y_neg, z_toL, y_toI, cmp_lt, cmp_gt, cmp_le, cmp_ge, z_lt, z_le, z_eq, y_lt, y_le, y_eq, if_pos, if_neg, ite_true, ite_false]
/-! scripts -/
theorem e7_cmd_58 {N : Nat} {k w : Nat} (a1 : Int32) (hN : 8100 ≤ N) (hw : w ≤ 999) : ∀ (e i cnt : Nat) (v : Int32) (K : Int) (I : Mem) (s : Sg), i + e = w → e < cnt → 20000 * (mu s : Int) ≤ K → McC I k → OkS s → RowR (I (k+3)) s →
    ∃ I1, f7_command_58 N k a1 (zI (w : Int)) cnt I v (zI (i : Int)) = some (zI 1, I1) ∧ RowR (I1 (k+3)) (runS e K s).2 ∧ McC I1 k ∧ Cr I I1 k (k+3) := by
  intro e
  induction e with
  | zero =>
    intro i cnt v K I s h1 h2 h3 hC hO hR
    obtain ⟨cnt, rfl⟩ : ∃ x, cnt = x + 1 := ⟨cnt - 1, by omega⟩
    refine ⟨I, ?_, hR, hC, Cr.rf⟩
    rw [f7_command_58]
    simp (disch := omega) only [letM_s, clP_s, clM_s, l_m89910, l_m999, l_m9, l_m4, l_m3, l_m2, l_m1, l_0, l_1, l_2, l_3, l_4, l_5, l_6, l_7, l_8, l_9, l_10, l_11, l_12, l_13, l_14, l_18, l_31, l_32, l_33, l_43, l_45, l_48, l_57, l_64, l_66, l_80, l_97, l_100, l_109, l_118, l_119, l_200, l_255, l_462, l_500, l_676, l_999, l_1000, l_1001, l_9999, l_10000, l_99999, l_100000, l_447214, l_1000000000, m_m999, m_m9, m_0, m_1, m_2, m_4, m_9, m_255, m_500, m_999, m_9999, m_10000, m_99999, m_200000000, m_4294967295, m_1442695040888963407, m_6364136223846793005, z_add, z_sub, z_mul, z_neg, y_add, y_sub, y_mul, y_neg, z_toL, y_toI, cmp_lt, cmp_gt, cmp_le, cmp_ge, z_lt, z_le, z_eq, y_lt, y_le, y_eq, if_pos, if_neg, ite_true, ite_false]
  | succ e ih =>
    intro i cnt v K I s h1 h2 h3 hC hO hR
    obtain ⟨cnt, rfl⟩ : ∃ x, cnt = x + 1 := ⟨cnt - 1, by omega⟩
    have hn8 := n8_of hO
    have r5 := n5_of hR
    by_cases hn : nS s = 0
    · refine ⟨I, ?_, by rw [runS, if_pos (Or.inl hn)]; exact hR, hC, Cr.rf⟩
      rw [f7_command_58, r5, hn]
      simp (disch := omega) only [letM_s, clP_s, clM_s, l_m89910, l_m999, l_m9, l_m4, l_m3, l_m2, l_m1, l_0, l_1, l_2, l_3, l_4, l_5, l_6, l_7, l_8, l_9, l_10, l_11, l_12, l_13, l_14, l_18, l_31, l_32, l_33, l_43, l_45, l_48, l_57, l_64, l_66, l_80, l_97, l_100, l_109, l_118, l_119, l_200, l_255, l_462, l_500, l_676, l_999, l_1000, l_1001, l_9999, l_10000, l_99999, l_100000, l_447214, l_1000000000, m_m999, m_m9, m_0, m_1, m_2, m_4, m_9, m_255, m_500, m_999, m_9999, m_10000, m_99999, m_200000000, m_4294967295, m_1442695040888963407, m_6364136223846793005, z_add, z_sub, z_mul, z_neg, y_add, y_sub, y_mul, y_neg, z_toL, y_toI, cmp_lt, cmp_gt, cmp_le, cmp_ge, z_lt, z_le, z_eq, y_lt, y_le, y_eq, if_pos, if_neg, ite_true, ite_false, show ((0 : Nat) : Int) = 0 from rfl]
    · obtain ⟨hr, hK⟩ := runS_free (f := e) hO hn h3
      obtain ⟨I1, s1, s2, s3, s4⟩ := e7_stepIn (N := N) (by omega) (by omega) (by omega) hC (Nat.pos_of_ne_zero hn) hO hR
      obtain ⟨I2, t1, t2, t3, t4⟩ := ih (i + 1) cnt (v + zI (tkS s : Int)) (K - (tkS s : Int)) I1 (stepS s) (by omega) (by omega) hK s3 (OkS_step hO (Nat.pos_of_ne_zero hn)) s2
      refine ⟨I2, ?_, by rw [hr]; exact t2, t3, s4.tr t4⟩
      rw [f7_command_58, r5]
      simp (disch := omega) only [s1, letM_s, clP_s, clM_s, l_m89910, l_m999, l_m9, l_m4, l_m3, l_m2, l_m1, l_0, l_1, l_2, l_3, l_4, l_5, l_6, l_7, l_8, l_9, l_10, l_11, l_12, l_13, l_14, l_18, l_31, l_32, l_33, l_43, l_45, l_48, l_57, l_64, l_66, l_80, l_97, l_100, l_109, l_118, l_119, l_200, l_255, l_462, l_500, l_676, l_999, l_1000, l_1001, l_9999, l_10000, l_99999, l_100000, l_447214, l_1000000000, m_m999, m_m9, m_0, m_1, m_2, m_4, m_9, m_255, m_500, m_999, m_9999, m_10000, m_99999, m_200000000, m_4294967295, m_1442695040888963407, m_6364136223846793005, z_add, z_sub, z_mul, z_neg, y_add, y_sub, y_mul, y_neg, z_toL, y_toI, cmp_lt, cmp_gt, cmp_le, cmp_ge, z_lt, z_le, z_eq, y_lt, y_le, y_eq, if_pos, if_neg, ite_true, ite_false]
      rw [show ((i : Int) + 1) = ((i + 1 : Nat) : Int) from rfl, t1]
theorem x_eq {x : Int32} {w : Nat} (hw : w < 1000) : (x = zI (w : Int)) = (x.toInt = (w : Int)) := by
  obtain ⟨a, rfl, h1, h2⟩ := zI_of x
  rw [z_eq h1 h2 (by omega) (by omega), zI_t h1 h2]
theorem e7_command {N : Nat} {I : Mem} {k c w : Nat} {s : Sg} (hN : 8100 ≤ N) (hc : c < 10) (hw : w < 1000) (hC : McC I k) (hO : OkS s) (hR : RowR (I (k+3)) s) :
    ∃ I1, f7_command N I k (zI (c : Int)) (zI (w : Int)) = some (zI (if (cmdS s c w).1 = true then 1 else 0), I1) ∧ RowR (I1 (k+3)) (cmdS s c w).2 ∧ OkS (cmdS s c w).2 ∧ McC I1 k ∧ Cr I I1 k (k+3) := by
  have r5 := n5_of hR
  have hn8 := n8_of hO
  have hu := uw_of N hO hR
  have hnI : ∀ j : Nat, j < 10 → (zI (c : Int) = nI j) = (c = j) := fun j hj => by
    rw [nI_z, z_eq (by omega) (by omega) (by omega) (by omega)]
    exact propext ⟨fun q => by omega, fun q => by omega⟩
  have hw0 : (zI (w : Int) = (0 : Int32)) = (w = 0) := by
    rw [l_0, z_eq (by omega) (by omega) (by omega) (by omega)]
    exact propext ⟨fun q => by omega, fun q => by omega⟩
  have hci : ∀ j : Nat, ((c : Int) = (j : Int)) = (c = j) := fun j => propext ⟨fun q => by omega, fun q => by omega⟩
  unfold f7_command cmdS
  simp only [hw0]
  simp only [hnI 1 (by omega), hnI 2 (by omega), hnI 3 (by omega), hnI 4 (by omega), hnI 5 (by omega), hnI 6 (by omega)]
  have k1 := hci 1
  have k2 := hci 2
  have k3 := hci 3
  have k4 := hci 4
  have k5 := hci 5
  have k6 := hci 6
  have kw : ((w : Int) = 0) = (w = 0) := propext ⟨fun q => by omega, fun q => by omega⟩
  rw [show (((1 : Nat) : Int)) = 1 from rfl] at k1
  rw [show (((2 : Nat) : Int)) = 2 from rfl] at k2
  rw [show (((3 : Nat) : Int)) = 3 from rfl] at k3
  rw [show (((4 : Nat) : Int)) = 4 from rfl] at k4
  rw [show (((5 : Nat) : Int)) = 5 from rfl] at k5
  rw [show (((6 : Nat) : Int)) = 6 from rfl] at k6
  simp only [k1, k2, k3, k4, k5, k6, kw, Int.toNat_natCast]
  by_cases c1 : c = 1
  · simp only [if_pos c1]
    by_cases cw : w = 0
    · simp only [if_pos cw]
      exact ⟨I, rfl, hR, hO, hC, Cr.rf⟩
    · simp only [if_neg cw]
      by_cases hn : nS s = 0
      · simp only [if_pos hn]
        refine ⟨I, ?_, hR, hO, hC, Cr.rf⟩
        rw [r5, hn]
        rfl
      · simp only [if_neg hn]
        obtain ⟨I1, t1, t2, t3, t4⟩ := e7_cmd_58 (N := N) (k := k) (w := w) (zI (c : Int)) hN (by omega) w 0 N (zI 0) BIG I s (by omega) (by omega) (mu_BIG hO) hC hO hR
        refine ⟨I1, ?_, t2, runS_ok _ _ _ hO, t3, t4⟩
        have e0 : ¬ (zI (nS s : Int) = (0 : Int32)) := by rw [l_0, z_eq (by omega) (by omega) (by omega) (by omega)]; omega
        rw [r5]
        simp only [if_neg e0]
        exact t1
  · simp only [if_neg c1]
    by_cases c2 : c = 2
    · simp only [if_pos c2]
      by_cases cw : w = 0
      · simp only [if_pos cw]
        exact ⟨I, rfl, hR, hO, hC, Cr.rf⟩
      · simp only [if_neg cw]
        exact ⟨st I (k+3) 1 (zI (w : Int)), rfl, row_setV hR rfl, ok_setV hO (by omega) (by omega), hC.row (st_k (by omega)) (st_k (by omega)), Cr.st (by omega)⟩
    · simp only [if_neg c2]
      by_cases c3 : c = 3
      · simp only [if_pos c3]
        by_cases cw : w = 0
        · subst cw
          simp only [ite_true, show (((0 : Nat) : Int) ≠ 0) = False from eq_false (by omega), ite_false]
          by_cases cm : sM s = 0
          · simp only [if_pos cm]
            rw [if_pos cm] at hu
            refine ⟨I, ?_, hR, hO, hC, Cr.rf⟩
            rw [hu]
            rfl
          · simp only [if_neg cm]
            rw [if_neg cm] at hu
            obtain ⟨I1, t1, t2, t3⟩ := e7_stopIn (N := N) (by omega) hO cm hR
            refine ⟨I1, ?_, t2, ok_stopS hO cm, hC.row (t3 k (by omega)) (t3 (k+8) (by omega)), cr_of t3 (by omega)⟩
            rw [hu]
            simp only [clP_s]
            have e0 : ¬ (zI 1 = (0 : Int32)) := by decide
            simp only [if_neg e0, t1, clP_s]
            rfl
        · simp only [if_neg cw, show ((w : Int) ≠ 0) = True from eq_true (by omega), ite_true]
          exact ⟨I, rfl, hR, hO, hC, Cr.rf⟩
      · simp only [if_neg c3]
        by_cases c4 : c = 4
        · simp only [if_pos c4]
          refine ⟨I, ?_, hR, hO, hC, Cr.rf⟩
          have r2 : I (k+3) 2 = sX s := by
            obtain ⟨a, v, x, y, t, n, d, m, i, l⟩ := s
            exact hR.2.2.1
          rw [r2]
          by_cases cx : sX s = zI (w : Int)
          · rw [if_pos cx, if_pos (by rw [decide_eq_true_eq]; exact cx)]; rfl
          · rw [if_neg cx, if_neg (by rw [decide_eq_true_eq]; exact cx)]; rfl
        · simp only [if_neg c4]
          by_cases c5 : c = 5
          · simp only [if_pos c5]
            refine ⟨I, ?_, hR, hO, hC, Cr.rf⟩
            have r7 : I (k+3) 7 = zI (if sM s = 0 then -9 else (sI s : Int)) := by
              obtain ⟨a, v, x, y, t, n, d, m, i, l⟩ := s
              exact hR.2.2.2.2.2.2.2.1
            have hil : sI s ≤ 999 := by
              obtain ⟨a, v, x, y, t, n, d, m, i, l⟩ := s
              obtain ⟨o1, o2, o3, o4, o5, o6, o7, o8⟩ := hO
              show i ≤ 999
              rcases Nat.eq_zero_or_pos m with q | q
              · have := o7 q; omega
              · obtain ⟨b1, b2, b3, b4, b5⟩ := o8 q
                have := lenI_pos (o6 0 b1) b2
                omega
            by_cases cm : sM s = 0
            · rw [if_pos cm] at hu
              rw [hu]
              simp only [clP_s, if_pos, cm]
              rfl
            · rw [if_neg cm] at hu r7
              rw [hu]
              simp only [clP_s]
              have e0 : ¬ (zI 1 = (0 : Int32)) := by decide
              rw [r7]
              simp only [if_neg e0]
              by_cases cx : (sI s : Int) = (w : Int)
              · have e3 : zI (sI s : Int) = zI (w : Int) := by rw [cx]
                have e4 : decide (sM s ≠ 0 ∧ (sI s : Int) = (w : Int)) = true := by rw [decide_eq_true_eq]; exact ⟨cm, cx⟩
                simp only [if_pos e3, if_pos e4]; rfl
              · have e3 : ¬ (zI (sI s : Int) = zI (w : Int)) := by rw [z_eq (by omega) (by omega) (by omega) (by omega)]; exact cx
                have e4 : ¬ (decide (sM s ≠ 0 ∧ (sI s : Int) = (w : Int)) = true) := by rw [decide_eq_true_eq]; exact fun q => cx q.2
                simp only [if_neg e3, if_neg e4]; rfl
          · simp only [if_neg c5]
            by_cases c6 : c = 6
            · simp only [if_pos c6]
              refine ⟨I, ?_, hR, hO, hC, Cr.rf⟩
              rw [r5]
              by_cases cx : (nS s : Int) = (w : Int)
              · have e3 : zI (nS s : Int) = zI (w : Int) := by rw [cx]
                have e4 : decide ((nS s : Int) = (w : Int)) = true := by rw [decide_eq_true_eq]; exact cx
                have e5 : ¬ ((10 : Int32) ≤ zI (w : Int)) := by rw [l_10, z_le (by omega) (by omega) (by omega) (by omega)]; omega
                simp only [if_pos e3, if_pos e4, if_neg e5]; rfl
              · have e3 : ¬ (zI (nS s : Int) = zI (w : Int)) := by rw [z_eq (by omega) (by omega) (by omega) (by omega)]; exact cx
                have e4 : ¬ (decide ((nS s : Int) = (w : Int)) = true) := by rw [decide_eq_true_eq]; exact cx
                by_cases ct : (10 : Int32) ≤ zI (w : Int)
                · simp only [if_neg e3, if_neg e4, if_pos ct]; rfl
                · simp only [if_neg e3, if_neg e4, if_neg ct]; rfl
            · simp only [if_neg c6]
              exact ⟨I, rfl, hR, hO, hC, Cr.rf⟩
