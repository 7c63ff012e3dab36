theorem e7_great_A {N : Nat} {k : Nat} {w : Int} {g : GS} (hN : 8100 ≤ N) (hG : OkG g) (hw1 : 1 ≤ w) (hw2 : w ≤ 99999) : ∀ (l cnt : Nat) (I : Mem), l ≤ 999 → l < cnt → MInv I k g →
    ∃ I1, f7_greatestLength_19 N k (zI w) cnt I (zI (l : Int)) = some (zI (grtL (sA (sG g)) (sV (sG g)) w l), I1) ∧ MInv I1 k g ∧ ∀ x, x < k → I1 x = I x := by
  have ho : 1 ≤ sA (sG g) ∧ sA (sG g) ≤ 999 ∧ 1 ≤ sV (sG g) ∧ sV (sG g) ≤ 999 := by
    have hO := hG.S
    obtain ⟨tl, tx, ⟨a, v, x, y, t, n, d, m, i, l⟩, hc, he, hh, sv⟩ := g
    exact ⟨hO.1, hO.2.1, hO.2.2.1, hO.2.2.2.1⟩
  intro l
  induction l with
  | zero =>
    intro cnt I h1 h2 h
    obtain ⟨cnt, rfl⟩ : ∃ x, cnt = x + 1 := ⟨cnt - 1, by omega⟩
    refine ⟨I, ?_, h, fun _ _ => rfl⟩
    rw [f7_greatestLength_19]
    simp (disch := omega) only [letM_s, clP_s, clM_s, l_m89910, l_m999, l_m9, l_m4, l_m3, l_m2, l_m1, l_0, l_1, l_2, l_3, l_4, l_5, l_6, l_7, l_8, l_9, l_10, l_11, l_12, l_13, l_14, l_18, l_31, l_32, l_33, l_43, l_45, l_48, l_57, l_64, l_66, l_80, l_97, l_100, l_109, l_118, l_119, l_200, l_255, l_462, l_500, l_676, l_999, l_1000, l_1001, l_9999, l_10000, l_99999, l_100000, l_447214, l_1000000000, m_m999, m_m9, m_0, m_1, m_2, m_4, m_9, m_255, m_500, m_999, m_9999, m_10000, m_99999, m_200000000, m_4294967295, m_1442695040888963407, m_6364136223846793005, z_add, z_sub, z_mul, z_neg, y_add, y_sub, y_mul, y_neg, z_toL, y_toI, cmp_lt, cmp_gt, cmp_le, cmp_ge, z_lt, z_le, z_eq, y_lt, y_le, y_eq, if_pos, if_neg, ite_true, ite_false]
    rfl
  | succ l ih => sorry
