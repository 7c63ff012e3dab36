/-! THE SET-UP TEXT: what is read where, and the class' readers -/
def chT (tl : Nat) (tx : Nat → Int) (p : Nat) : Int := if p < tl then tx p else -9
def dgT (tl : Nat) (tx : Nat → Int) : Nat → Nat → Int → Option Int × Nat
  | 0, p, v => (some v, p)
  | d+1, p, v => if 48 ≤ chT tl tx p ∧ chT tl tx p ≤ 57 then dgT tl tx d (p + 1) (10 * v + (chT tl tx p - 48)) else (none, p)
/-- a number of d digits, least at least -/
def nmT (tl : Nat) (tx : Nat → Int) (d : Nat) (least : Int) (p : Nat) : Option Int × Nat :=
  match dgT tl tx d p 0 with
  | (some v, q) => if least ≤ v then (some v, q) else (none, q - 1)
  | (none, q) => (none, q)
/-- a distance: a sign and three digits -/
def dsT (tl : Nat) (tx : Nat → Int) (least : Int) (p : Nat) : Option Int × Nat :=
  if chT tl tx p = 43 then nmT tl tx 3 least (p + 1)
  else if chT tl tx p = 45 then (match nmT tl tx 3 least (p + 1) with | (some v, q) => (some (-v), q) | (none, q) => (none, q))
  else (none, p)
def OkT (tl : Nat) (tx : Nat → Int) : Prop := tl ≤ 80 ∧ ∀ j, j < tl → 0 ≤ tx j ∧ tx j ≤ 255
theorem chT_bd {tl : Nat} {tx : Nat → Int} (h : OkT tl tx) (p : Nat) : -9 ≤ chT tl tx p ∧ chT tl tx p ≤ 255 ∧ (0 ≤ chT tl tx p → p < tl) := by
  unfold chT
  by_cases c : p < tl
  · rw [if_pos c]
    have := h.2 p c
    exact ⟨by omega, by omega, fun _ => c⟩
  · rw [if_neg c]
    exact ⟨by omega, by omega, fun q => by omega⟩
theorem dgT_bd {tl : Nat} {tx : Nat → Int} (h : OkT tl tx) : ∀ (d p : Nat) (v : Int) (B : Nat), 0 ≤ v → v < B → p ≤ tl → p ≤ (dgT tl tx d p v).2 ∧ (dgT tl tx d p v).2 ≤ tl ∧ (dgT tl tx d p v).2 ≤ p + d ∧ ∀ w, (dgT tl tx d p v).1 = some w → 0 ≤ w ∧ w < ((B * 10 ^ d : Nat) : Int) ∧ (dgT tl tx d p v).2 = p + d := by
  intro d
  induction d with
  | zero =>
    intro p v B h1 h2 h3
    refine ⟨Nat.le_refl _, h3, Nat.le_refl _, fun w hw => ?_⟩
    have hw : some v = some w := hw
    cases hw
    rw [Nat.pow_zero, Nat.mul_one]
    exact ⟨h1, h2, rfl⟩
  | succ d ih =>
    intro p v B h1 h2 h3
    rw [dgT]
    by_cases c : 48 ≤ chT tl tx p ∧ chT tl tx p ≤ 57
    · rw [if_pos c]
      have hb := (chT_bd h p).2.2 (by omega)
      obtain ⟨i1, i2, i3, i4⟩ := ih (p + 1) (10 * v + (chT tl tx p - 48)) (B * 10) (by omega) (by omega) (by omega)
      refine ⟨by omega, i2, by omega, fun w hw => ?_⟩
      obtain ⟨j1, j2, j3⟩ := i4 w hw
      refine ⟨j1, ?_, by omega⟩
      rw [show 10 ^ (d + 1) = 10 * 10 ^ d from by rw [Nat.pow_succ, Nat.mul_comm], ← Nat.mul_assoc]
      exact j2
    · rw [if_neg c]
      exact ⟨Nat.le_refl _, h3, by omega, fun w hw => by cases hw⟩
/-- the class keeps its first fault -/
def flt (F : Int32) (q : Nat) : Int32 := if F = zI (-9) then zI (q : Int) else F
theorem flt_k {F : Int32} {q : Nat} (h : F ≠ zI (-9)) : flt F q = F := if_neg h
theorem flt_ne {F : Int32} {q : Nat} (hq : q ≤ 100000) : flt F q ≠ zI (-9) := by
  unfold flt
  by_cases c : F = zI (-9)
  · rw [if_pos c, Ne, z_eq (by omega) (by omega) (by omega) (by omega)]
    omega
  · rw [if_neg c]; exact c
def TxR (I : Mem) (k tl : Nat) (tx : Nat → Int) (p : Nat) (F : Int32) : Prop := I k 1 = zI (tl : Int) ∧ I k 2 = zI (p : Int) ∧ I k 3 = F ∧ ∀ j, j < tl → I (k+1) j = zI (tx j)
theorem e4_present (N : Nat) {I : Mem} {k tl p : Nat} {tx : Nat → Int} {F : Int32} (hT : OkT tl tx) (hp : p ≤ tl) (h : TxR I k tl tx p F) : f4_present N I k = some (zI (chT tl tx p), I) := by
  obtain ⟨h1, h2, h3, h4⟩ := h
  have ht := hT.1
  have n1 : (zI (p : Int)).toNatClampNeg = p := by rw [z_nat (by omega) (by omega)]; rfl
  unfold f4_present chT
  rw [h1, h2]
  by_cases c : p < tl
  · rw [if_pos c]
    have e := h4 p c
    simp (disch := omega) only [n1, e, letM_s, clP_s, clM_s, l_m89910, l_m999, l_m9, l_m4, l_m3, l_m2, l_m1, l_0, l_1, l_2, l_3, l_4, l_5, l_6, l_7, l_8, l_9, l_10, l_11, l_12, l_13, l_14, l_18, l_31, l_32, l_33, l_43, l_45, l_48, l_57, l_64, l_66, l_80, l_97, l_100, l_109, l_118, l_119, l_200, l_255, l_462, l_500, l_676, l_999, l_1000, l_1001, l_9999, l_10000, l_99999, l_100000, l_447214, l_1000000000, m_m999, m_m9, m_0, m_1, m_2, m_4, m_9, m_255, m_500, m_999, m_9999, m_10000, m_99999, m_200000000, m_4294967295, m_1442695040888963407, m_6364136223846793005, z_add, z_sub, z_mul, z_neg, y_add, y_sub, y_mul, y_neg, z_toL, y_toI, cmp_lt, cmp_gt, cmp_le, cmp_ge, z_lt, z_le, z_eq, y_lt, y_le, y_eq, if_pos, if_neg, ite_true, ite_false, or_false, false_or, if_false]
  · rw [if_neg c]
    simp (disch := omega) only [letM_s, clP_s, clM_s, l_m89910, l_m999, l_m9, l_m4, l_m3, l_m2, l_m1, l_0, l_1, l_2, l_3, l_4, l_5, l_6, l_7, l_8, l_9, l_10, l_11, l_12, l_13, l_14, l_18, l_31, l_32, l_33, l_43, l_45, l_48, l_57, l_64, l_66, l_80, l_97, l_100, l_109, l_118, l_119, l_200, l_255, l_462, l_500, l_676, l_999, l_1000, l_1001, l_9999, l_10000, l_99999, l_100000, l_447214, l_1000000000, m_m999, m_m9, m_0, m_1, m_2, m_4, m_9, m_255, m_500, m_999, m_9999, m_10000, m_99999, m_200000000, m_4294967295, m_1442695040888963407, m_6364136223846793005, z_add, z_sub, z_mul, z_neg, y_add, y_sub, y_mul, y_neg, z_toL, y_toI, cmp_lt, cmp_gt, cmp_le, cmp_ge, z_lt, z_le, z_eq, y_lt, y_le, y_eq, if_pos, if_neg, ite_true, ite_false]
theorem e4_fail (N : Nat) {I : Mem} {k tl p q : Nat} {tx : Nat → Int} {F : Int32} (h : TxR I k tl tx p F) : ∃ I1, f4_failAt N I k (zI (q : Int)) = some I1 ∧ TxR I1 k tl tx p (flt F q) ∧ ∀ x, x ≠ k → I1 x = I x := by
  obtain ⟨h1, h2, h3, h4⟩ := h
  unfold f4_failAt flt
  rw [h3, l_m9]
  by_cases c : F = zI (-9)
  · rw [if_pos c, if_pos c]
    exact ⟨st I k 3 (zI (q : Int)), rfl, ⟨by rw [st_j (by omega)]; exact h1, by rw [st_j (by omega)]; exact h2, st_s _ _ _ _, fun j hj => by rw [st_k (by omega)]; exact h4 j hj⟩, fun x hx => st_k hx⟩
  · rw [if_neg c, if_neg c]
    exact ⟨I, rfl, ⟨h1, h2, h3, h4⟩, fun _ _ => rfl⟩
theorem TxR.adv {I : Mem} {k tl p : Nat} {tx : Nat → Int} {F : Int32} (h : TxR I k tl tx p F) : TxR (st I k 2 (zI ((p + 1 : Nat) : Int))) k tl tx (p + 1) F := by
  obtain ⟨h1, h2, h3, h4⟩ := h
  exact ⟨by rw [st_j (by omega)]; exact h1, st_s _ _ _ _, by rw [st_j (by omega)]; exact h3, fun j hj => by rw [st_k (by omega)]; exact h4 j hj⟩
theorem e4_letter (N : Nat) {I : Mem} {k tl p : Nat} {tx : Nat → Int} {F : Int32} {c : Int} (hc1 : 0 ≤ c) (hc2 : c ≤ 255) (hT : OkT tl tx) (hp : p ≤ tl) (h : TxR I k tl tx p F) : ∃ I1, f4_takeLetter N I k (zI c) = some I1 ∧ (if chT tl tx p = c then TxR I1 k tl tx (p + 1) F ∧ p + 1 ≤ tl else TxR I1 k tl tx p (flt F p)) ∧ ∀ x, x ≠ k → I1 x = I x := by
  have e1 := e4_present N hT hp h
  have hb := chT_bd hT p
  have ht := hT.1
  have h2 := h.2.1
  generalize chT tl tx p = C at *
  by_cases q : C = c
  · simp only [if_pos q]
    refine ⟨_, ?_, ⟨h.adv, by have := hb.2.2 (by omega); omega⟩, fun x hx => st_k hx⟩
    unfold f4_takeLetter
    simp (disch := omega) only [e1, clP_s, z_eq, if_pos, h2, l_1, z_add, letM_s]
    rfl
  · simp only [if_neg q]
    obtain ⟨I1, q1, q2, q3⟩ := e4_fail N (q := p) h
    refine ⟨I1, ?_, q2, q3⟩
    unfold f4_takeLetter
    simp (disch := omega) only [e1, clP_s, z_eq, if_neg, h2, q1, clM_s]
theorem e4_digits_4 (N : Nat) {k D tl : Nat} {tx : Nat → Int} {F : Int32} (hT : OkT tl tx) (hD : D ≤ 4) : ∀ (d cnt : Nat) (I : Mem) (p : Nat) (v : Int), d ≤ D → d < cnt → p ≤ tl → 0 ≤ v → v < ((10 ^ (D - d) : Nat) : Int) → TxR I k tl tx p F →
    ∃ I1 w, f4_takeDigits_4 N k (zI (D : Int)) cnt I (zI v) (zI ((D - d : Nat) : Int)) = some (zI w, I1) ∧ (match dgT tl tx d p v with | (some u, q) => w = u ∧ TxR I1 k tl tx q F | (none, q) => w = 0 ∧ TxR I1 k tl tx q (flt F q)) ∧ ∀ x, x ≠ k → I1 x = I x := by
  intro d
  induction d with
  | zero =>
    intro cnt I p v h1 h2 hp h3 h4 h
    obtain ⟨cnt, rfl⟩ : ∃ x, cnt = x + 1 := ⟨cnt - 1, by omega⟩
    refine ⟨I, v, ?_, ⟨rfl, h⟩, fun _ _ => rfl⟩
    rw [f4_takeDigits_4]
    simp (disch := omega) only [z_le, if_pos]
  | succ d ih =>
    intro cnt I p v h1 h2 hp h3 h4 h
    obtain ⟨cnt, rfl⟩ : ∃ x, cnt = x + 1 := ⟨cnt - 1, by omega⟩
    have e1 := e4_present N hT hp h
    have hb := chT_bd hT p
    have hx2 := h.2.1
    have ht := hT.1
    rw [dgT]
    have hpow : 10 ^ (D - d) = 10 * 10 ^ (D - (d + 1)) := by
      rw [show D - d = D - (d + 1) + 1 by omega, Nat.pow_succ, Nat.mul_comm]
    have hps : 10 ^ (D - (d + 1)) ≤ 10 ^ 4 := Nat.pow_le_pow_right (by omega) (by omega)
    generalize hP : 10 ^ (D - (d + 1)) = P at *
    by_cases c : 48 ≤ chT tl tx p ∧ chT tl tx p ≤ 57
    · rw [if_pos c]
      obtain ⟨I1, w, q1, q2, q3⟩ := ih cnt (st I k 2 (zI ((p + 1 : Nat) : Int))) (p + 1) (10 * v + (chT tl tx p - 48)) (by omega) (by omega) (by have := hb.2.2 (by omega); omega) (by omega) (by rw [hpow]; omega) h.adv
      refine ⟨I1, w, ?_, q2, fun x hx => by rw [q3 x hx, st_k hx]⟩
      rw [← q1, f4_takeDigits_4]
      generalize chT tl tx p = C at *
      simp (disch := omega) only [e1, clP_s, z_le, z_lt, if_neg, if_pos, hx2, l_1, l_10, l_48, l_57, z_add, z_sub, z_mul, letM_s]
      rw [show v * 10 + (C - 48) = 10 * v + (C - 48) by omega, show ((D - (d + 1) : Nat) : Int) + 1 = ((D - d : Nat) : Int) by omega]
      rfl
    · rw [if_neg c]
      obtain ⟨I1, q1, q2, q3⟩ := e4_fail N (q := p) h
      refine ⟨I1, 0, ?_, ⟨rfl, q2⟩, q3⟩
      rw [f4_takeDigits_4]
      generalize chT tl tx p = C at *
      by_cases c1 : C < 48
      · simp (disch := omega) only [e1, clP_s, z_le, z_lt, if_neg, if_pos, hx2, l_0, l_1, l_10, l_48, l_57, q1, clM_s]
      · simp (disch := omega) only [e1, clP_s, z_le, z_lt, if_neg, if_pos, hx2, l_0, l_1, l_10, l_48, l_57, q1, clM_s]
theorem e4_digits {N : Nat} {k D tl p : Nat} {tx : Nat → Int} {F : Int32} {I : Mem} (hN : 100 ≤ N) (hT : OkT tl tx) (hD : D ≤ 4) (hp : p ≤ tl) (h : TxR I k tl tx p F) :
    ∃ I1 w, f4_takeDigits N I k (zI (D : Int)) = some (zI w, I1) ∧ (match dgT tl tx D p 0 with | (some u, q) => w = u ∧ TxR I1 k tl tx q F | (none, q) => w = 0 ∧ TxR I1 k tl tx q (flt F q)) ∧ ∀ x, x ≠ k → I1 x = I x := by
  obtain ⟨I1, w, q1, q2, q3⟩ := e4_digits_4 N (k := k) (F := F) hT hD D N I p 0 (Nat.le_refl _) (by omega) hp (Int.le_refl _) (by rw [Nat.sub_self]; decide) h
  refine ⟨I1, w, ?_, q2, q3⟩
  rw [Nat.sub_self] at q1
  exact q1
/-- a positive number: the class goes on behind its fault -/
theorem e4_pos {N : Nat} {k D tl p : Nat} {tx : Nat → Int} {F : Int32} {I : Mem} (hN : 100 ≤ N) (hT : OkT tl tx) (hD : D ≤ 4) (hD1 : 1 ≤ D) (hp : p ≤ tl) (h : TxR I k tl tx p F) :
    ∃ I1 w p', f4_takePositive N I k (zI (D : Int)) = some (zI w, I1) ∧ (match nmT tl tx D 1 p with | (some u, q) => w = u ∧ p' = q ∧ TxR I1 k tl tx p' F | (none, q) => w = 0 ∧ TxR I1 k tl tx p' (flt F q)) ∧ p' ≤ tl ∧ (∀ x, x ≠ k → I1 x = I x) := by
  obtain ⟨I1, w, q1, q2, q3⟩ := e4_digits (N := N) hN hT hD hp h
  obtain ⟨b1, b2, b3, b4⟩ := dgT_bd hT D p 0 1 (by omega) (by omega) hp
  have ht := hT.1
  have hps : 10 ^ D ≤ 10 ^ 4 := Nat.pow_le_pow_right (by omega) hD
  unfold nmT
  generalize dgT tl tx D p 0 = r at *
  obtain ⟨o, q⟩ := r
  have b2 : q ≤ tl := b2
  cases o with
  | none =>
    obtain ⟨w0, hx⟩ := q2
    subst w0
    obtain ⟨I2, u1, u2, u3⟩ := e4_fail N (q := q - 1) hx
    have hf : flt (flt F q) (q - 1) = flt F q := flt_k (flt_ne (by omega))
    rw [hf] at u2
    refine ⟨I2, 0, q, ?_, ⟨rfl, u2⟩, b2, fun x hx => by rw [u3 x hx, q3 x hx]⟩
    have hx2 := hx.2.1
    unfold f4_takePositive
    by_cases cq : q = 0
    · -- the fault stands already
      have hx3 : I1 k 3 = flt F q := hx.2.2.1
      have hne : ¬ flt F q = zI (-9) := flt_ne (by omega)
      have ef : ∀ z : Int32, f4_failAt N I1 k z = some I1 := fun z => by
        unfold f4_failAt
        rw [hx3, l_m9, if_neg hne]
      have e2 : some I2 = some I1 := by rw [← u1]; exact ef _
      cases e2
      rw [q1, l_0]
      simp only [clP_s, if_true, ef, clM_s]
    · rw [q1, l_0, l_1]
      simp only [clP_s, if_true, hx2, z_sub, show (q : Int) - 1 = ((q - 1 : Nat) : Int) by omega, u1, clM_s]
  | some u =>
    obtain ⟨w0, hx⟩ := q2
    subst w0
    obtain ⟨j1, j2, j3⟩ := b4 w rfl
    have j3 : q = p + D := j3
    have j2 : w < 10000 := by rw [Nat.one_mul] at j2; omega
    have hx2 := hx.2.1
    by_cases c : 1 ≤ w
    · simp only [if_pos c]
      refine ⟨I1, w, q, ?_, ⟨rfl, rfl, hx⟩, b2, q3⟩
      unfold f4_takePositive
      rw [q1, l_0]
      simp (disch := omega) only [clP_s, z_eq, if_neg]
    · simp only [if_neg c]
      have hw : w = 0 := by omega
      subst hw
      obtain ⟨I2, u1, u2, u3⟩ := e4_fail N (q := q - 1) hx
      refine ⟨I2, 0, q, ?_, ⟨rfl, u2⟩, b2, fun x hx => by rw [u3 x hx, q3 x hx]⟩
      unfold f4_takePositive
      rw [q1, l_0, l_1]
      simp only [clP_s, if_true, hx2, z_sub, show (q : Int) - 1 = ((q - 1 : Nat) : Int) by omega, u1, clM_s]
