/-! THE CLASS AS A WHOLE: what it holds; its history -/
def CInv (I : Mem) (k : Nat) : GS → Prop
  | (tl, tx, s, hc, he, hh, sv) => I (k+1) 1 = zI (tl : Int) ∧ (∀ j, j < tl → I (k+2) j = zI (tx j)) ∧ StR I (k+3) s ∧ I (k+11) 1 = zI (he : Int) ∧ I (k+11) 2 = zI (hc : Int) ∧ (∀ i, i < hc → StR I (k+13+4*((he-1-i)%14)) (hh i)) ∧ (∀ b, b < 2 → (sv b = none → I (k+69+5*b) 1 = zI 0) ∧ ∀ z, sv b = some z → I (k+69+5*b) 1 = zI 1 ∧ StR I (k+70+5*b) z) ∧ RmI I (k+79)
theorem CInv.now {I : Mem} {k : Nat} {g : GS} (h : CInv I k g) : StR I (k+3) (sG g) := h.2.2.1
theorem CInv.R {I : Mem} {k : Nat} {g : GS} (h : CInv I k g) : RmI I (k+79) := h.2.2.2.2.2.2.2
theorem CInv.set {I I1 : Mem} {k : Nat} {g : GS} {s : Sg} (h : CInv I k g) (hx : ∀ x, (x < k+3 ∨ k+10 < x) → x ≠ k+79 → x ≠ k+80 → I1 x = I x) (hS : StR I1 (k+3) s) (hR : RmI I1 (k+79)) : CInv I1 k (setG g s) := by
  obtain ⟨tl, tx, s0, hc, he, hh, sv⟩ := g
  obtain ⟨h1, h2, h3, h4, h5, h6, h7, h8⟩ := h
  refine ⟨by rw [hx _ (by omega) (by omega) (by omega)]; exact h1, fun j hj => by rw [hx _ (by omega) (by omega) (by omega)]; exact h2 j hj, hS, by rw [hx _ (by omega) (by omega) (by omega)]; exact h4, by rw [hx _ (by omega) (by omega) (by omega)]; exact h5, fun i hi => (h6 i hi).fr (fun x a b => hx x (by omega) (by omega) (by omega)), fun b hb => ?_, hR⟩
  have hb2 : b = 0 ∨ b = 1 := by omega
  rw [hx (k+69+5*b) (by omega) (by omega) (by omega)]
  exact ⟨(h7 b hb).1, fun z hz => ⟨((h7 b hb).2 z hz).1, ((h7 b hb).2 z hz).2.fr (fun x p q => hx x (by omega) (by omega) (by omega))⟩⟩
/-- scratch cells and the ramp may change -/
theorem CInv.scr {I I1 : Mem} {k : Nat} {g : GS} (h : CInv I k g) (hx : ∀ x, (x < k+7 ∨ k+10 < x) → x ≠ k+79 → x ≠ k+80 → I1 x = I x) (hR : RmI I1 (k+79)) : CInv I1 k g := by
  have := h.set (I1 := I1) (s := sG g) (fun x a b c => hx x (by omega) b c) (h.now.fr (fun x a b => hx x (by omega) (by omega) (by omega))) hR
  rw [setG_self] at this
  exact this
theorem z_xor {a b : Nat} (ha : a < 2147483648) (hb : b < 2147483648) : (0 : Int32) ≤ (zI (a : Int) ^^^ zI (b : Int)) := by
  have m : ∀ c : Nat, c < 2147483648 → (zI (c : Int)).toBitVec.msb = false := by
    intro c hc
    rw [BitVec.msb_eq_toInt]
    have : (zI (c : Int)).toInt = c := by
      show (Int32.ofInt (c : Int)).toInt = c
      exact Int32.toInt_ofInt_of_le (by omega) (by omega)
    rw [show (zI (c : Int)).toBitVec.toInt = (zI (c : Int)).toInt from rfl, this]
    exact decide_eq_false (by omega)
  have h : (zI (a : Int) ^^^ zI (b : Int)).toBitVec.msb = false := by
    rw [Int32.toBitVec_xor, BitVec.msb_xor, m a ha, m b hb]
    rfl
  rw [Int32.le_iff_toInt_le]
  rw [BitVec.msb_eq_toInt] at h
  have h2 := of_decide_eq_false h
  show (0 : Int) ≤ (zI (a : Int) ^^^ zI (b : Int)).toBitVec.toInt
  omega
theorem e0_at (N : Nat) {I : Mem} {kk e : Nat} (he : e < 2147483648) : f0_at N I kk (zI (e : Int)) = some (kk + 1 + 1 + 4 * (e % 14), I) := by
  have h1 := z_xor (a := e) (b := 14) he (by omega)
  have h2 : zI (e : Int) / zI ((14 : Nat) : Int) = zI ((e / 14 : Nat) : Int) := z_divN he (by omega)
  have h3 : zI (e : Int) - zI ((e / 14 : Nat) : Int) * zI ((14 : Nat) : Int) = zI ((e % 14 : Nat) : Int) := by
    rw [z_mul, z_sub, show (e : Int) - ((e / 14 : Nat) : Int) * ((14 : Nat) : Int) = ((e % 14 : Nat) : Int) by omega]
  have h4 : ¬ zI ((14 : Nat) : Int) = zI 0 := by decide
  have hm : e % 14 < 14 := Nat.mod_lt _ (by omega)
  generalize e % 14 = p at *
  have n1 : (zI (p : Int)).toNatClampNeg = p := by rw [z_nat (by omega) (by omega)]; rfl
  have e1 : fJ9_floorMod_7cf53 N I (zI (e : Int)) (zI ((14 : Nat) : Int)) = some (zI (p : Int), I) := by
    unfold fJ9_floorMod_7cf53
    rw [l_0]
    rw [if_neg h4, h2, h3]
    simp only [letM_s]
    rw [if_pos (show zI 0 ≤ zI (e : Int) ^^^ zI ((14 : Nat) : Int) from h1)]
  unfold f0_at
  rw [l_14, show zI 14 = zI ((14 : Nat) : Int) from rfl, e1]
  simp (disch := omega) only [clP_s, l_0, z_lt, n1, if_neg]
theorem tag4 {k p : Nat} (hk : k = 0 ∨ k = 81) (hp : p < 14) : tag (k + 11 + 1 + 1 + 4 * p) = 4 := by
  have h : ∀ p, p < 14 → tag (0 + 11 + 1 + 1 + 4 * p) = 4 ∧ tag (81 + 11 + 1 + 1 + 4 * p) = 4 := by decide +kernel
  rcases hk with rfl | rfl
  · exact (h p hp).1
  · exact (h p hp).2
theorem e0_remember {N : Nat} {I : Mem} {k : Nat} {g : GS} (hN : 100 ≤ N) (hk : k = 0 ∨ k = 81) (hG : OkG g) (h : CInv I k g) : ∃ I1, f0_remember N I (k+11) (k+3) = some I1 ∧ CInv I1 k (remG g) ∧ ∀ x, (x < k ∨ k + 81 ≤ x) → I1 x = I x := by
  obtain ⟨tl, tx, s, hc, he, hh, sv⟩ := g
  obtain ⟨g1, g2, g3, g4, g5, g6, g7, g8⟩ := hG
  obtain ⟨h1, h2, h3, h4, h5, h6, h7, h8⟩ := h
  have h8' : nS s ≤ 8 := by
    obtain ⟨a, v, x, y, t, n, d, m, i, l⟩ := s
    exact g3.2.2.2.2.1
  have hp : he % 14 < 14 := Nat.mod_lt _ (by omega)
  obtain ⟨p, hpe⟩ : ∃ p, p = he % 14 := ⟨_, rfl⟩
  rw [← hpe] at hp
  obtain ⟨I2, q1, q2, q3⟩ := e5_become (N := N) (k0 := k + 11 + 1 + 1 + 4 * p) (k1 := k + 3) hN (by omega) h8' h3
  have e1 := e0_at N (I := I) (kk := k + 11) (e := he) (by omega)
  rw [← hpe] at e1
  obtain ⟨I3, hI3⟩ : ∃ I3, I3 = st (st I2 (k+11) 1 (zI ((he + 1 : Nat) : Int))) (k+11) 2 (zI ((min (hc + 1) 14 : Nat) : Int)) := ⟨_, rfl⟩
  have gx : ∀ x, x ≠ k + 11 → (x < k + 13 + 4 * p ∨ k + 13 + 4 * p + 3 < x) → I3 x = I x := fun x a b => by rw [hI3, st_k a, st_k a, q3 x (by omega)]
  have s11 : I2 (k+11) = I (k+11) := q3 _ (by omega)
  refine ⟨I3, ?_, ⟨by rw [gx _ (by omega) (by omega)]; exact h1, fun j hj => by rw [gx _ (by omega) (by omega)]; exact h2 j hj, h3.fr (fun x a b => gx x (by omega) (by omega)), by rw [hI3, st_j (by omega), st_s], by rw [hI3, st_s], fun i hi => ?_, fun b hb => ?_, h8.fr (gx _ (by omega) (by omega)) (gx _ (by omega) (by omega))⟩, fun x hx => gx x (by omega) (by omega)⟩
  · have s1 : st I2 (k+11) 1 (zI ((he : Int) + 1)) (k+11) 2 = zI (hc : Int) := by rw [st_j (by omega), s11]; exact h5
    have e2 := eJ_min N (st I2 (k+11) 1 (zI ((he : Int) + 1))) (a := (hc : Int) + 1) (b := 14) (by omega) (by omega) (by omega) (by omega)
    rw [show min ((hc : Int) + 1) 14 = ((min (hc + 1) 14 : Nat) : Int) by omega] at e2
    have uI : st (st I2 (k+11) 1 (zI ((he : Int) + 1))) (k+11) 2 (zI ((min (hc + 1) 14 : Nat) : Int)) = I3 := hI3.symm
    have t4 := tag4 hk hp
    unfold f0_remember
    rw [h4, e1, l_1, l_14]
    simp only [clP_s, t4, not_true, if_false, q1, clM_s, letM_s, s11, h4, z_add, s1, e2, uI]
  · have hi : i < min (hc + 1) 14 := hi
    show StR I3 (k+13+4*((he+1-1-i)%14)) (if i = 0 then s else hh (i - 1))
    by_cases ci : i = 0
    · subst ci
      rw [if_pos rfl, show (he + 1 - 1 - 0) % 14 = p by rw [hpe]; rfl]
      have q2' : StR I2 (k + 13 + 4 * p) s := q2
      exact q2'.fr (fun x a b => by rw [hI3, st_k (by omega), st_k (by omega)])
    · rw [if_neg ci]
      have q := h6 (i - 1) (by omega)
      rw [show he - 1 - (i - 1) = he + 1 - 1 - i by omega] at q
      exact q.fr (fun x a b => gx x (by omega) (by omega))
  · have hb2 : b = 0 ∨ b = 1 := by omega
    rw [gx (k+69+5*b) (by omega) (by omega)]
    exact ⟨(h7 b hb).1, fun z hz => ⟨((h7 b hb).2 z hz).1, ((h7 b hb).2 z hz).2.fr (fun x p q => gx x (by omega) (by omega))⟩⟩
theorem e0_takeBack {N : Nat} {I : Mem} {k : Nat} {g : GS} (hN : 100 ≤ N) (hk : k = 0 ∨ k = 81) (hG : OkG g) (h : CInv I k g) : ∃ I1, f0_takeBack N I (k+11) (k+3) = some (zI (if nHc g = 0 then 0 else 1), I1) ∧ CInv I1 k (if nHc g = 0 then g else undG g) ∧ ∀ x, (x < k ∨ k + 81 ≤ x) → I1 x = I x := by
  obtain ⟨tl, tx, s, hc, he, hh, sv⟩ := g
  obtain ⟨g1, g2, g3, g4, g5, g6, g7, g8⟩ := hG
  obtain ⟨h1, h2, h3, h4, h5, h6, h7, h8⟩ := id h
  show ∃ I1, _ = some (zI (if hc = 0 then 0 else 1), I1) ∧ CInv I1 k (if hc = 0 then _ else _) ∧ _
  by_cases c : hc = 0
  · rw [if_pos c, if_pos c]
    refine ⟨I, ?_, h, fun _ _ => rfl⟩
    subst c
    have h5' : I (k+11) 2 = zI 0 := h5
    unfold f0_takeBack
    rw [h5', l_0]
    simp (disch := omega) only [z_eq, if_pos, if_true]
  · rw [if_neg c, if_neg c]
    have hO := g7 0 (by omega)
    have h8' : nS (hh 0) ≤ 8 := by
      generalize hh 0 = s0 at hO
      obtain ⟨a, v, x, y, t, n, d, m, i, l⟩ := s0
      exact hO.2.2.2.2.1
    obtain ⟨I2, hI2⟩ : ∃ I2, I2 = st (st I (k+11) 2 (zI ((hc - 1 : Nat) : Int))) (k+11) 1 (zI ((he - 1 : Nat) : Int)) := ⟨_, rfl⟩
    have gx : ∀ x, x ≠ k + 11 → I2 x = I x := fun x a => by rw [hI2, st_k a, st_k a]
    have hp : (he - 1) % 14 < 14 := Nat.mod_lt _ (by omega)
    obtain ⟨p, hpe⟩ : ∃ p, p = (he - 1) % 14 := ⟨_, rfl⟩
    rw [← hpe] at hp
    have hs0 := h6 0 (by omega)
    rw [Nat.sub_zero, ← hpe] at hs0
    have hs2 : StR I2 (k + 11 + 1 + 1 + 4 * p) (hh 0) := (show StR I (k + 11 + 1 + 1 + 4 * p) (hh 0) from hs0).fr (fun x a b => gx x (by omega))
    obtain ⟨I3, q1, q2, q3⟩ := e5_become (N := N) (k0 := k + 3) (k1 := k + 11 + 1 + 1 + 4 * p) hN (by omega) h8' hs2
    have e1 := e0_at N (I := I2) (kk := k + 11) (e := he - 1) (by omega)
    rw [← hpe] at e1
    have fx : ∀ x, x ≠ k + 11 → (x < k + 3 ∨ k + 3 + 3 < x) → I3 x = I x := fun x a b => by rw [q3 x b, gx x a]
    have f11 : I3 (k+11) = I2 (k+11) := q3 _ (by omega)
    refine ⟨I3, ?_, ⟨by rw [fx _ (by omega) (by omega)]; exact h1, fun j hj => by rw [fx _ (by omega) (by omega)]; exact h2 j hj, q2, by rw [f11, hI2, st_s], by rw [f11, hI2, st_j (by omega), st_s], fun i hi => ?_, fun b hb => ?_, h8.fr (fx _ (by omega) (by omega)) (fx _ (by omega) (by omega))⟩, fun x hx => fx x (by omega) (by omega)⟩
    · have s1 : st I (k+11) 2 (zI ((hc : Int) - 1)) (k+11) 1 = zI (he : Int) := by rw [st_j (by omega)]; exact h4
      have uI : st (st I (k+11) 2 (zI ((hc : Int) - 1))) (k+11) 1 (zI ((he : Int) - 1)) = I2 := by
        rw [hI2, show (hc : Int) - 1 = ((hc - 1 : Nat) : Int) by omega, show (he : Int) - 1 = ((he - 1 : Nat) : Int) by omega]
      have s2 : I2 (k+11) 1 = zI ((he - 1 : Nat) : Int) := by rw [hI2, st_s]
      have t4 := tag4 hk hp
      unfold f0_takeBack
      rw [h5, l_0, l_1]
      simp (disch := omega) only [z_eq, if_neg, z_sub, letM_s, s1, uI, s2, e1, clP_s, t4, not_true, if_false, q1, clM_s]
    · have hi : i < hc - 1 := hi
      show StR I3 (k+13+4*((he-1-1-i)%14)) (hh (i + 1))
      have q := h6 (i + 1) (by omega)
      rw [show he - 1 - (i + 1) = he - 1 - 1 - i by omega] at q
      exact q.fr (fun x a b => fx x (by omega) (by omega))
    · have hb2 : b = 0 ∨ b = 1 := by omega
      rw [fx (k+69+5*b) (by omega) (by omega)]
      exact ⟨(h7 b hb).1, fun z hz => ⟨((h7 b hb).2 z hz).1, ((h7 b hb).2 z hz).2.fr (fun x p q => fx x (by omega) (by omega))⟩⟩
