/-! THE LAW'S WALK, pure -/
theorem lwBr {c : Prop} {d : Decidable c} {A B r : Option Int32} (h1 : c → A = r) (h2 : ¬ c → B = r) : @ite _ c d A B = r := by
  by_cases h : c
  · rw [if_pos h]; exact h1 h
  · rw [if_neg h]; exact h2 h
theorem lwGd {c : Prop} {d : Decidable c} {A B r : Option Int32} (h1 : ¬ c) (h2 : B = r) : @ite _ c d A B = r := by
  rw [if_neg h1]; exact h2
theorem lwEq {q : Int32} {d : Decidable (q = q)} {A B r : Option Int32} (h : A = r) : @ite _ (q = q) d A B = r := by
  rw [if_pos rfl]; exact h
theorem lwCl {a : Option (Int32 × Mem)} {q : Int32} {I : Mem} {f : Int32 → Mem → Option Int32} {r : Option Int32} (h : a = some (q, I)) (h2 : f q I = r) : clP a f = r := by
  rw [h, clP_s]; exact h2
theorem lwLt {α : Type} {x : α} {f : α → Option Int32} {r : Option Int32} (h : f x = r) : letM x f = r := h
theorem ex_lt {L i : Nat} (hL : L ≤ 2048) (hi : i ≤ 3000) : ((Int32.ofNat L) - (4 : Int32) < zI (i : Int)) = (L < i + 4) := by
  rw [← Int32.ofInt_eq_ofNat, l_4]
  show (zI (L : Int) - zI 4 < zI (i : Int)) = _
  rw [z_sub, z_lt (by omega) (by omega) (by omega) (by omega)]
  exact propext ⟨fun h => by omega, fun h => by omega⟩
theorem ex_gd {L i : Nat} {v : Int32} (j : Nat) (hv : v = zI ((i + j : Nat) : Int)) (hL : L ≤ 2048) (h : i + j < L) : ¬ (v < (0 : Int32) ∨ L ≤ v.toNatClampNeg) := by
  rw [hv, l_0, z_lt (by omega) (by omega) (by omega) (by omega), z_nat (by omega) (by omega)]
  omega
set_option maxHeartbeats 8000000 in
set_option maxRecDepth 100000 in
theorem law_walk {N : Nat} (hN : 8100 ≤ N) (xs : Nat → Int32) {L : Nat} (hL : L ≤ 2048) : ∀ (e i cnt : Nat) (I : Mem) (g : GS) (n : Nat), L ≤ i + 4 * e + 3 → e < cnt → i ≤ 2100 → n + e ≤ 5000 → Inv I g n → fL_law_18 N xs L cnt I (zI (i : Int)) = some 1 := by
  intro e
  induction e with
  | zero =>
    intro i cnt I g n h1 h2 h3 h4 hI
    obtain ⟨cnt, rfl⟩ : ∃ x, cnt = x + 1 := ⟨cnt - 1, by omega⟩
    rw [fL_law_18]
    exact if_pos (by rw [ex_lt hL (by omega)]; omega)
  | succ e ih =>
    intro i cnt I g n h1 h2 h3 h4 hI
    obtain ⟨cnt, rfl⟩ : ∃ x, cnt = x + 1 := ⟨cnt - 1, by omega⟩
    rw [fL_law_18]
    refine lwBr (fun _ => rfl) (fun c => ?_)
    have hi : i + 4 ≤ L := by rw [ex_lt hL (by omega)] at c; omega
    have hv : zI (i : Int) + (4 : Int32) = zI ((i + 4 : Nat) : Int) := by rw [l_4, z_add]; rfl
    have rc : ∀ I2 g', Inv I2 g' (n + 1) → fL_law_18 N xs L cnt I2 (zI (i : Int) + (4 : Int32)) = some 1 := fun I2 g' h => by rw [hv]; exact ih (i + 4) cnt I2 g' (n + 1) (by omega) (by omega) (by omega) (by omega) h
    have hn : n < 100000 := by omega
    have g0 := ex_gd (L := L) (i := i) (v := zI (i : Int)) 0 rfl hL (by omega)
    have g1 := ex_gd (L := L) (i := i) (v := zI (i : Int) + (1 : Int32)) 1 (by rw [l_1, z_add]; rfl) hL (by omega)
    have g2 := ex_gd (L := L) (i := i) (v := zI (i : Int) + (2 : Int32)) 2 (by rw [l_2, z_add]; rfl) hL (by omega)
    have g3 := ex_gd (L := L) (i := i) (v := zI (i : Int) + (3 : Int32)) 3 (by rw [l_3, z_add]; rfl) hL (by omega)
    refine lwGd g0 (lwLt ?_)
    generalize xs (zI (i : Int)).toNatClampNeg &&& (31 : Int32) = X
    refine lwBr (fun _ => ?_) (fun _ => ?_)
    · obtain ⟨r, I1, I2, g', e1, e2, h'⟩ := s_append hN hn hI (xs (zI (i : Int) + (1 : Int32)).toNatClampNeg)
      exact lwGd g1 (lwCl e1 (lwGd g1 (lwCl e2 (lwEq (lwLt (rc I2 g' h'))))))
    refine lwBr (fun _ => ?_) (fun _ => ?_)
    · obtain ⟨r, I1, I2, g', e1, e2, h'⟩ := s_clearText hN hn hI
      exact lwCl e1 (lwCl e2 (lwEq (lwLt (rc I2 g' h'))))
    refine lwBr (fun _ => ?_) (fun _ => ?_)
    · obtain ⟨r, I1, I2, g', e1, e2, h'⟩ := s_errorPosition hN hn hI
      exact lwCl e1 (lwCl e2 (lwEq (lwLt (rc I2 g' h'))))
    refine lwBr (fun _ => ?_) (fun _ => ?_)
    · obtain ⟨r, I1, I2, g', e1, e2, h'⟩ := s_load hN hn hI
      exact lwCl e1 (lwCl e2 (lwEq (lwLt (rc I2 g' h'))))
    refine lwBr (fun _ => ?_) (fun _ => ?_)
    · obtain ⟨r, I1, I2, g', e1, e2, h'⟩ := s_position hN hn hI (xs (zI (i : Int) + (1 : Int32)).toNatClampNeg)
      exact lwGd g1 (lwCl e1 (lwGd g1 (lwCl e2 (lwEq (lwLt (rc I2 g' h'))))))
    refine lwBr (fun _ => ?_) (fun _ => ?_)
    · obtain ⟨r, I1, I2, g', e1, e2, h'⟩ := s_clock hN hn hI
      exact lwCl e1 (lwCl e2 (lwEq (lwLt (rc I2 g' h'))))
    refine lwBr (fun _ => ?_) (fun _ => ?_)
    · obtain ⟨r, I1, I2, g', e1, e2, h'⟩ := s_queueLength hN hn hI
      exact lwCl e1 (lwCl e2 (lwEq (lwLt (rc I2 g' h'))))
    refine lwBr (fun _ => ?_) (fun _ => ?_)
    · obtain ⟨r, I1, I2, g', e1, e2, h'⟩ := s_itemAt hN hn hI (xs (zI (i : Int) + (1 : Int32)).toNatClampNeg)
      exact lwGd g1 (lwCl e1 (lwGd g1 (lwCl e2 (lwEq (lwLt (rc I2 g' h'))))))
    refine lwBr (fun _ => ?_) (fun _ => ?_)
    · obtain ⟨r, I1, I2, g', e1, e2, h'⟩ := s_rampIndex hN hn hI
      exact lwCl e1 (lwCl e2 (lwEq (lwLt (rc I2 g' h'))))
    refine lwBr (fun _ => ?_) (fun _ => ?_)
    · obtain ⟨r, I1, I2, g', e1, e2, h'⟩ := s_topIndex hN hn hI
      exact lwCl e1 (lwCl e2 (lwEq (lwLt (rc I2 g' h'))))
    refine lwBr (fun _ => ?_) (fun _ => ?_)
    · obtain ⟨r, I1, I2, g', e1, e2, h'⟩ := s_interval hN hn hI (xs (zI (i : Int) + (1 : Int32)).toNatClampNeg)
      exact lwGd g1 (lwCl e1 (lwGd g1 (lwCl e2 (lwEq (lwLt (rc I2 g' h'))))))
    refine lwBr (fun _ => ?_) (fun _ => ?_)
    · obtain ⟨r, I1, I2, g', e1, e2, h'⟩ := s_approximateInterval hN hn hI (xs (zI (i : Int) + (1 : Int32)).toNatClampNeg)
      exact lwGd g1 (lwCl e1 (lwGd g1 (lwCl e2 (lwEq (lwLt (rc I2 g' h'))))))
    refine lwBr (fun _ => ?_) (fun _ => ?_)
    · obtain ⟨r, I1, I2, g', e1, e2, h'⟩ := s_setAcceleration hN hn hI (xs (zI (i : Int) + (1 : Int32)).toNatClampNeg)
      exact lwGd g1 (lwCl e1 (lwGd g1 (lwCl e2 (lwEq (lwLt (rc I2 g' h'))))))
    refine lwBr (fun _ => ?_) (fun _ => ?_)
    · obtain ⟨r, I1, I2, g', e1, e2, h'⟩ := s_setSpeedLimit hN hn hI (xs (zI (i : Int) + (1 : Int32)).toNatClampNeg)
      exact lwGd g1 (lwCl e1 (lwGd g1 (lwCl e2 (lwEq (lwLt (rc I2 g' h'))))))
    refine lwBr (fun _ => ?_) (fun _ => ?_)
    · obtain ⟨r, I1, I2, g', e1, e2, h'⟩ := s_addMove hN hn hI (xs (zI (i : Int) + (1 : Int32)).toNatClampNeg) (xs (zI (i : Int) + (2 : Int32)).toNatClampNeg)
      exact lwGd g1 (lwGd g2 (lwCl e1 (lwGd g1 (lwGd g2 (lwCl e2 (lwEq (lwLt (rc I2 g' h'))))))))
    refine lwBr (fun _ => ?_) (fun _ => ?_)
    · obtain ⟨r, I1, I2, g', e1, e2, h'⟩ := s_addWait hN hn hI (xs (zI (i : Int) + (1 : Int32)).toNatClampNeg)
      exact lwGd g1 (lwCl e1 (lwGd g1 (lwCl e2 (lwEq (lwLt (rc I2 g' h'))))))
    refine lwBr (fun _ => ?_) (fun _ => ?_)
    · obtain ⟨r, I1, I2, g', e1, e2, h'⟩ := s_step hN hn hI
      exact lwCl e1 (lwCl e2 (lwEq (lwLt (rc I2 g' h'))))
    refine lwBr (fun _ => ?_) (fun _ => ?_)
    · obtain ⟨r, I1, I2, g', e1, e2, h'⟩ := s_run hN hn hI (xs (zI (i : Int) + (1 : Int32)).toNatClampNeg)
      exact lwGd g1 (lwCl e1 (lwGd g1 (lwCl e2 (lwEq (lwLt (rc I2 g' h'))))))
    refine lwBr (fun _ => ?_) (fun _ => ?_)
    · obtain ⟨r, I1, I2, g', e1, e2, h'⟩ := s_stop hN hn hI
      exact lwCl e1 (lwCl e2 (lwEq (lwLt (rc I2 g' h'))))
    refine lwBr (fun _ => ?_) (fun _ => ?_)
    · obtain ⟨r, I1, I2, g', e1, e2, h'⟩ := s_removeItem hN hn hI (xs (zI (i : Int) + (1 : Int32)).toNatClampNeg)
      exact lwGd g1 (lwCl e1 (lwGd g1 (lwCl e2 (lwEq (lwLt (rc I2 g' h'))))))
    refine lwBr (fun _ => ?_) (fun _ => ?_)
    · obtain ⟨r, I1, I2, g', e1, e2, h'⟩ := s_undo hN hn hI
      exact lwCl e1 (lwCl e2 (lwEq (lwLt (rc I2 g' h'))))
    refine lwBr (fun _ => ?_) (fun _ => ?_)
    · obtain ⟨r, I1, I2, g', e1, e2, h'⟩ := s_ticksLeft hN hn hI
      exact lwCl e1 (lwCl e2 (lwEq (lwLt (rc I2 g' h'))))
    refine lwBr (fun _ => ?_) (fun _ => ?_)
    · obtain ⟨r, I1, I2, g', e1, e2, h'⟩ := s_moveTicks hN hn hI (xs (zI (i : Int) + (1 : Int32)).toNatClampNeg)
      exact lwGd g1 (lwCl e1 (lwGd g1 (lwCl e2 (lwEq (lwLt (rc I2 g' h'))))))
    refine lwBr (fun _ => ?_) (fun _ => ?_)
    · obtain ⟨r, I1, I2, g', e1, e2, h'⟩ := s_positionAfter hN hn hI (xs (zI (i : Int) + (1 : Int32)).toNatClampNeg) (xs (zI (i : Int) + (2 : Int32)).toNatClampNeg)
      exact lwGd g1 (lwGd g2 (lwCl e1 (lwGd g1 (lwGd g2 (lwCl e2 (lwEq (lwLt (rc I2 g' h'))))))))
    refine lwBr (fun _ => ?_) (fun _ => ?_)
    · obtain ⟨r, I1, I2, g', e1, e2, h'⟩ := s_leastAcceleration hN hn hI (xs (zI (i : Int) + (1 : Int32)).toNatClampNeg) (xs (zI (i : Int) + (2 : Int32)).toNatClampNeg)
      exact lwGd g1 (lwGd g2 (lwCl e1 (lwGd g1 (lwGd g2 (lwCl e2 (lwEq (lwLt (rc I2 g' h'))))))))
    refine lwBr (fun _ => ?_) (fun _ => ?_)
    · obtain ⟨r, I1, I2, g', e1, e2, h'⟩ := s_greatestLength hN hn hI (xs (zI (i : Int) + (1 : Int32)).toNatClampNeg)
      exact lwGd g1 (lwCl e1 (lwGd g1 (lwCl e2 (lwEq (lwLt (rc I2 g' h'))))))
    refine lwBr (fun _ => ?_) (fun _ => ?_)
    · obtain ⟨r, I1, I2, g', e1, e2, h'⟩ := s_runScript hN hn hI (xs (zI (i : Int) + (1 : Int32)).toNatClampNeg) (((xs (zI (i : Int) + (2 : Int32)).toNatClampNeg).toInt64 <<< (((32 : Int32)).toInt64 &&& 63)) ||| ((xs (zI (i : Int) + (3 : Int32)).toNatClampNeg).toInt64 &&& (4294967295 : Int64)))
      exact lwGd g1 (lwGd g2 (lwGd g3 (lwCl e1 (lwGd g1 (lwGd g2 (lwGd g3 (lwCl e2 (lwEq (lwLt (rc I2 g' h'))))))))))
    refine lwBr (fun _ => ?_) (fun _ => ?_)
    · obtain ⟨r, I1, I2, g', e1, e2, h'⟩ := s_randomSpeeds hN hn hI (((xs (zI (i : Int) + (1 : Int32)).toNatClampNeg).toInt64 <<< (((32 : Int32)).toInt64 &&& 63)) ||| ((xs (zI (i : Int) + (2 : Int32)).toNatClampNeg).toInt64 &&& (4294967295 : Int64))) (xs (zI (i : Int) + (3 : Int32)).toNatClampNeg)
      exact lwGd g1 (lwGd g2 (lwGd g3 (lwCl e1 (lwGd g1 (lwGd g2 (lwGd g3 (lwCl e2 (lwEq (lwLt (rc I2 g' h'))))))))))
    refine lwBr (fun _ => ?_) (fun _ => ?_)
    · obtain ⟨r, I1, I2, g', e1, e2, h'⟩ := s_save hN hn hI (xs (zI (i : Int) + (1 : Int32)).toNatClampNeg)
      exact lwGd g1 (lwCl e1 (lwGd g1 (lwCl e2 (lwEq (lwLt (rc I2 g' h'))))))
    refine lwBr (fun _ => ?_) (fun _ => ?_)
    · obtain ⟨r, I1, I2, g', e1, e2, h'⟩ := s_restore hN hn hI (xs (zI (i : Int) + (1 : Int32)).toNatClampNeg)
      exact lwGd g1 (lwCl e1 (lwGd g1 (lwCl e2 (lwEq (lwLt (rc I2 g' h'))))))
    exact lwLt (rc I g ⟨hI.1, hI.2.1, hI.2.2.up⟩)
/-! the start -/
def s00 : Sg := (100, 200, zI 0, zI 0, zI 0, 0, fun _ => (0, 0, 0), 0, 0, 0)
def g00 : GS := (0, fun _ => 0, s00, 0, 0, fun _ => s00, fun _ => none)
theorem no_a {a : Nat} (h1 : 1 ≤ a) (h2 : a ≤ 999) (h : (0 : Int32) = zI (a : Int)) : False := by
  rw [l_0, z_eq (by omega) (by omega) (by omega) (by omega)] at h
  omega
theorem ok00 : OkS s00 := ⟨by decide, by decide, by decide, by decide, by decide, fun j hj => absurd hj (Nat.not_lt_zero j), fun _ => ⟨rfl, rfl⟩, fun h => absurd h (Nat.lt_irrefl 0)⟩
theorem str00 {k : Nat} (h : tag k = 4) : StR I00 k s00 := by
  have e : I00 k = fun j => if j = 0 then 100 else if j = 1 then 200 else 0 := by unfold I00; rw [if_pos h]
  unfold s00 StR
  rw [e]
  exact ⟨rfl, rfl, rfl, rfl, rfl, rfl, rfl, fun h => absurd h (Nat.lt_irrefl 0), fun j hj => absurd hj (Nat.not_lt_zero j)⟩
theorem z00 {k : Nat} (h : tag k ≠ 4) (h2 : k ≠ 83) : I00 k = fun _ => 0 := by
  unfold I00
  rw [if_neg h, if_neg h2]
theorem inv00 : Inv I00 g00 0 := by
  refine ⟨⟨by rw [z00 (by decide) (by decide)]; rfl, fun j hj => absurd hj (Nat.not_lt_zero j), str00 (by decide), by rw [z00 (by decide) (by decide)]; rfl, by rw [z00 (by decide) (by decide)]; rfl, fun i hi => absurd hi (Nat.not_lt_zero i), fun b hb => ⟨fun _ => ?_, fun z hz => by cases hz⟩, fun a v h1 h2 h3 h4 h => ?_, by rw [z00 (by decide) (by decide)]; rfl⟩, ⟨by rw [z00 (by decide) (by decide)]; rfl, fun j hj => absurd hj (Nat.not_lt_zero j), ?_, by rw [z00 (by decide) (by decide)]; rfl, by rw [z00 (by decide) (by decide)]; rfl, fun i hi => absurd hi (Nat.not_lt_zero i), fun b hb => ⟨fun _ => ?_, fun z hz => by cases hz⟩, ⟨0, by omega, by rw [z00 (by decide) (by decide)]; rfl, fun a h1 h2 h j hj => absurd hj (Nat.not_lt_zero j)⟩, fun a v h1 h2 h3 h4 h => ?_⟩, ⟨Nat.zero_le _, fun j hj => absurd hj (Nat.not_lt_zero j), ok00, Nat.zero_le _, Nat.le_refl _, Nat.zero_le _, fun i hi => absurd hi (Nat.not_lt_zero i), fun b z hz => by cases hz⟩, Nat.le_refl _⟩
  · rcases (show b = 0 ∨ b = 1 by omega) with rfl | rfl
    · rw [z00 (by decide) (by decide)]; rfl
    · rw [z00 (by decide) (by decide)]; rfl
  · rw [z00 (by decide) (by decide)] at h
    exact (no_a h1 h2 h).elim
  · have e : I00 83 = upd (upd (upd (fun _ => 0) 0 100) 1 200) 7 (-9) := by unfold I00; rw [if_neg (by decide), if_pos rfl]
    show RowR (I00 83) s00
    rw [e]
    exact ⟨rfl, rfl, rfl, rfl, rfl, rfl, rfl, rfl, rfl, fun j hj => absurd hj (Nat.not_lt_zero j)⟩
  · rw [z00 (by decide) (by decide)]; rfl
  · rw [z00 (by decide) (by decide)] at h
    exact (no_a h1 h2 h).elim
theorem law_pure (xs : Nat → Int32) (L : Nat) (hL : L ≤ 2048) : ∃ N, fL_law_18 N xs L N I00 0 = some 1 := by
  have h := law_walk (N := 10000) (by omega) xs hL 600 0 10000 I00 g00 0 (by omega) (by omega) (by omega) (by omega) inv00
  rw [show zI ((0 : Nat) : Int) = (0 : Int32) from rfl] at h
  exact ⟨10000, h⟩
