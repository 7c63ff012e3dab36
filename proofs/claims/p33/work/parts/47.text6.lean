/-! the class' reader: readInto -/
theorem e4_chain {N : Nat} {k k1 : Nat} {I I4 I7 I10 I14 I17 : Mem} {w1 w2 : Int} (hc : f5_clear N (st (st I k 2 (zI 0)) k 3 (zI (-9))) k1 = some I4) (l1 : f4_takeLetter N I4 k (zI 97) = some I7) (p1 : f4_takePositive N I7 k (zI 3) = some (zI w1, I10)) (l2 : f4_takeLetter N (st I10 k1 0 (zI w1)) k (zI 118) = some I14) (p2 : f4_takePositive N I14 k (zI 3) = some (zI w2, I17)) : f4_readInto N I k k1 = f4_readInto_47 N k k1 N (st I17 k1 1 (zI w2)) (zI 0) := by
  unfold f4_readInto
  rw [l_0, l_m9, l_97, l_118, l_3]
  simp only [letM_s, hc, clM_s, l1, clP_s, p1, l2, p2]
theorem e4_read {N : Nat} {k k1 tl : Nat} {tx : Nat → Int} {I : Mem} (hN : 100 ≤ N) (hk : k + 1 < k1) (hT : OkT tl tx) (h1 : I k 1 = zI (tl : Int)) (hx : ∀ j, j < tl → I (k+1) j = zI (tx j)) :
    ∃ I1 r, f4_readInto N I k k1 = some (r, I1) ∧ (match rdT tl tx with | (some s', _) => r = zI (-9) ∧ StR I1 k1 s' ∧ OkS s' | (none, q) => q ≤ 80 ∧ r = zI (q : Int)) ∧ I1 k 1 = zI (tl : Int) ∧ ∀ x, x ≠ k → (x < k1 ∨ k1 + 3 < x) → I1 x = I x := by
  have ht := hT.1
  have hfz : ∀ q, flt (zI (-9)) q = zI (q : Int) := fun q => if_pos rfl
  have hzn : ∀ q : Nat, q ≤ 80 → zI (q : Int) ≠ zI (-9) := fun q hq => by rw [← hfz]; exact flt_ne (by omega)
  have hT2 : TxR (st (st I k 2 (zI 0)) k 3 (zI (-9))) k tl tx 0 (zI (-9)) := ⟨by rw [st_j (by omega), st_j (by omega)]; exact h1, by rw [st_j (by omega), st_s]; rfl, st_s _ _ _ _, fun j hj => by rw [st_k (by omega), st_k (by omega)]; exact hx j hj⟩
  obtain ⟨I4, c1, g2, g3, g4, g5, g9, gx⟩ := e4_clear N (st (st I k 2 (zI 0)) k 3 (zI (-9))) k1
  have f4 : ∀ x, x ≠ k → x ≠ k1 → I4 x = I x := fun x a b => by rw [gx x b, st_k a, st_k a]
  have hT4 : TxR I4 k tl tx 0 (zI (-9)) := hT2.fr (gx k (by omega)) (gx (k+1) (by omega))
  have stx : ∀ {J : Mem} {p : Nat} {F : Int32} (c : Nat) (w : Int32), TxR J k tl tx p F → TxR (st J k1 c w) k tl tx p F := fun c w q => q.fr (st_k (by omega)) (st_k (by omega))
  obtain ⟨I7, l1, l2, l3⟩ := e4_letter N (c := 97) (by omega) (by omega) hT (Nat.zero_le _) hT4
  unfold rdT
  by_cases ca : chT tl tx 0 = 97
  · rw [if_pos ca] at l2
    simp only [if_pos ca]
    obtain ⟨hT7, hp7⟩ := l2
    rw [Nat.zero_add] at hT7 hp7
    obtain ⟨I10, w1, p', q1, q2, q3, q4⟩ := e4_pos (N := N) (D := 3) hN hT (by omega) (by omega) hp7 hT7
    have nb := nmT_bd hT (D := 3) (p := 1) (least := 1) (by omega) hp7
    generalize nmT tl tx 3 1 1 = r1 at *
    obtain ⟨o1, q⟩ := r1
    have nb1 : q ≤ tl := nb.1
    cases o1 with
    | none =>
      have hF := hzn q (by omega)
      have q2' := q2.2
      rw [hfz] at q2'
      obtain ⟨I14, pb, u1, u2, u3, u4⟩ := e4_letK N (c := 118) hF (by omega) (by omega) hT q3 (stx 0 (zI w1) q2')
      obtain ⟨I17, w2, pc, v1, v2, v3, v4⟩ := e4_posK (N := N) (D := 3) hF hN hT (by omega) (by omega) u3 u2
      refine ⟨_, zI (q : Int), (e4_chain c1 l1 q1 u1 v1).trans (e4_flt47 hF hN (stx 1 (zI w2) v2)), ⟨by omega, rfl⟩, (stx 1 (zI w2) v2).1, fun x a b => by rw [st_k (by omega), v4 x a, u4 x a, st_k (by omega), q4 x a, l3 x a, f4 x a (by omega)]⟩
    | some a =>
      obtain ⟨rfl, rfl, hT10⟩ := q2
      obtain ⟨n1, n2, n3, n4⟩ := nb.2 w1 rfl
      have n3 : w1 < 1000 := n3
      obtain ⟨I14, u1, u2, u3⟩ := e4_letter N (c := 118) (by omega) (by omega) hT q3 (stx 0 (zI w1) hT10)
      by_cases cv : chT tl tx p' = 118
      · rw [if_pos cv] at u2
        simp only [if_pos cv]
        obtain ⟨hT14, hp14⟩ := u2
        obtain ⟨I17, w2, p2, v1, v2, v3, v4⟩ := e4_pos (N := N) (D := 3) hN hT (by omega) (by omega) hp14 hT14
        have nb2 := nmT_bd hT (D := 3) (p := p' + 1) (least := 1) (by omega) hp14
        have hch := e4_chain c1 l1 q1 u1 v1
        have hfr : ∀ x, x ≠ k → x ≠ k1 → st I17 k1 1 (zI w2) x = I x := fun x a b => by rw [st_k b, v4 x a, u3 x a, st_k b, q4 x a, l3 x a, f4 x a b]
        generalize nmT tl tx 3 1 (p' + 1) = r2 at *
        obtain ⟨o2, q'⟩ := r2
        have nb3 : q' ≤ tl := nb2.1
        cases o2 with
        | none =>
          have hF := hzn q' (by omega)
          have v2' := v2.2
          rw [hfz] at v2'
          exact ⟨_, zI (q' : Int), hch.trans (e4_flt47 hF hN (stx 1 (zI w2) v2')), ⟨by omega, rfl⟩, (stx 1 (zI w2) v2').1, fun x a b => hfr x a (by omega)⟩
        | some v =>
          obtain ⟨rfl, rfl, hT17⟩ := v2
          obtain ⟨m1, m2, m3, m4⟩ := nb2.2 w2 rfl
          have m3 : w2 < 1000 := m3
          have ek : ∀ j, j ≠ 0 → j ≠ 1 → st I17 k1 1 (zI w2) k1 j = I4 k1 j := fun j a b => by rw [st_j b, v4 k1 (by omega), u3 k1 (by omega), st_j a, q4 k1 (by omega), l3 k1 (by omega)]
          have hS : StR (st I17 k1 1 (zI w2)) k1 (s0T w1.toNat w2.toNat) := by
            refine ⟨?_, ?_, by rw [ek 2 (by omega) (by omega)]; exact g2, by rw [ek 3 (by omega) (by omega)]; exact g3, by rw [ek 4 (by omega) (by omega)]; exact g4, by rw [ek 5 (by omega) (by omega)]; exact g5, by rw [ek 9 (by omega) (by omega)]; exact g9, fun z => absurd z (Nat.lt_irrefl 0), fun j hj => absurd hj (Nat.not_lt_zero j)⟩
            · rw [st_j (by omega), v4 k1 (by omega), u3 k1 (by omega), st_s, show (w1.toNat : Int) = w1 by omega]
            · rw [st_s, show (w2.toNat : Int) = w2 by omega]
          have hO : OkS (s0T w1.toNat w2.toNat) := ⟨by omega, by omega, by omega, by omega, by omega, fun j hj => absurd hj (Nat.not_lt_zero j), fun _ => ⟨rfl, rfl⟩, fun z => absurd z (Nat.lt_irrefl 0)⟩
          obtain ⟨I1, r, y1, y2, y3, y4⟩ := e4_its (N := N) (k := k) (k1 := k1) hN hk hT 9 0 N p2 (st I17 k1 1 (zI w2)) (s0T w1.toNat w2.toNat) (by omega) (by omega) rfl v3 hO (stx 1 (zI w2) hT17) hS
          exact ⟨I1, r, hch.trans y1, y2, y3, fun x a b => by rw [y4 x a b, hfr x a (by omega)]⟩
      · rw [if_neg cv, hfz] at u2
        simp only [if_neg cv]
        have hF := hzn p' (by omega)
        obtain ⟨I17, w2, pc, v1, v2, v3, v4⟩ := e4_posK (N := N) (D := 3) hF hN hT (by omega) (by omega) q3 u2
        refine ⟨_, zI (p' : Int), (e4_chain c1 l1 q1 u1 v1).trans (e4_flt47 hF hN (stx 1 (zI w2) v2)), ⟨by omega, rfl⟩, (stx 1 (zI w2) v2).1, fun x a b => by rw [st_k (by omega), v4 x a, u3 x a, st_k (by omega), q4 x a, l3 x a, f4 x a (by omega)]⟩
  · rw [if_neg ca, hfz] at l2
    simp only [if_neg ca]
    have hF := hzn 0 (by omega)
    obtain ⟨I10, w1, pb, q1, q2, q3, q4⟩ := e4_posK (N := N) (D := 3) hF hN hT (by omega) (by omega) (Nat.zero_le _) l2
    obtain ⟨I14, pc, u1, u2, u3, u4⟩ := e4_letK N (c := 118) hF (by omega) (by omega) hT q3 (stx 0 (zI w1) q2)
    obtain ⟨I17, w2, pd, v1, v2, v3, v4⟩ := e4_posK (N := N) (D := 3) hF hN hT (by omega) (by omega) u3 u2
    exact ⟨_, zI ((0 : Nat) : Int), (e4_chain c1 l1 q1 u1 v1).trans (e4_flt47 hF hN (stx 1 (zI w2) v2)), ⟨by omega, rfl⟩, (stx 1 (zI w2) v2).1, fun x a b => by rw [st_k (by omega), v4 x a, u4 x a, st_k (by omega), q4 x a, l3 x a, f4 x a (by omega)]⟩
