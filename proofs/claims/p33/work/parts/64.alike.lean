/-! NOW and ALIKE: what a planner shows is told by its state; two planners in one state are alike -/
def g0 (s : Sg) : GS := (0, fun _ => 0, s, 0, 0, fun _ => s, fun _ => none)
def nowF : Nat → Int64 → Nat → Sg → Int64
  | 0, w, _, _ => w
  | e+1, w, j, s => nowF e ((((1009 : Int64) * w) - ((1009 : Int64) * w) / (1000000007 : Int64) * (1000000007 : Int64)) + ((spItem (g0 s) (zI (j : Int)).toInt).1).toInt64) (j + 1) s
def nowW (g : GS) : Int64 := ((((((sT (sG g)).toInt64 + ((31 : Int64) * ((spPos g ((0 : Int32)).toInt).1).toInt64)) + ((101 : Int64) * ((spPos g ((1 : Int32)).toInt).1).toInt64)) + ((7 : Int64) * ((spRamp g).1).toInt64)) + ((1009 : Int64) * ((spTop g).1).toInt64)) + ((spApx g ((3 : Int32)).toInt).1).toInt64)
def nowZ (s : Sg) : Int64 := nowF (nS s) (nowW (g0 s)) 0 s
theorem w_now57 {g : GS} (hG : OkG g) : ∀ (e j v : Nat) (w : Int64) (v3 : Int32), v + e = nS (sG g) → j + e ≤ 100 → v3 = zI (v : Int) → Do (fun N I k => fL_now_57 N k (N - j) I w v3) g (nowF e w v (sG g)) g := by
  have h8 := hG.S.b.2.2.2.2
  intro e
  induction e with
  | zero =>
    intro j v w v3 hv hj h3
    subst h3
    refine Do.of (fun N I k hN => (congrArg (fun c => fL_now_57 N k c I w (zI (v : Int))) (sub1 hN (by omega))).trans (fL_now_57.eq_2 ..)) ?_
    refine Do.bind (d_queueLength hG) ?_
    refine Do.pos ?_ (Do.ret _ _)
    rw [z_le (by omega) (by omega) (by omega) (by omega)]; omega
  | succ e ih =>
    intro j v w v3 hv hj h3
    subst h3
    refine Do.of (fun N I k hN => (congrArg (fun c => fL_now_57 N k c I w (zI (v : Int))) (sub1 hN (by omega))).trans (fL_now_57.eq_2 ..)) ?_
    refine Do.bind (d_queueLength hG) ?_
    refine Do.neg ?_ ?_
    · rw [z_le (by omega) (by omega) (by omega) (by omega)]; omega
    refine Do.bind (d_itemAt hG (zI (v : Int))) ?_
    refine Do.lt (Do.lt ?_)
    exact ih (j + 1) (v + 1) _ _ (by omega) (by omega) (by rw [l_1, z_add]; rfl)
theorem w_now {g : GS} (hG : OkG g) : Do (fun N I k => fL_now N I k) g (nowZ (sG g)) g := by
  have h8 := hG.S.b.2.2.2.2
  unfold fL_now
  refine Do.bind (d_clock hG) ?_
  refine Do.bind (d_position hG (0 : Int32)) ?_
  refine Do.bind (d_position hG (1 : Int32)) ?_
  refine Do.bind (d_rampIndex hG) ?_
  refine Do.bind (d_topIndex hG) ?_
  refine Do.bind (d_approximateInterval hG (3 : Int32)) ?_
  refine Do.lt ?_
  exact w_now57 hG (nS (sG g)) 0 0 _ (0 : Int32) (by omega) (by omega) l_0
theorem lg_self (w : Int64) : lg_cmp w w = (0 : Int32) := by
  obtain ⟨z, rfl, h1, h2⟩ := yI_of w
  rw [cmp_v h1 h2 h1 h2, if_neg (by omega), if_pos rfl]
  rfl
/-- a piece over both planners, which stand in one state and stay there -/
def Db {α : Type} (F : Nat → Mem → Option (α × Mem)) (g : GS) (r : α) : Prop := ∀ (N : Nat) (I : Mem), 9000 ≤ N → CInv I 0 g → CInv I 81 g → ∃ I1, F N I = some (r, I1) ∧ CInv I1 0 g ∧ CInv I1 81 g
theorem Db.ret {α : Type} (r : α) (g : GS) : Db (fun _ I => some (r, I)) g r := fun _ I _ h0 h1 => ⟨I, rfl, h0, h1⟩
theorem Db.p0 {α β : Type} {F : Nat → Mem → Nat → Option (α × Mem)} {f : Nat → Mem → Option (α × Mem)} {C : Nat → α → Mem → Option (β × Mem)} {g : GS} {r : α} {r2 : β} (h1 : Do F g r g) (hf : ∀ N I, f N I = F N I 0) (h2 : Db (fun N I => C N r I) g r2) : Db (fun N I => clP (f N I) (fun q I1 => C N q I1)) g r2 := by
  intro N I hN hp hq
  obtain ⟨I1, a1, a2, a3⟩ := h1 N I 0 hN (Or.inl rfl) hp
  obtain ⟨I2, b1, b2⟩ := h2 N I1 hN a2 (hq.fr (fun x x1 x2 => a3 x (by omega)))
  refine ⟨I2, ?_, b2⟩
  show clP (f N I) (fun q I1 => C N q I1) = _
  rw [hf, a1]
  exact b1
theorem Db.p1 {α β : Type} {F : Nat → Mem → Nat → Option (α × Mem)} {f : Nat → Mem → Option (α × Mem)} {C : Nat → α → Mem → Option (β × Mem)} {g : GS} {r : α} {r2 : β} (h1 : Do F g r g) (hf : ∀ N I, f N I = F N I 81) (h2 : Db (fun N I => C N r I) g r2) : Db (fun N I => clP (f N I) (fun q I1 => C N q I1)) g r2 := by
  intro N I hN hp hq
  obtain ⟨I1, a1, a2, a3⟩ := h1 N I 81 hN (Or.inr rfl) hq
  obtain ⟨I2, b1, b2⟩ := h2 N I1 hN (hp.fr (fun x x1 x2 => a3 x (by omega))) a2
  refine ⟨I2, ?_, b2⟩
  show clP (f N I) (fun q I1 => C N q I1) = _
  rw [hf, a1]
  exact b1
theorem Db.pos {α : Type} {c : Prop} {d : Decidable c} {A B : Nat → Mem → Option (α × Mem)} {g : GS} {r : α} (hc : c) (h : Db A g r) : Db (fun N I => @ite _ c d (A N I) (B N I)) g r := by
  intro N I hN hp hq
  obtain ⟨I1, a1, a2⟩ := h N I hN hp hq
  exact ⟨I1, (if_pos hc).trans a1, a2⟩
theorem Db.neg {α : Type} {c : Prop} {d : Decidable c} {A B : Nat → Mem → Option (α × Mem)} {g : GS} {r : α} (hc : ¬ c) (h : Db B g r) : Db (fun N I => @ite _ c d (A N I) (B N I)) g r := by
  intro N I hN hp hq
  obtain ⟨I1, a1, a2⟩ := h N I hN hp hq
  exact ⟨I1, (if_neg hc).trans a1, a2⟩
theorem Db.lt {α β : Type} {x : β} {C : Nat → Mem → β → Option (α × Mem)} {g : GS} {r : α} (h : Db (fun N I => C N I x) g r) : Db (fun N I => letM x (fun y => C N I y)) g r := h
theorem Db.of {α : Type} {F F' : Nat → Mem → Option (α × Mem)} {g : GS} {r : α} (e : ∀ N I, 9000 ≤ N → F N I = F' N I) (h : Db F' g r) : Db F g r := by
  intro N I hN hp hq
  obtain ⟨I1, a1, a2⟩ := h N I hN hp hq
  exact ⟨I1, (e N I hN).trans a1, a2⟩
theorem w_alike53 {g : GS} (hG : OkG g) : ∀ (e j v : Nat) (v3 : Int32), v + e = 6 → j + e ≤ 100 → v3 = zI (v : Int) → Db (fun N I => fL_alike_53 N 0 81 (N - j) I (1 : Int32) v3) g (1 : Int32) := by
  intro e
  induction e with
  | zero =>
    intro j v v3 hv hj h3
    subst h3
    refine Db.of (fun N I hN => (congrArg (fun c => fL_alike_53 N 0 81 c I (1 : Int32) (zI (v : Int))) (sub1 hN (by omega))).trans (fL_alike_53.eq_2 ..)) ?_
    refine Db.pos ?_ ?_
    · rw [l_6, z_le (by omega) (by omega) (by omega) (by omega)]; omega
    exact Db.neg (by decide) (Db.ret _ _)
  | succ e ih =>
    intro j v v3 hv hj h3
    subst h3
    refine Db.of (fun N I hN => (congrArg (fun c => fL_alike_53 N 0 81 c I (1 : Int32) (zI (v : Int))) (sub1 hN (by omega))).trans (fL_alike_53.eq_2 ..)) ?_
    refine Db.neg ?_ ?_
    · rw [l_6, z_le (by omega) (by omega) (by omega) (by omega)]; omega
    refine Db.neg (by decide) ?_
    refine Db.p0 (d_interval hG _) (fun _ _ => rfl) ?_
    refine Db.p1 (d_interval hG _) (fun _ _ => rfl) ?_
    refine Db.pos rfl ?_
    refine Db.p0 (d_approximateInterval hG _) (fun _ _ => rfl) ?_
    refine Db.p1 (d_approximateInterval hG _) (fun _ _ => rfl) ?_
    refine Db.pos rfl ?_
    refine Db.p0 (d_moveTicks hG _) (fun _ _ => rfl) ?_
    refine Db.p1 (d_moveTicks hG _) (fun _ _ => rfl) ?_
    refine Db.pos rfl ?_
    refine Db.p0 (d_positionAfter hG _ _) (fun _ _ => rfl) ?_
    refine Db.p1 (d_positionAfter hG _ _) (fun _ _ => rfl) ?_
    refine Db.pos rfl ?_
    refine Db.p0 (d_randomSpeeds hG _ _) (fun _ _ => rfl) ?_
    refine Db.p1 (d_randomSpeeds hG _ _) (fun _ _ => rfl) ?_
    refine Db.pos rfl ?_
    refine Db.lt ?_
    exact ih (j + 1) (v + 1) _ (by omega) (by omega) (by rw [l_1, z_add]; rfl)
theorem w_alike {g : GS} (hG : OkG g) : Db (fun N I => fL_alike N I 0 81) g (1 : Int32) := by
  unfold fL_alike
  refine Db.p0 (d_queueLength hG) (fun _ _ => rfl) ?_
  refine Db.p1 (d_queueLength hG) (fun _ _ => rfl) ?_
  refine Db.pos rfl ?_
  refine Db.p0 (w_now hG) (fun _ _ => rfl) ?_
  refine Db.p1 (w_now hG) (fun _ _ => rfl) ?_
  refine Db.pos (lg_self _) ?_
  refine Db.p0 (d_errorPosition hG) (fun _ _ => rfl) ?_
  refine Db.p1 (d_errorPosition hG) (fun _ _ => rfl) ?_
  refine Db.pos rfl ?_
  refine Db.p0 (d_ticksLeft hG) (fun _ _ => rfl) ?_
  refine Db.p1 (d_ticksLeft hG) (fun _ _ => rfl) ?_
  refine Db.pos rfl ?_
  unfold fL_alike_50
  exact w_alike53 hG 6 0 0 (0 : Int32) (by omega) (by omega) l_0
