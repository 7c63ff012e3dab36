/-! RUNS OF CALLS: what a piece of the law does to a planner in the state g, at either place -/
def Do {α : Type} (F : Nat → Mem → Nat → Option (α × Mem)) (g : GS) (r : α) (g' : GS) : Prop := ∀ (N : Nat) (I : Mem) (k : Nat), 9000 ≤ N → (k = 0 ∨ k = 81) → CInv I k g → ∃ I1, F N I k = some (r, I1) ∧ CInv I1 k g' ∧ ∀ x, (x < k ∨ k + 81 ≤ x) → I1 x = I x
theorem Do.ret {α : Type} (r : α) (g : GS) : Do (fun _ I _ => some (r, I)) g r g := fun _ I _ _ _ h => ⟨I, rfl, h, fun _ _ => rfl⟩
theorem Do.bind {α β : Type} {F : Nat → Mem → Nat → Option (α × Mem)} {C : Nat → Nat → α → Mem → Option (β × Mem)} {g g1 g2 : GS} {r : α} {r2 : β} (h1 : Do F g r g1) (h2 : Do (fun N I k => C N k r I) g1 r2 g2) : Do (fun N I k => clP (F N I k) (fun q I1 => C N k q I1)) g r2 g2 := by
  intro N I k hN hk h
  obtain ⟨I1, a1, a2, a3⟩ := h1 N I k hN hk h
  obtain ⟨I2, b1, b2, b3⟩ := h2 N I1 k hN hk a2
  refine ⟨I2, ?_, b2, fun x hx => (b3 x hx).trans (a3 x hx)⟩
  show clP (F N I k) (fun q I1 => C N k q I1) = _
  rw [a1]
  exact b1
theorem Do.pos {α : Type} {c : Prop} {d : Decidable c} {A B : Nat → Mem → Nat → Option (α × Mem)} {g g' : GS} {r : α} (hc : c) (h : Do A g r g') : Do (fun N I k => @ite _ c d (A N I k) (B N I k)) g r g' := by
  intro N I k hN hk hC
  obtain ⟨I1, a1, a2⟩ := h N I k hN hk hC
  exact ⟨I1, (if_pos hc).trans a1, a2⟩
theorem Do.neg {α : Type} {c : Prop} {d : Decidable c} {A B : Nat → Mem → Nat → Option (α × Mem)} {g g' : GS} {r : α} (hc : ¬ c) (h : Do B g r g') : Do (fun N I k => @ite _ c d (A N I k) (B N I k)) g r g' := by
  intro N I k hN hk hC
  obtain ⟨I1, a1, a2⟩ := h N I k hN hk hC
  exact ⟨I1, (if_neg hc).trans a1, a2⟩
theorem Do.lt {α β : Type} {x : β} {C : Nat → Mem → Nat → β → Option (α × Mem)} {g g' : GS} {r : α} (h : Do (fun N I k => C N I k x) g r g') : Do (fun N I k => letM x (fun y => C N I k y)) g r g' := h
theorem Do.cnt {α : Type} {F : Nat → Nat → Mem → Nat → Option (α × Mem)} {g g' : GS} {r : α} (h : ∀ c, 9000 ≤ c → Do (fun N I k => F c N I k) g r g') : Do (fun N I k => F N N I k) g r g' := fun N I k hN hk hC => h N hN N I k hN hk hC
theorem Do.eqr {α : Type} {F : Nat → Mem → Nat → Option (α × Mem)} {g g' : GS} {r r' : α} (h : Do F g r g') (e : r = r') : Do F g r' g' := e ▸ h
theorem Do.to {α : Type} {F : Nat → Mem → Nat → Option (α × Mem)} {g g' : GS} {r : α} {p : α × GS} (h : Do F g p.1 p.2) (e : p = (r, g')) : Do F g r g' := by
  subst e
  exact h
theorem Gd.le {g : GS} {n m : Nat} (h : Gd g n) (hm : n ≤ m) : Gd g m := ⟨h.1, Nat.le_trans h.2 hm⟩
/-! each call -/
theorem d_append {g : GS} (hG : OkG g) (w0 : Int32) : Do (fun N I k => f6_append N I k w0) g ((spApp g w0.toInt).1) (spApp g w0.toInt).2 := by
  obtain ⟨z0, rfl, h1, h2⟩ := zI_of w0
  rw [zI_t h1 h2]
  intro N I k hN hk hC
  exact c_app hG hC h1 h2
theorem d_clearText {g : GS} (hG : OkG g) : Do (fun N I k => f6_clearText N I k) g ((spClr g).1) (spClr g).2 := by
  intro N I k hN hk hC
  exact c_clr N hC
theorem d_errorPosition {g : GS} (hG : OkG g) : Do (fun N I k => f6_errorPosition N I k) g ((spErr g).1) g := by
  intro N I k hN hk hC
  exact c_err (Nat.le_trans (by decide) hN) hG hC
theorem d_load {g : GS} (hG : OkG g) : Do (fun N I k => f6_load N I k) g ((spLoad g).1) (spLoad g).2 := by
  intro N I k hN hk hC
  exact c_load (Nat.le_trans (by decide) hN) hG hC
theorem d_position {g : GS} (hG : OkG g) (w0 : Int32) : Do (fun N I k => f6_position N I k w0) g ((spPos g w0.toInt).1) g := by
  obtain ⟨z0, rfl, h1, h2⟩ := zI_of w0
  rw [zI_t h1 h2]
  intro N I k hN hk hC
  exact nowC hC (c_pos hC h1 h2)
theorem d_clock {g : GS} (hG : OkG g) : Do (fun N I k => f6_clock N I k) g (sT (sG g)) g := by
  intro N I k hN hk hC
  exact nowC hC (c_clock hC)
theorem d_queueLength {g : GS} (hG : OkG g) : Do (fun N I k => f6_queueLength N I k) g (zI (nS (sG g) : Int)) g := by
  intro N I k hN hk hC
  exact nowC hC (c_queue hC)
theorem d_itemAt {g : GS} (hG : OkG g) (w0 : Int32) : Do (fun N I k => f6_itemAt N I k w0) g ((spItem g w0.toInt).1) g := by
  obtain ⟨z0, rfl, h1, h2⟩ := zI_of w0
  rw [zI_t h1 h2]
  intro N I k hN hk hC
  exact nowC hC (c_item hG hC h1 h2)
theorem d_rampIndex {g : GS} (hG : OkG g) : Do (fun N I k => f6_rampIndex N I k) g ((spRamp g).1) g := by
  intro N I k hN hk hC
  exact nowC hC (c_rampI hG hC)
theorem d_topIndex {g : GS} (hG : OkG g) : Do (fun N I k => f6_topIndex N I k) g ((spTop g).1) g := by
  intro N I k hN hk hC
  exact c_top (Nat.le_trans (by decide) hN) hk hG hC
theorem d_interval {g : GS} (hG : OkG g) (w0 : Int32) : Do (fun N I k => f6_interval N I k w0) g ((spInt g w0.toInt).1) g := by
  obtain ⟨z0, rfl, h1, h2⟩ := zI_of w0
  rw [zI_t h1 h2]
  intro N I k hN hk hC
  exact c_int (Nat.le_trans (by decide) hN) hk hG hC h1 h2
theorem d_approximateInterval {g : GS} (hG : OkG g) (w0 : Int32) : Do (fun N I k => f6_approximateInterval N I k w0) g ((spApx g w0.toInt).1) g := by
  obtain ⟨z0, rfl, h1, h2⟩ := zI_of w0
  rw [zI_t h1 h2]
  intro N I k hN hk hC
  exact c_apx (Nat.le_trans (by decide) hN) hk hG hC h1 h2
theorem d_setAcceleration {g : GS} (hG : OkG g) (w0 : Int32) : Do (fun N I k => f6_setAcceleration N I k w0) g ((spSetA g w0.toInt).1) (spSetA g w0.toInt).2 := by
  obtain ⟨z0, rfl, h1, h2⟩ := zI_of w0
  rw [zI_t h1 h2]
  intro N I k hN hk hC
  exact c_setA (Nat.le_trans (by decide) hN) hk hG hC h1 h2
theorem d_setSpeedLimit {g : GS} (hG : OkG g) (w0 : Int32) : Do (fun N I k => f6_setSpeedLimit N I k w0) g ((spSetV g w0.toInt).1) (spSetV g w0.toInt).2 := by
  obtain ⟨z0, rfl, h1, h2⟩ := zI_of w0
  rw [zI_t h1 h2]
  intro N I k hN hk hC
  exact c_setV (Nat.le_trans (by decide) hN) hk hG hC h1 h2
theorem d_addMove {g : GS} (hG : OkG g) (w0 : Int32) (w1 : Int32) : Do (fun N I k => f6_addMove N I k w0 w1) g ((spMove g w0.toInt w1.toInt).1) (spMove g w0.toInt w1.toInt).2 := by
  obtain ⟨z0, rfl, h1, h2⟩ := zI_of w0
  rw [zI_t h1 h2]
  obtain ⟨z1, rfl, h3, h4⟩ := zI_of w1
  rw [zI_t h3 h4]
  intro N I k hN hk hC
  exact c_move (Nat.le_trans (by decide) hN) hk hG hC h1 h2 h3 h4
theorem d_addWait {g : GS} (hG : OkG g) (w0 : Int32) : Do (fun N I k => f6_addWait N I k w0) g ((spWait g w0.toInt).1) (spWait g w0.toInt).2 := by
  obtain ⟨z0, rfl, h1, h2⟩ := zI_of w0
  rw [zI_t h1 h2]
  intro N I k hN hk hC
  exact c_wait (Nat.le_trans (by decide) hN) hk hG hC h1 h2
theorem d_step {g : GS} (hG : OkG g) : Do (fun N I k => f6_step N I k) g ((spStep g).1) (spStep g).2 := by
  intro N I k hN hk hC
  exact c_step (Nat.le_trans (by decide) hN) hk hG hC
theorem d_run {g : GS} (hG : OkG g) (w0 : Int32) : Do (fun N I k => f6_run N I k w0) g ((spRun g w0.toInt).1) (spRun g w0.toInt).2 := by
  obtain ⟨z0, rfl, h1, h2⟩ := zI_of w0
  rw [zI_t h1 h2]
  intro N I k hN hk hC
  exact c_run (Nat.le_trans (by decide) hN) hk hG hC h1 h2
theorem d_stop {g : GS} (hG : OkG g) : Do (fun N I k => f6_stop N I k) g ((spStop g).1) (spStop g).2 := by
  intro N I k hN hk hC
  exact c_stop (Nat.le_trans (by decide) hN) hk hG hC
theorem d_removeItem {g : GS} (hG : OkG g) (w0 : Int32) : Do (fun N I k => f6_removeItem N I k w0) g ((spRem g w0.toInt).1) (spRem g w0.toInt).2 := by
  obtain ⟨z0, rfl, h1, h2⟩ := zI_of w0
  rw [zI_t h1 h2]
  intro N I k hN hk hC
  exact c_rem (Nat.le_trans (by decide) hN) hk hG hC h1 h2
theorem d_undo {g : GS} (hG : OkG g) : Do (fun N I k => f6_undo N I k) g ((spUndo g).1) (spUndo g).2 := by
  intro N I k hN hk hC
  exact c_undo (Nat.le_trans (by decide) hN) hk hG hC
theorem d_ticksLeft {g : GS} (hG : OkG g) : Do (fun N I k => f6_ticksLeft N I k) g ((spLeft g).1) g := by
  intro N I k hN hk hC
  exact c_left (Nat.le_trans (by decide) hN) hG hC
theorem d_moveTicks {g : GS} (hG : OkG g) (w0 : Int32) : Do (fun N I k => f6_moveTicks N I k w0) g ((spMoveT g w0.toInt).1) g := by
  obtain ⟨z0, rfl, h1, h2⟩ := zI_of w0
  rw [zI_t h1 h2]
  intro N I k hN hk hC
  exact c_moveT (Nat.le_trans (by decide) hN) hk hG hC h1 h2
theorem d_positionAfter {g : GS} (hG : OkG g) (w0 : Int32) (w1 : Int32) : Do (fun N I k => f6_positionAfter N I k w0 w1) g ((spAfter g w0.toInt w1.toInt).1) g := by
  obtain ⟨z0, rfl, h1, h2⟩ := zI_of w0
  rw [zI_t h1 h2]
  obtain ⟨z1, rfl, h3, h4⟩ := zI_of w1
  rw [zI_t h3 h4]
  intro N I k hN hk hC
  exact c_after (Nat.le_trans (by decide) hN) hG hC h1 h2 h3 h4
theorem d_leastAcceleration {g : GS} (hG : OkG g) (w0 : Int32) (w1 : Int32) : Do (fun N I k => f6_leastAcceleration N I k w0 w1) g ((spLeast g w0.toInt w1.toInt).1) g := by
  obtain ⟨z0, rfl, h1, h2⟩ := zI_of w0
  rw [zI_t h1 h2]
  obtain ⟨z1, rfl, h3, h4⟩ := zI_of w1
  rw [zI_t h3 h4]
  intro N I k hN hk hC
  exact nowC hC (c_least (Nat.le_trans (by decide) hN) hG hC h1 h2 h3 h4)
theorem d_greatestLength {g : GS} (hG : OkG g) (w0 : Int32) : Do (fun N I k => f6_greatestLength N I k w0) g ((spGreat g w0.toInt).1) g := by
  obtain ⟨z0, rfl, h1, h2⟩ := zI_of w0
  rw [zI_t h1 h2]
  intro N I k hN hk hC
  exact c_great (Nat.le_trans (by decide) hN) hk hG hC h1 h2
theorem d_runScript {g : GS} (hG : OkG g) (w0 : Int32) (w1 : Int64) : Do (fun N I k => f6_runScript N I k w0 w1) g ((spScript g w0.toInt w1.toInt).1) g := by
  obtain ⟨z0, rfl, h1, h2⟩ := zI_of w0
  rw [zI_t h1 h2]
  obtain ⟨z1, rfl, h3, h4⟩ := yI_of w1
  rw [yI_t h3 h4]
  intro N I k hN hk hC
  exact c_script (Nat.le_trans (by decide) hN) hG hC h1 h2 h3 h4
theorem d_randomSpeeds {g : GS} (hG : OkG g) (w0 : Int64) (w1 : Int32) : Do (fun N I k => f6_randomSpeeds N I k w0 w1) g ((spRnd g w0 w1.toInt).1) g := by
  obtain ⟨z1, rfl, h1, h2⟩ := zI_of w1
  rw [zI_t h1 h2]
  intro N I k hN hk hC
  exact c_rnd w0 (Nat.le_trans (by decide) hN) hG hC h1 h2
theorem d_save {g : GS} (hG : OkG g) (w0 : Int32) : Do (fun N I k => f6_save N I k w0) g ((spSave g w0.toInt).1) (spSave g w0.toInt).2 := by
  obtain ⟨z0, rfl, h1, h2⟩ := zI_of w0
  rw [zI_t h1 h2]
  intro N I k hN hk hC
  exact c_save (Nat.le_trans (by decide) hN) hk hG hC h1 h2
theorem d_restore {g : GS} (hG : OkG g) (w0 : Int32) : Do (fun N I k => f6_restore N I k w0) g ((spRest g w0.toInt).1) (spRest g w0.toInt).2 := by
  obtain ⟨z0, rfl, h1, h2⟩ := zI_of w0
  rw [zI_t h1 h2]
  intro N I k hN hk hC
  exact c_rest (Nat.le_trans (by decide) hN) hk hG hC h1 h2
