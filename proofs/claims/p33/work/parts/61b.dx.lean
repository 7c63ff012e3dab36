/-! pieces of which only this is told: some answer, some state, the same at either place -/
theorem Do.of {α : Type} {F F' : Nat → Mem → Nat → Option (α × Mem)} {g g' : GS} {r : α} (e : ∀ N I k, 9000 ≤ N → F N I k = F' N I k) (h : Do F' g r g') : Do F g r g' := by
  intro N I k hN hk hC
  obtain ⟨I1, a1, a2⟩ := h N I k hN hk hC
  exact ⟨I1, (e N I k hN).trans a1, a2⟩
theorem sub1 {N j : Nat} (hN : 9000 ≤ N) (hj : j < 9000) : N - j = (N - (j + 1)) + 1 := by omega
def Dx (F : Nat → Mem → Nat → Option (Int32 × Mem)) (g : GS) (n : Nat) : Prop := ∃ r g', Gd g' n ∧ Do F g r g'
theorem Dx.le {F : Nat → Mem → Nat → Option (Int32 × Mem)} {g : GS} {n m : Nat} (h : Dx F g n) (hm : n ≤ m) : Dx F g m := by
  obtain ⟨r, g', a, b⟩ := h
  exact ⟨r, g', a.le hm, b⟩
theorem Dx.of {F F' : Nat → Mem → Nat → Option (Int32 × Mem)} {g : GS} {n : Nat} (e : ∀ N I k, 9000 ≤ N → F N I k = F' N I k) (h : Dx F' g n) : Dx F g n := by
  obtain ⟨r, g', a, b⟩ := h
  exact ⟨r, g', a, b.of e⟩
theorem Dx.ret {r : Int32} {g : GS} {n : Nat} (h : Gd g n) : Dx (fun _ I _ => some (r, I)) g n := ⟨r, g, h, Do.ret r g⟩
theorem Dx.bind {F : Nat → Mem → Nat → Option (Int32 × Mem)} {C : Nat → Nat → Int32 → Mem → Option (Int32 × Mem)} {g : GS} {n1 n : Nat} (h1 : Dx F g n1) (h2 : ∀ r g1, Gd g1 n1 → Dx (fun N I k => C N k r I) g1 n) : Dx (fun N I k => clP (F N I k) (fun q I1 => C N k q I1)) g n := by
  obtain ⟨r, g1, a, b⟩ := h1
  obtain ⟨r2, g2, a2, b2⟩ := h2 r g1 a
  exact ⟨r2, g2, a2, Do.bind b b2⟩
theorem Dx.br {c : Prop} {d : Decidable c} {A B : Nat → Mem → Nat → Option (Int32 × Mem)} {g : GS} {n : Nat} (h1 : c → Dx A g n) (h2 : ¬ c → Dx B g n) : Dx (fun N I k => @ite _ c d (A N I k) (B N I k)) g n := by
  by_cases h : c
  · obtain ⟨r, g', a, b⟩ := h1 h
    exact ⟨r, g', a, Do.pos h b⟩
  · obtain ⟨r, g', a, b⟩ := h2 h
    exact ⟨r, g', a, Do.neg h b⟩
theorem Dx.neg {c : Prop} {d : Decidable c} {A B : Nat → Mem → Nat → Option (Int32 × Mem)} {g : GS} {n : Nat} (h : ¬ c) (h2 : Dx B g n) : Dx (fun N I k => @ite _ c d (A N I k) (B N I k)) g n := by
  obtain ⟨r, g', a, b⟩ := h2
  exact ⟨r, g', a, Do.neg h b⟩
theorem Dx.pos {c : Prop} {d : Decidable c} {A B : Nat → Mem → Nat → Option (Int32 × Mem)} {g : GS} {n : Nat} (h : c) (h2 : Dx A g n) : Dx (fun N I k => @ite _ c d (A N I k) (B N I k)) g n := by
  obtain ⟨r, g', a, b⟩ := h2
  exact ⟨r, g', a, Do.pos h b⟩
theorem Dx.lt {β : Type} {x : β} {C : Nat → Mem → Nat → β → Option (Int32 × Mem)} {g : GS} {n : Nat} (h : Dx (fun N I k => C N I k x) g n) : Dx (fun N I k => letM x (fun y => C N I k y)) g n := h
/-- the same with the answer 1 -/
def D1 (F : Nat → Mem → Nat → Option (Int32 × Mem)) (g : GS) (n : Nat) : Prop := ∃ g', Gd g' n ∧ Do F g (1 : Int32) g'
theorem D1.le {F : Nat → Mem → Nat → Option (Int32 × Mem)} {g : GS} {n m : Nat} (h : D1 F g n) (hm : n ≤ m) : D1 F g m := by
  obtain ⟨g', a, b⟩ := h
  exact ⟨g', a.le hm, b⟩
theorem D1.of {F F' : Nat → Mem → Nat → Option (Int32 × Mem)} {g : GS} {n : Nat} (e : ∀ N I k, 9000 ≤ N → F N I k = F' N I k) (h : D1 F' g n) : D1 F g n := by
  obtain ⟨g', a, b⟩ := h
  exact ⟨g', a, b.of e⟩
theorem D1.ret {g : GS} {n : Nat} (h : Gd g n) : D1 (fun _ I _ => some ((1 : Int32), I)) g n := ⟨g, h, Do.ret _ g⟩
theorem D1.call {α : Type} {F : Nat → Mem → Nat → Option (α × Mem)} {C : Nat → Nat → α → Mem → Option (Int32 × Mem)} {g g1 : GS} {r : α} {n : Nat} (h1 : Do F g r g1) (h2 : D1 (fun N I k => C N k r I) g1 n) : D1 (fun N I k => clP (F N I k) (fun q I1 => C N k q I1)) g n := by
  obtain ⟨g2, a2, b2⟩ := h2
  exact ⟨g2, a2, Do.bind h1 b2⟩
theorem D1.neg {c : Prop} {d : Decidable c} {A B : Nat → Mem → Nat → Option (Int32 × Mem)} {g : GS} {n : Nat} (h : ¬ c) (h2 : D1 B g n) : D1 (fun N I k => @ite _ c d (A N I k) (B N I k)) g n := by
  obtain ⟨g', a, b⟩ := h2
  exact ⟨g', a, Do.neg h b⟩
theorem D1.pos {c : Prop} {d : Decidable c} {A B : Nat → Mem → Nat → Option (Int32 × Mem)} {g : GS} {n : Nat} (h : c) (h2 : D1 A g n) : D1 (fun N I k => @ite _ c d (A N I k) (B N I k)) g n := by
  obtain ⟨g', a, b⟩ := h2
  exact ⟨g', a, Do.pos h b⟩
theorem D1.br {c : Prop} {d : Decidable c} {A B : Nat → Mem → Nat → Option (Int32 × Mem)} {g : GS} {n : Nat} (h1 : c → D1 A g n) (h2 : ¬ c → D1 B g n) : D1 (fun N I k => @ite _ c d (A N I k) (B N I k)) g n := by
  by_cases h : c
  · exact D1.pos h (h1 h)
  · exact D1.neg h (h2 h)
theorem D1.lt {β : Type} {x : β} {C : Nat → Mem → Nat → β → Option (Int32 × Mem)} {g : GS} {n : Nat} (h : D1 (fun N I k => C N I k x) g n) : D1 (fun N I k => letM x (fun y => C N I k y)) g n := h
/-! the calls that change a planner -/
theorem dx_append {g : GS} {n : Nat} (hg : Gd g n) (hn : n < 100000) (w0 : Int32) : Dx (fun N I k => f6_append N I k w0) g (n + 1) := ⟨_, _, gd_app hg, d_append hg.1 w0⟩
theorem dx_clearText {g : GS} {n : Nat} (hg : Gd g n) (hn : n < 100000) : Dx (fun N I k => f6_clearText N I k) g (n + 1) := ⟨_, _, gd_clr hg, d_clearText hg.1⟩
theorem dx_setAcceleration {g : GS} {n : Nat} (hg : Gd g n) (hn : n < 100000) (w0 : Int32) : Dx (fun N I k => f6_setAcceleration N I k w0) g (n + 1) := ⟨_, _, gd_setA hg hn, d_setAcceleration hg.1 w0⟩
theorem dx_setSpeedLimit {g : GS} {n : Nat} (hg : Gd g n) (hn : n < 100000) (w0 : Int32) : Dx (fun N I k => f6_setSpeedLimit N I k w0) g (n + 1) := ⟨_, _, gd_setV hg hn, d_setSpeedLimit hg.1 w0⟩
theorem dx_addMove {g : GS} {n : Nat} (hg : Gd g n) (hn : n < 100000) (w0 : Int32) (w1 : Int32) : Dx (fun N I k => f6_addMove N I k w0 w1) g (n + 1) := ⟨_, _, gd_move hg hn, d_addMove hg.1 w0 w1⟩
theorem dx_addWait {g : GS} {n : Nat} (hg : Gd g n) (hn : n < 100000) (w0 : Int32) : Dx (fun N I k => f6_addWait N I k w0) g (n + 1) := ⟨_, _, gd_wait hg hn, d_addWait hg.1 w0⟩
theorem dx_step {g : GS} {n : Nat} (hg : Gd g n) (hn : n < 100000) : Dx (fun N I k => f6_step N I k) g (n + 1) := ⟨_, _, gd_step hg hn, d_step hg.1⟩
theorem dx_run {g : GS} {n : Nat} (hg : Gd g n) (hn : n < 100000) (w0 : Int32) : Dx (fun N I k => f6_run N I k w0) g (n + 1) := ⟨_, _, gd_run hg hn, d_run hg.1 w0⟩
theorem dx_stop {g : GS} {n : Nat} (hg : Gd g n) (hn : n < 100000) : Dx (fun N I k => f6_stop N I k) g (n + 1) := ⟨_, _, gd_stop hg hn, d_stop hg.1⟩
theorem dx_removeItem {g : GS} {n : Nat} (hg : Gd g n) (hn : n < 100000) (w0 : Int32) : Dx (fun N I k => f6_removeItem N I k w0) g (n + 1) := ⟨_, _, gd_rem hg hn, d_removeItem hg.1 w0⟩
theorem dx_undo {g : GS} {n : Nat} (hg : Gd g n) (hn : n < 100000) : Dx (fun N I k => f6_undo N I k) g (n + 1) := ⟨_, _, gd_undo hg, d_undo hg.1⟩
theorem dx_save {g : GS} {n : Nat} (hg : Gd g n) (hn : n < 100000) (w0 : Int32) : Dx (fun N I k => f6_save N I k w0) g (n + 1) := ⟨_, _, gd_save hg, d_save hg.1 w0⟩
theorem dx_restore {g : GS} {n : Nat} (hg : Gd g n) (hn : n < 100000) (w0 : Int32) : Dx (fun N I k => f6_restore N I k w0) g (n + 1) := ⟨_, _, gd_rest hg, d_restore hg.1 w0⟩
theorem dx_load {g : GS} {n : Nat} (hg : Gd g n) : Dx (fun N I k => f6_load N I k) g (n + 1) := by
  by_cases h : ∃ (I : Mem) (k : Nat), CInv I k g
  · obtain ⟨I, k, hC⟩ := h
    exact ⟨_, _, gd_load (rd_bd (N := 9000) (by decide) hg.1 hC) hg, d_load hg.1⟩
  · exact ⟨0, g, hg.up, fun N I k _ _ hC => absurd ⟨I, k, hC⟩ h⟩
