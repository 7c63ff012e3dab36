/-! ACT: an action by lot does the same to both planners -/
theorem z_remI {y m : Int} (h1 : 0 ≤ y) (h2 : y < 2147483648) (h3 : 0 < m) (h4 : m < 2147483648) : zI y - zI y / zI m * zI m = zI (y % m) := by
  rw [z_div (by omega) h2 (by omega) h4, z_mul, z_sub, Int.tdiv_eq_ediv_of_nonneg h1, Int.emod_def, Int.mul_comm]
theorem z_divI {y m : Int} (h1 : 0 ≤ y) (h2 : y < 2147483648) (h3 : 0 < m) (h4 : m < 2147483648) : zI y / zI m = zI (y / m) := by
  rw [z_div (by omega) h2 (by omega) h4, Int.tdiv_eq_ediv_of_nonneg h1]
theorem w_dig0 {a1 a2 : Int32} {j : Nat} (hj : j < 100) {g : GS} {n : Nat} (hg : Gd g n) (s : Int32) : Dx (fun N I k => fL_digits_17 N k a1 a2 (N - j) I s (zI 0)) g n := by
  refine Dx.of (fun N I k hN => (congrArg (fun c => fL_digits_17 N k a1 a2 c I s (zI 0)) (sub1 hN (by omega))).trans (fL_digits_17.eq_2 ..)) ?_
  exact Dx.pos (by decide) (Dx.ret hg)
theorem w_digS {a1 a2 : Int32} {j e : Nat} {p q : Int} (hj : j < 100) (hp : 1 ≤ p) (hp2 : p ≤ 1000) (hq : p / 10 = q) (IH : ∀ (g : GS) (n : Nat) (s : Int32), n < 99000 - e → Gd g n → Dx (fun N I k => fL_digits_17 N k a1 a2 (N - (j + 1)) I s (zI q)) g (n + e)) :
    ∀ (g : GS) (n : Nat) (s : Int32), n < 99000 - (e + 1) → Gd g n → Dx (fun N I k => fL_digits_17 N k a1 a2 (N - j) I s (zI p)) g (n + (e + 1)) := by
  intro g n s hn hg
  refine Dx.of (fun N I k hN => (congrArg (fun c => fL_digits_17 N k a1 a2 c I s (zI p)) (sub1 hN (by omega))).trans (fL_digits_17.eq_2 ..)) ?_
  refine Dx.neg ?_ ?_
  · rw [l_0, z_le (by omega) (by omega) (by omega) (by omega)]; omega
  refine Dx.neg ?_ ?_
  · rw [l_0, z_eq (by omega) (by omega) (by omega) (by omega)]; omega
  refine Dx.bind (dx_append hg (by omega) _) (fun r g1 hg1 => ?_)
  refine Dx.lt (Dx.lt ?_)
  rw [l_10, z_divI (by omega) (by omega) (by omega) (by omega), hq]
  exact (IH g1 (n + 1) _ (by omega) hg1).le (by omega)
theorem w_dig3 {a1 a2 : Int32} {j : Nat} (hj : j < 10) : ∀ (g : GS) (n : Nat) (s : Int32), n < 99000 - 3 → Gd g n → Dx (fun N I k => fL_digits_17 N k a1 a2 (N - j) I s (zI 100)) g (n + 3) :=
  w_digS (e := 2) (q := 10) (by omega) (by decide) (by decide) (by decide) (w_digS (e := 1) (q := 1) (by omega) (by decide) (by decide) (by decide) (w_digS (e := 0) (q := 0) (by omega) (by decide) (by decide) (by decide) (fun _ _ s _ hg => w_dig0 (by omega) hg s)))
theorem w_digits {g : GS} {n : Nat} (hg : Gd g n) (hn : n < 98000) (a1 a2 : Int32) : Dx (fun N I k => fL_digits N I k a1 a2) g (n + 4) := by
  unfold fL_digits
  refine Dx.br (fun _ => ?_) (fun _ => ?_)
  · unfold fL_digits_15
    exact w_digS (a1 := a1) (a2 := a2) (j := 0) (e := 3) (p := 1000) (q := 100) (by omega) (by decide) (by decide) (by decide) (w_dig3 (by omega)) g n _ (by omega) hg
  · unfold fL_digits_15
    exact (w_dig3 (a1 := a1) (a2 := a2) (j := 0) (by omega) g n _ (by omega) hg).le (by omega)
theorem w_load253 {g : GS} {n : Nat} (hg : Gd g n) (a1 a2 s0 s1 : Int32) : Dx (fun N I k => fL_load_253 N k a1 a2 I s0 s1) g (n + 1) := by
  unfold fL_load_253
  refine Dx.lt ?_
  exact Dx.bind (dx_load hg) (fun _ _ hg => Dx.ret hg)
theorem w_load66 (a1 : Int32) {y : Int} (hy : 0 ≤ y) (hy2 : y < 2147483648) : ∀ (e j v : Nat) (v5 : Int32) (g : GS) (n : Nat) (s z : Int32), v + e = (y % 6).toNat → j + e ≤ 100 → v5 = zI (v : Int) → Gd g n → n + 20 * e < 97000 → Dx (fun N I k => fL_load_66 N k a1 (zI y) (N - j) I s z v5) g (n + 20 * e + 5) := by
  intro e
  induction e with
  | zero =>
    intro j v v5 g n s z hv hj h5 hg hn
    subst h5
    refine Dx.of (fun N I k hN => (congrArg (fun c => fL_load_66 N k a1 (zI y) c I s z (zI (v : Int))) (sub1 hN (by omega))).trans (fL_load_66.eq_2 ..)) ?_
    have h4 : zI y - zI y / (4 : Int32) * (4 : Int32) = zI (y % 4) := by rw [l_4, z_remI hy hy2 (by decide) (by decide)]
    have h6 : zI y - zI y / (6 : Int32) * (6 : Int32) = zI (y % 6) := by rw [l_6, z_remI hy hy2 (by decide) (by decide)]
    rw [h4, h6]
    refine Dx.pos ?_ ?_
    · rw [z_le (by omega) (by omega) (by omega) (by omega)]; omega
    refine Dx.br (fun _ => ?_) (fun _ => ?_)
    · refine Dx.neg ?_ ?_
      · rw [l_0, z_lt (by omega) (by omega) (by omega) (by omega), z_nat (by omega) (by omega)]; omega
      refine Dx.bind (dx_append hg (by omega) _) (fun _ _ hg => ?_)
      exact (w_load253 hg _ _ _ _).le (by omega)
    · exact (w_load253 hg _ _ _ _).le (by omega)
  | succ e ih =>
    intro j v v5 g n s z hv hj h5 hg hn
    subst h5
    refine Dx.of (fun N I k hN => (congrArg (fun c => fL_load_66 N k a1 (zI y) c I s z (zI (v : Int))) (sub1 hN (by omega))).trans (fL_load_66.eq_2 ..)) ?_
    have h6 : zI y - zI y / (6 : Int32) * (6 : Int32) = zI (y % 6) := by rw [l_6, z_remI hy hy2 (by decide) (by decide)]
    have h1 : zI (v : Int) + (1 : Int32) = zI ((v + 1 : Nat) : Int) := by rw [l_1, z_add]; rfl
    refine Dx.neg ?_ ?_
    · rw [h6, z_le (by omega) (by omega) (by omega) (by omega)]; omega
    repeat' (first
      | exact (ih (j + 1) (v + 1) _ _ _ _ _ (by omega) (by omega) h1 hg (by omega)).le (by omega)
      | refine Dx.bind (dx_append hg (by omega) _) (fun _ _ hg => ?_)
      | refine Dx.bind (w_digits hg (by omega) _ _) (fun _ _ hg => ?_)
      | refine Dx.br (fun _ => ?_) (fun _ => ?_)
      | refine Dx.lt ?_)
theorem w_load {g : GS} {n : Nat} (hg : Gd g n) (hn : n < 90000) (a1 : Int32) {y : Int} (hy : 0 ≤ y) (hy2 : y < 2147483648) : Dx (fun N I k => fL_load N I k a1 (zI y)) g (n + 200) := by
  have h29 : ∀ (g : GS) (n : Nat) (s0 s1 s3 : Int32), n < 95000 → Gd g n → Dx (fun N I k => fL_load_29 N k a1 (zI y) I s0 s1 s3) g (n + 150) := by
    intro g n s0 s1 s3 hn hg
    unfold fL_load_29
    refine Dx.bind (w_digits hg (by omega) _ _) (fun _ _ hg => ?_)
    refine Dx.bind (dx_append hg (by omega) _) (fun _ _ hg => ?_)
    refine Dx.bind (w_digits hg (by omega) _ _) (fun _ _ hg => ?_)
    refine Dx.lt ?_
    exact (w_load66 a1 hy hy2 (y % 6).toNat 0 0 (0 : Int32) _ _ _ _ (by omega) (by omega) l_0 hg (by omega)).le (by omega)
  unfold fL_load
  refine Dx.bind (dx_clearText hg (by omega)) (fun _ _ hg => ?_)
  refine Dx.bind (dx_append hg (by omega) _) (fun _ _ hg => ?_)
  refine Dx.br (fun _ => ?_) (fun _ => ?_)
  · exact (h29 _ _ _ _ _ (by omega) hg).le (by omega)
  · exact (h29 _ _ _ _ _ (by omega) hg).le (by omega)
theorem w_act {g : GS} {n : Nat} (hg : Gd g n) (hn : n < 90000) (a1 : Int32) {y : Int} (hy : 0 ≤ y) (hy2 : y < 2147483648) : Dx (fun N I k => fL_act N I k a1 (zI y)) g (n + 200) := by
  unfold fL_act
  refine Dx.lt ?_
  refine Dx.br (fun _ => Dx.bind (w_load hg hn _ hy hy2) (fun _ _ hg => Dx.ret hg)) (fun _ => ?_)
  refine Dx.br (fun _ => Dx.bind (w_load hg hn _ hy hy2) (fun _ _ hg => Dx.ret hg)) (fun _ => ?_)
  refine Dx.br (fun _ => Dx.bind (dx_setAcceleration hg (by omega) _) (fun _ _ hg => Dx.ret (hg.le (by omega)))) (fun _ => ?_)
  refine Dx.br (fun _ => Dx.bind (dx_setSpeedLimit hg (by omega) _) (fun _ _ hg => Dx.ret (hg.le (by omega)))) (fun _ => ?_)
  refine Dx.br (fun _ => Dx.bind (dx_addMove hg (by omega) _ _) (fun _ _ hg => Dx.ret (hg.le (by omega)))) (fun _ => ?_)
  refine Dx.br (fun _ => Dx.bind (dx_addMove hg (by omega) _ _) (fun _ _ hg => Dx.ret (hg.le (by omega)))) (fun _ => ?_)
  refine Dx.br (fun _ => Dx.bind (dx_addWait hg (by omega) _) (fun _ _ hg => Dx.ret (hg.le (by omega)))) (fun _ => ?_)
  refine Dx.br (fun _ => Dx.bind (dx_step hg (by omega)) (fun _ _ hg => Dx.ret (hg.le (by omega)))) (fun _ => ?_)
  refine Dx.br (fun _ => Dx.bind (dx_step hg (by omega)) (fun _ _ hg => Dx.ret (hg.le (by omega)))) (fun _ => ?_)
  refine Dx.br (fun _ => Dx.bind (dx_run hg (by omega) _) (fun _ _ hg => Dx.ret (hg.le (by omega)))) (fun _ => ?_)
  refine Dx.br (fun _ => Dx.bind (dx_run hg (by omega) _) (fun _ _ hg => Dx.ret (hg.le (by omega)))) (fun _ => ?_)
  refine Dx.br (fun _ => Dx.bind (dx_stop hg (by omega)) (fun _ _ hg => Dx.ret (hg.le (by omega)))) (fun _ => ?_)
  refine Dx.br (fun _ => Dx.bind (dx_removeItem hg (by omega) _) (fun _ _ hg => Dx.ret (hg.le (by omega)))) (fun _ => ?_)
  refine Dx.br (fun _ => Dx.bind (dx_undo hg (by omega)) (fun _ _ hg => Dx.ret (hg.le (by omega)))) (fun _ => ?_)
  refine Dx.br (fun _ => Dx.bind (dx_save hg (by omega) _) (fun _ _ hg => Dx.ret (hg.le (by omega)))) (fun _ => ?_)
  exact Dx.bind (dx_restore hg (by omega) _) (fun _ _ hg => Dx.ret (hg.le (by omega)))
