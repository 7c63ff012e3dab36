theorem wz_lay {g : GG} {c0 : Nat → va_E} {I : Mem} {H : Heap} (h : Wz g c0 0 ((List.range NT).map (lay g I)) H) : Wp g I H := by
  unfold Wz at h
  unfold Wp
  rw [List.length_map, List.length_range, Nat.zero_add] at h
  rw [wl_congr (c' := cx c0 0 ((List.range NT).map (lay g I))) (fun k hk => ?_)]
  · exact h
  · unfold cx
    rw [if_neg (Nat.not_lt_zero k), List.getD_eq_getElem?_getD, Nat.sub_zero, List.getElem?_map, List.getElem?_range hk]
    rfl
theorem nw_of {s : State} {args : Array Value} (hts : ∀ w ∈ lw_tbl, w.before args s = true) : NW s := by
  refine ⟨va_Nw.of rfl (hts _ (List.mem_append_right _ (List.mem_of_getElem? (i := 23) (by decide +kernel)))), va_Nw.of rfl (hts _ (List.mem_append_right _ (List.mem_of_getElem? (i := 44) (by decide +kernel)))), va_Nw.of rfl (hts _ (List.mem_append_right _ (List.mem_of_getElem? (i := 102) (by decide +kernel)))), va_Nw.of rfl (hts _ (List.mem_append_right _ (List.mem_of_getElem? (i := 116) (by decide +kernel)))), va_Nw.of rfl (hts _ (List.mem_append_right _ (List.mem_of_getElem? (i := 121) (by decide +kernel)))), va_Nw.of rfl (hts _ (List.mem_append_right _ (List.mem_of_getElem? (i := 132) (by decide +kernel)))), va_AO.of (hts _ (List.mem_append_right _ (List.mem_of_getElem? (i := 101) (by decide +kernel))))⟩
theorem y_of {s : State} {args : Array Value} {b L : Nat} {xs : Nat → Int32} (hts : ∀ w ∈ lw_tbl, w.before args s = true) (hgv : (Jvm.Cond.and given_1 narrow_1).before args s = true) (hX : va_X b L xs s s.heap) (hbl : b < s.heap.size) : ∃ sa ba : Nat, ∀ g : GG, g.1 = s.heap.size → g.2.2.2.2.2.2 = (sa, ba, b, L, xs) → Yw g s s.heap := by
  have hs := flat_of_before _ hgv
  have hA : ∀ a : Nat, a < s.heap.size → ¬ s.heap.size ≤ a := fun a h => by omega
  have z1 : ∀ {i : Nat}, i < 1 → i = 0 := fun h => by omega
  obtain ⟨adK, adV, hE, ha⟩ := vk_Sof (N := 1) (tm := fun _ => .string "StepperPlannerLaw" 103) (len := [4]) (byt := [m09]) (A := fun q => s.heap.size ≤ q) (args := args) (s := s) (fun i h => by rw [z1 h]; decide) (fun _ _ => hs _ (by decide +kernel)) (fun _ _ => hs _ (by decide +kernel)) (fun _ _ => hs _ (by decide +kernel)) (fun i h => by rw [z1 h]; exact hs _ (by decide +kernel)) (fun i h j hj => by
    cases z1 h
    have hj : j < 4 := hj
    rcases (show j = 0 ∨ j = 1 ∨ j = 2 ∨ j = 3 by omega) with rfl | rfl | rfl | rfl <;> exact hs _ (by decide +kernel)) (fun i j hi hj h => absurd ((z1 hi).trans (z1 hj).symm) h) hA
  refine ⟨adK 0, adV 0, fun g hg hy => ?_⟩
  have e1 : gS g = adK 0 := by rw [gS, hy]
  have e2 : gV g = adV 0 := by rw [gV, hy]
  have e3 : gB g = b := by rw [gB, hy]
  have e4 : gL g = L := by rw [gL, hy]
  have e5 : gX g = xs := by rw [gX, hy]
  have eA : gA g = fun q => s.heap.size ≤ q := by funext q; show (g.1 ≤ q) = _; rw [hg]
  unfold Yw
  rw [e1, e2, e3, e4, e5, eA]
  obtain ⟨h1, h2, h3, h4⟩ := hE.1 0 (by omega)
  exact ⟨h1, h2, h3, h4, va_Zof (hts _ (List.mem_append_right _ (List.mem_of_getElem? (i := 517) (by decide +kernel)))) (hts _ (List.mem_append_right _ (List.mem_of_getElem? (i := 9) (by decide +kernel)))) (va_eqi (hs _ (by decide +kernel))) hA, va_Zqof (hts _ (List.mem_append_right _ (List.mem_of_getElem? (i := 525) (by decide +kernel)))) (hts _ (List.mem_append_right _ (List.mem_of_getElem? (i := 11) (by decide +kernel)))) (hs _ (by decide +kernel)) hA, vk_R.of (hts _ (List.mem_append_right _ (List.mem_of_getElem? (i := 507) (by decide +kernel)))) (ha 0 (by omega)), hX, hbl, fun q => hA b hbl q⟩
theorem g_of {s : State} {args : Array Value} (hts : ∀ w ∈ lw_tbl, w.before args s = true) (y : YY) : ∃ g : GG, g.1 = s.heap.size ∧ Lin g ∧ va_K (gD g) vwCl (gT g) s ∧ g.2.2.2.2.2.2 = y := by
  obtain ⟨c0, i0, h0⟩ := u_known (C := RX0) (T := TX0) (N := 3) (n := 3) hts (fun w hw => tb_lw w (inX0 w hw)) (hts (.instantiable RX0 3) (List.mem_append_right _ (List.mem_of_getElem? (i := 95) (by decide +kernel))))
  obtain ⟨c1, i1, h1⟩ := u_known (C := RX2) (T := TX2) (N := 5) (n := 5) hts (fun w hw => tb_lw w (inX2 w hw)) (hts (.instantiable RX2 5) (List.mem_append_right _ (List.mem_of_getElem? (i := 131) (by decide +kernel))))
  obtain ⟨c2, i2, h2⟩ := u_known (C := RX3) (T := TX3) (N := 2) (n := 2) hts (fun w hw => tb_lw w (inX3 w hw)) (hts (.instantiable RX3 2) (List.mem_append_right _ (List.mem_of_getElem? (i := 115) (by decide +kernel))))
  obtain ⟨c3, i3, h3⟩ := u_known (C := RX4) (T := TX4) (N := 4) (n := 4) hts (fun w hw => tb_lw w (inX4 w hw)) (hts (.instantiable RX4 4) (List.mem_append_right _ (List.mem_of_getElem? (i := 22) (by decide +kernel))))
  obtain ⟨c4, i4, h4⟩ := u_known (C := RX5) (T := TX5) (N := 12) (n := 12) hts (fun w hw => tb_lw w (inX5 w hw)) (hts (.instantiable RX5 12) (List.mem_append_right _ (List.mem_of_getElem? (i := 43) (by decide +kernel))))
  obtain ⟨c5, i5, h5⟩ := u_known (C := RX6) (T := TX6) (N := 7) (n := 7) hts (fun w hw => tb_lw w (inX6 w hw)) (hts (.instantiable RX6 7) (List.mem_append_right _ (List.mem_of_getElem? (i := 14) (by decide +kernel))))
  have hI := hts (.arrayClass .int) (List.mem_append_right _ (List.mem_of_getElem? (i := 41) (by decide +kernel)))
  have hR := hts (.arrayOver (.object RX5)) (List.mem_append_right _ (List.mem_of_getElem? (i := 101) (by decide +kernel)))
  obtain ⟨cI, kI, pI, I1, I2, I3⟩ := Cond.arrayClass_spec hI
  obtain ⟨pR, cR, kR, R1, -, R2, R3, R4⟩ := Cond.arrayOver_spec hR
  refine ⟨(s.heap.size, fun k => s.heap.size + k, (fun k => if k = 0 then c0 else if k = 1 then c1 else if k = 2 then c2 else if k = 3 then c3 else if k = 4 then c4 else c5, fun k => if k = 0 then i0 else if k = 1 then i1 else if k = 2 then i2 else if k = 3 then i3 else if k = 4 then i4 else i5), cI, cI, cR, y), rfl, fun k => rfl, ⟨?_, ?_⟩, rfl⟩
  · intro k q hq
    match k, hq with
    | 0, hq => cases hq; exact h0
    | 1, hq => cases hq; exact h1
    | 2, hq => cases hq; exact h2
    | 3, hq => cases hq; exact h3
    | 4, hq => cases hq; exact h4
    | 5, hq => cases hq; exact h5
    | k + 6, hq => simp [vwCl] at hq
  · intro k q hq
    match k, hq with
    | 0, hq => cases hq; exact ⟨fun n z => ⟨fun k h => (by cases h), kI, I2, pI, I3⟩, I1⟩
    | 1, hq => cases hq; exact ⟨fun n z => ⟨fun k h => (by cases h), kI, I2, pI, I3⟩, I1⟩
    | 2, hq => cases hq; exact ⟨fun n z => ⟨fun k h => (by cases h), kR, R2, pR, R3⟩, kR, pR, R2, R3, R1, R4⟩
    | k + 3, hq => simp at hq
def I00 : Mem := fun k => if tag k = 4 then (fun j => if j = 0 then 100 else if j = 1 then 200 else 0) else fun _ => 0
/-- a new planner's cells -/
def plk (g : GG) (k : Nat) : List va_E := [.inr (5, [.ref (ga g (k + 1)), .ref (ga g (k + 3)), .ref (ga g (k + 7)), .ref (ga g (k + 11)), .ref (ga g (k + 69)), .ref (ga g (k + 74)), .ref (ga g (k + 79))]), .inr (3, [.ref (ga g (k + 2)), .int 0, .int 0, .int 0]), .inl (g.2.2.2.1, 80, .inl (fun _ => 0)), .inr (4, [.int 100, .int 200, .int 0, .int 0, .int 0, .int 0, .ref (ga g (k + 4)), .ref (ga g (k + 5)), .ref (ga g (k + 6)), .int 0, .int 0, .int 0]), .inl (g.2.2.2.1, 8, .inl (fun _ => 0)), .inl (g.2.2.2.1, 8, .inl (fun _ => 0)), .inl (g.2.2.2.1, 8, .inl (fun _ => 0)), .inr (4, [.int 100, .int 200, .int 0, .int 0, .int 0, .int 0, .ref (ga g (k + 8)), .ref (ga g (k + 9)), .ref (ga g (k + 10)), .int 0, .int 0, .int 0]), .inl (g.2.2.2.1, 8, .inl (fun _ => 0)), .inl (g.2.2.2.1, 8, .inl (fun _ => 0)), .inl (g.2.2.2.1, 8, .inl (fun _ => 0)), .inr (0, [.ref (ga g (k + 12)), .int 0, .int 0]), .inl (g.2.2.2.2.2.1, 14, .inr (.inr (.inr (.inr (fun j => some (ga g (k + 13 + 4 * j))))))), .inr (4, [.int 100, .int 200, .int 0, .int 0, .int 0, .int 0, .ref (ga g (k + 14)), .ref (ga g (k + 15)), .ref (ga g (k + 16)), .int 0, .int 0, .int 0]), .inl (g.2.2.2.1, 8, .inl (fun _ => 0)), .inl (g.2.2.2.1, 8, .inl (fun _ => 0)), .inl (g.2.2.2.1, 8, .inl (fun _ => 0)), .inr (4, [.int 100, .int 200, .int 0, .int 0, .int 0, .int 0, .ref (ga g (k + 18)), .ref (ga g (k + 19)), .ref (ga g (k + 20)), .int 0, .int 0, .int 0]), .inl (g.2.2.2.1, 8, .inl (fun _ => 0)), .inl (g.2.2.2.1, 8, .inl (fun _ => 0)), .inl (g.2.2.2.1, 8, .inl (fun _ => 0)), .inr (4, [.int 100, .int 200, .int 0, .int 0, .int 0, .int 0, .ref (ga g (k + 22)), .ref (ga g (k + 23)), .ref (ga g (k + 24)), .int 0, .int 0, .int 0]), .inl (g.2.2.2.1, 8, .inl (fun _ => 0)), .inl (g.2.2.2.1, 8, .inl (fun _ => 0)), .inl (g.2.2.2.1, 8, .inl (fun _ => 0)), .inr (4, [.int 100, .int 200, .int 0, .int 0, .int 0, .int 0, .ref (ga g (k + 26)), .ref (ga g (k + 27)), .ref (ga g (k + 28)), .int 0, .int 0, .int 0]), .inl (g.2.2.2.1, 8, .inl (fun _ => 0)), .inl (g.2.2.2.1, 8, .inl (fun _ => 0)), .inl (g.2.2.2.1, 8, .inl (fun _ => 0)), .inr (4, [.int 100, .int 200, .int 0, .int 0, .int 0, .int 0, .ref (ga g (k + 30)), .ref (ga g (k + 31)), .ref (ga g (k + 32)), .int 0, .int 0, .int 0]), .inl (g.2.2.2.1, 8, .inl (fun _ => 0)), .inl (g.2.2.2.1, 8, .inl (fun _ => 0)), .inl (g.2.2.2.1, 8, .inl (fun _ => 0)), .inr (4, [.int 100, .int 200, .int 0, .int 0, .int 0, .int 0, .ref (ga g (k + 34)), .ref (ga g (k + 35)), .ref (ga g (k + 36)), .int 0, .int 0, .int 0]), .inl (g.2.2.2.1, 8, .inl (fun _ => 0)), .inl (g.2.2.2.1, 8, .inl (fun _ => 0)), .inl (g.2.2.2.1, 8, .inl (fun _ => 0)), .inr (4, [.int 100, .int 200, .int 0, .int 0, .int 0, .int 0, .ref (ga g (k + 38)), .ref (ga g (k + 39)), .ref (ga g (k + 40)), .int 0, .int 0, .int 0]), .inl (g.2.2.2.1, 8, .inl (fun _ => 0)), .inl (g.2.2.2.1, 8, .inl (fun _ => 0)), .inl (g.2.2.2.1, 8, .inl (fun _ => 0)), .inr (4, [.int 100, .int 200, .int 0, .int 0, .int 0, .int 0, .ref (ga g (k + 42)), .ref (ga g (k + 43)), .ref (ga g (k + 44)), .int 0, .int 0, .int 0]), .inl (g.2.2.2.1, 8, .inl (fun _ => 0)), .inl (g.2.2.2.1, 8, .inl (fun _ => 0)), .inl (g.2.2.2.1, 8, .inl (fun _ => 0)), .inr (4, [.int 100, .int 200, .int 0, .int 0, .int 0, .int 0, .ref (ga g (k + 46)), .ref (ga g (k + 47)), .ref (ga g (k + 48)), .int 0, .int 0, .int 0]), .inl (g.2.2.2.1, 8, .inl (fun _ => 0)), .inl (g.2.2.2.1, 8, .inl (fun _ => 0)), .inl (g.2.2.2.1, 8, .inl (fun _ => 0)), .inr (4, [.int 100, .int 200, .int 0, .int 0, .int 0, .int 0, .ref (ga g (k + 50)), .ref (ga g (k + 51)), .ref (ga g (k + 52)), .int 0, .int 0, .int 0]), .inl (g.2.2.2.1, 8, .inl (fun _ => 0)), .inl (g.2.2.2.1, 8, .inl (fun _ => 0)), .inl (g.2.2.2.1, 8, .inl (fun _ => 0)), .inr (4, [.int 100, .int 200, .int 0, .int 0, .int 0, .int 0, .ref (ga g (k + 54)), .ref (ga g (k + 55)), .ref (ga g (k + 56)), .int 0, .int 0, .int 0]), .inl (g.2.2.2.1, 8, .inl (fun _ => 0)), .inl (g.2.2.2.1, 8, .inl (fun _ => 0)), .inl (g.2.2.2.1, 8, .inl (fun _ => 0)), .inr (4, [.int 100, .int 200, .int 0, .int 0, .int 0, .int 0, .ref (ga g (k + 58)), .ref (ga g (k + 59)), .ref (ga g (k + 60)), .int 0, .int 0, .int 0]), .inl (g.2.2.2.1, 8, .inl (fun _ => 0)), .inl (g.2.2.2.1, 8, .inl (fun _ => 0)), .inl (g.2.2.2.1, 8, .inl (fun _ => 0)), .inr (4, [.int 100, .int 200, .int 0, .int 0, .int 0, .int 0, .ref (ga g (k + 62)), .ref (ga g (k + 63)), .ref (ga g (k + 64)), .int 0, .int 0, .int 0]), .inl (g.2.2.2.1, 8, .inl (fun _ => 0)), .inl (g.2.2.2.1, 8, .inl (fun _ => 0)), .inl (g.2.2.2.1, 8, .inl (fun _ => 0)), .inr (4, [.int 100, .int 200, .int 0, .int 0, .int 0, .int 0, .ref (ga g (k + 66)), .ref (ga g (k + 67)), .ref (ga g (k + 68)), .int 0, .int 0, .int 0]), .inl (g.2.2.2.1, 8, .inl (fun _ => 0)), .inl (g.2.2.2.1, 8, .inl (fun _ => 0)), .inl (g.2.2.2.1, 8, .inl (fun _ => 0)), .inr (2, [.ref (ga g (k + 70)), .int 0]), .inr (4, [.int 100, .int 200, .int 0, .int 0, .int 0, .int 0, .ref (ga g (k + 71)), .ref (ga g (k + 72)), .ref (ga g (k + 73)), .int 0, .int 0, .int 0]), .inl (g.2.2.2.1, 8, .inl (fun _ => 0)), .inl (g.2.2.2.1, 8, .inl (fun _ => 0)), .inl (g.2.2.2.1, 8, .inl (fun _ => 0)), .inr (2, [.ref (ga g (k + 75)), .int 0]), .inr (4, [.int 100, .int 200, .int 0, .int 0, .int 0, .int 0, .ref (ga g (k + 76)), .ref (ga g (k + 77)), .ref (ga g (k + 78)), .int 0, .int 0, .int 0]), .inl (g.2.2.2.1, 8, .inl (fun _ => 0)), .inl (g.2.2.2.1, 8, .inl (fun _ => 0)), .inl (g.2.2.2.1, 8, .inl (fun _ => 0)), .inr (1, [.int 0, .int 0, .int 0, .int 0, .ref (ga g (k + 80))]), .inl (g.2.2.2.1, 1001, .inl (fun _ => 0))]
theorem plk_len (g : GG) (k : Nat) : (plk g k).length = 81 := rfl
theorem cX6_k (l : Launch) (g : GG) (hg : Lin g) (c0 : Nat → va_E) (k : Nat) : Mn l g yX6_init cX6_init 1 rm6_init c0 k [.inr (5, [.null, .null, .null, .null, .null, .null, .null])] (plk g k) 80 1759 := c6_init l g hg c0 k
section PLK
variable {p : Program} {l : Launch} {e : Env} {R : Room} {s : State} {m : MethodId} {args : Array Value} {below : List Frame} {meth : Method} {c : Code} {H : Heap} {locs : List Loc} {cells slots : Nat} {Q : State → Prop} {g : GG} {cc : ByteArray} {own : String} {nL pc n0 : Nat} {ls : Array Slot} {rest : List Value} {c0 : Nat → va_E} {k : Nat} {L : List va_E}
theorem n_callP {pos : Nat} {y : MethodName} {bytes : ByteArray} {maxL index mc ms : Nat} {rm : Room} (A B L2 : List va_E) (hp0 : k + A.length = pos) (X : Cy g p s m args c cc own nL n0) (hM : Mn l g y bytes maxL rm (cx c0 k (A ++ B)) pos B L2 mc ms) (hL : L = A ++ B) (hy : Cal y bytes maxL none 0) (hst : Cond.instanceMethod y ∈ TB) (hlink : Cond.methodLink own index y ∈ TB) (hnm : y.name = "<init>") (hz : rm.cells = mc ∧ rm.slots = ms) (hR : rm.frames + 1 ≤ R.frames ∧ 8 + (maxL + 11) + rm.locals ≤ R.locals) (hP : Wz g c0 k L H) (hS : va_S (gA g) s.heap H locs) (hn : n0 + cells = k + L.length) (hpos : 0 < L.length) (hl : ls.size = nL) (hw : (rest.map fun v => v.category).sum ≤ 8) (hd : decode cc pc = .ok (.invokespecial index, 3)) (hf : cells + mc ≤ R.cells ∧ slots + ms ≤ R.slots)
    (kk : ∀ (H1 : Heap) (locs1 : List Loc), Wz g c0 k (A ++ L2) H1 → va_S (gA g) s.heap H1 locs1 → W p l e R s m args below meth c H1 locs1 (cells + mc) (slots + ms) Q (F0 m (pc + 3) ls rest)) : W p l e R s m args below meth c H locs cells slots Q (F0 m pc ls (.ref (ga g pos) :: rest)) := by
  subst hp0
  exact n_call A B L2 X hM hL hy hst hlink hnm hz hR hP hS hn hpos hl hw hd hf kk
end PLK
set_option maxHeartbeats 8000000 in
set_option maxRecDepth 100000 in
theorem plk_0 (g : GG) : plk g 0 = (List.range 81).map (fun i => lay g I00 (0 + i)) := rfl
set_option maxHeartbeats 8000000 in
set_option maxRecDepth 100000 in
theorem plk_81 (g : GG) : plk g 81 = (List.range 81).map (fun i => lay g I00 (81 + i)) := rfl
theorem plk_at {g : GG} {b i : Nat} (h : plk g b = (List.range 81).map (fun i => lay g I00 (b + i))) (hi : i < 81) : (plk g b).getD i (.inr (7, [])) = lay g I00 (b + i) := by
  rw [h, List.getD_eq_getElem?_getD, List.getElem?_map, List.getElem?_range hi]
  rfl
theorem w00 {g : GG} {H : Heap} (hP : Wz g (fun _ => .inr (7, [])) 0 (plk g 0 ++ plk g 81) H) : Wp g I00 H := by
  unfold Wz at hP
  unfold Wp
  rw [List.length_append, plk_len, plk_len] at hP
  rw [wl_congr (c' := cx (fun _ => .inr (7, [])) 0 (plk g 0 ++ plk g 81)) (fun k hk => ?_)]
  · exact hP
  · have hk : k < 162 := hk
    unfold cx
    rw [if_neg (Nat.not_lt_zero k), Nat.sub_zero]
    by_cases c : k < 81
    · rw [List.getD_eq_getElem?_getD, List.getElem?_append_left (by rw [plk_len]; exact c), ← List.getD_eq_getElem?_getD, plk_at (plk_0 g) c, Nat.zero_add]
    · rw [List.getD_eq_getElem?_getD, List.getElem?_append_right (by rw [plk_len]; omega), plk_len, ← List.getD_eq_getElem?_getD, plk_at (plk_81 g) (by omega)]
      rw [show 81 + (k - 81) = k by omega]
set_option maxHeartbeats 8000000 in
set_option maxRecDepth 100000 in
/-- the law from its entry, given that its function answers 1 -/
theorem p33_start_open {p : Program} {e : Env} {s : State} {m : MethodId} {below : List Frame} {meth : Method} {c : Code} (l : Launch) {b L : Nat} {xs : Nat → Int32} (N : Nat) (hfun : fL_law_16 N xs L I00 = some 1) (C0 : lw_At p s m meth c b L xs) : W p l e room_1 s m #[Value.ref b] below meth c s.heap [] 0 0 (lw_Z below #[Value.ref b] s) (entryFrame m ([Value.ref b] : List Value).toArray 7) := by
  obtain ⟨hx, hb, hr, hml, hown, hts, hX, hbl, hlk, hgv⟩ := id C0
  obtain ⟨sa, ba, hyo⟩ := y_of hts hgv hX hbl
  obtain ⟨g, hgs, hg, hK, hy⟩ := g_of hts (sa, ba, b, L, xs)
  have hY := hyo g hgs hy
  have e3 : gB g = b := by rw [gB, hy]
  have e4 : gL g = L := by rw [gL, hy]
  have e5 : gX g = xs := by rw [gX, hy]
  rw [← e4, ← e5] at hfun
  rw [← e3] at hts ⊢
  have X : Cy g p s m #[Value.ref (gB g)] c cL_law RL 7 0 := ⟨⟨hx, hb, hml, hown, fun w h => hts w (tb_lw w h)⟩, hK, hg, by rw [hgs]; rfl, nw_of hts⟩
  have hl := lv_entry ([.ref (gB g)]) (n := 7) (Nat.le_of_ble_eq_true rfl)
  rw [lg_entry_eq]
  generalize (lg_sl ([.ref (gB g)]) ++ List.replicate (7 - (lg_sl ([.ref (gB g)])).length) Slot.unset).toArray = ls at hl ⊢
  replace hl : lv_has ls 7 [(0, .ref (gB g))] := hl
  have hP : Wz g (fun _ => .inr (7, [])) 0 [] s.heap := fun k q h => by simp [wl] at h
  have hS : va_S (gA g) s.heap s.heap [] := va_S.rf
  refine n_new (ci := 5) (fs := [.null, .null, .null, .null, .null, .null, .null]) X hP hS (by show 0 + 0 = 0 + 0; rfl) rfl inX6 tyX6 tyX6_ok kx_13 kx_14 kx_1 (fun j hj => by rcases (show j = 0 ∨ j = 1 ∨ j = 2 ∨ j = 3 ∨ j = 4 ∨ j = 5 ∨ j = 6 by omega) with rfl | rfl | rfl | rfl | rfl | rfl | rfl <;> rfl) (Nat.le_of_ble_eq_true rfl) (Nat.le_of_ble_eq_true rfl) dL_law_0 (fun H hP hS => ?_)
  replace hP : Wz g (fun _ => .inr (7, [])) 0 [.inr (5, [.null, .null, .null, .null, .null, .null, .null])] H := hP
  show W p l e room_1 s m #[Value.ref (gB g)] below meth c H _ 1 7 _ (F0 m 3 ls [.ref (ga g 0)])
  refine lv_dup hx hb dL_law_3 rfl ?_
  refine n_callP (pos := 0) (mc := 80) (ms := 1759) (rest := [.ref (ga g 0)]) [] [.inr (5, [.null, .null, .null, .null, .null, .null, .null])] (plk g 0) rfl X (cX6_k l g hg _ 0) rfl cal_X6_init im_X6_init k_15 rfl ⟨rfl, rfl⟩ ⟨Nat.le_of_ble_eq_true rfl, Nat.le_of_ble_eq_true rfl⟩ hP hS (by show 0 + 1 = 0 + 1; rfl) (Nat.succ_pos _) hl.1 (Nat.le_of_ble_eq_true rfl) dL_law_4 ⟨Nat.le_of_ble_eq_true rfl, Nat.le_of_ble_eq_true rfl⟩ (fun H locs hP hS => ?_)
  replace hP : Wz g (fun _ => .inr (7, [])) 0 (plk g 0) H := hP
  show W p l e room_1 s m #[Value.ref (gB g)] below meth c H _ 81 1766 _ (F0 m 7 ls [.ref (ga g 0)])
  refine lv_astore_n (lv' := [(1, .ref (ga g 0)), (0, .ref (gB g))]) hx hb dL_law_7 rfl hl (by decide) rfl (fun ls hl => ?_)
  refine n_new (ci := 5) (fs := [.null, .null, .null, .null, .null, .null, .null]) X hP hS (by rw [plk_len]) rfl inX6 tyX6 tyX6_ok kx_13 kx_14 kx_1 (fun j hj => by rcases (show j = 0 ∨ j = 1 ∨ j = 2 ∨ j = 3 ∨ j = 4 ∨ j = 5 ∨ j = 6 by omega) with rfl | rfl | rfl | rfl | rfl | rfl | rfl <;> rfl) (Nat.le_of_ble_eq_true rfl) (Nat.le_of_ble_eq_true rfl) dL_law_8 (fun H hP hS => ?_)
  rw [plk_len]
  show W p l e room_1 s m #[Value.ref (gB g)] below meth c H _ 82 1773 _ (F0 m 11 ls [.ref (ga g 81)])
  refine lv_dup hx hb dL_law_11 rfl ?_
  refine n_callP (pos := 81) (mc := 80) (ms := 1759) (rest := [.ref (ga g 81)]) (plk g 0) [.inr (5, [.null, .null, .null, .null, .null, .null, .null])] (plk g 81) rfl X (cX6_k l g hg _ 81) rfl cal_X6_init im_X6_init k_15 rfl ⟨rfl, rfl⟩ ⟨Nat.le_of_ble_eq_true rfl, Nat.le_of_ble_eq_true rfl⟩ hP hS (by rw [List.length_append, plk_len]; rfl) (by rw [List.length_append, plk_len]; exact Nat.succ_pos _) hl.1 (Nat.le_of_ble_eq_true rfl) dL_law_12 ⟨Nat.le_of_ble_eq_true rfl, Nat.le_of_ble_eq_true rfl⟩ (fun H locs hP hS => ?_)
  show W p l e room_1 s m #[Value.ref (gB g)] below meth c H _ 162 3532 _ (F0 m 15 ls [.ref (ga g 81)])
  refine lv_astore_n (lv' := [(2, .ref (ga g 81)), (1, .ref (ga g 0)), (0, .ref (gB g))]) hx hb dL_law_15 rfl hl (by decide) rfl (fun ls hl => ?_)
  have hW : Wp g I00 H := w00 hP
  exact LL_law_16 (hg.ap NT) N ⟨X.1, hK, hg.ap NT, hY⟩ hr hlk hgs I00 hfun H _ ls hW hS (lv_sub hl [2, 1, 0] rfl)
