/-! CONSTRUCTORS: the cells come one by one, each at the next address -/
def cx (c0 : Nat → va_E) (k : Nat) (L : List va_E) : Nat → va_E := fun x => if x < k then c0 x else L.getD (x - k) (.inr (7, []))
def Wz (g : GG) (c0 : Nat → va_E) (k : Nat) (L : List va_E) (H : Heap) : Prop := va_P (gD g) vwCl (wl g (cx c0 k L) (k + L.length)) H
theorem cx_at {c0 : Nat → va_E} {k i : Nat} {L : List va_E} {e : va_E} (h : L[i]? = some e) : cx c0 k L (k + i) = e := by
  unfold cx
  rw [if_neg (by omega), Nat.add_sub_cancel_left, List.getD_eq_getElem?_getD, h]
  rfl
theorem cx_push {c0 : Nat → va_E} {k : Nat} {L : List va_E} {e : va_E} {x : Nat} (hx : x < k + (L.length + 1)) : va_up (cx c0 k L) (k + L.length) e x = cx c0 k (L ++ [e]) x := by
  unfold va_up cx
  by_cases h1 : x = k + L.length
  · subst h1
    rw [if_pos rfl, if_neg (by omega), Nat.add_sub_cancel_left, List.getD_eq_getElem?_getD, List.getElem?_append_right (Nat.le_refl _), Nat.sub_self]
    rfl
  · rw [if_neg h1]
    by_cases h2 : x < k
    · rw [if_pos h2, if_pos h2]
    · rw [if_neg h2, if_neg h2, List.getD_eq_getElem?_getD, List.getD_eq_getElem?_getD, List.getElem?_append_left (by omega)]
theorem cx_set {c0 : Nat → va_E} {k i : Nat} {L : List va_E} {e : va_E} {x : Nat} (hi : i < L.length) : va_up (cx c0 k L) (k + i) e x = cx c0 k (L.set i e) x := by
  unfold va_up cx
  by_cases h1 : x = k + i
  · subst h1
    rw [if_pos rfl, if_neg (by omega), Nat.add_sub_cancel_left, List.getD_eq_getElem?_getD, List.getElem?_set_self hi]
    rfl
  · rw [if_neg h1]
    by_cases h2 : x < k
    · rw [if_pos h2, if_pos h2]
    · rw [if_neg h2, if_neg h2, List.getD_eq_getElem?_getD, List.getD_eq_getElem?_getD, List.getElem?_set_ne (by omega)]
theorem cx_cut {c0 : Nat → va_E} {k : Nat} {A B L2 : List va_E} {x : Nat} : cx (cx c0 k (A ++ B)) (k + A.length) L2 x = cx c0 k (A ++ L2) x := by
  unfold cx
  by_cases h1 : x < k
  · rw [if_pos (show x < k + A.length by omega), if_pos h1, if_pos h1]
  · by_cases h2 : x < k + A.length
    · rw [if_pos h2, if_neg h1, if_neg h1, List.getD_eq_getElem?_getD, List.getD_eq_getElem?_getD, List.getElem?_append_left (by omega), List.getElem?_append_left (by omega)]
    · rw [if_neg h2, if_neg h1, List.getD_eq_getElem?_getD, List.getD_eq_getElem?_getD, List.getElem?_append_right (by omega), show x - (k + A.length) = x - k - A.length by omega]
theorem Wz.cut {g : GG} {c0 : Nat → va_E} {k : Nat} {A B : List va_E} {H : Heap} (h : Wz g c0 k (A ++ B) H) : Wz g (cx c0 k (A ++ B)) (k + A.length) B H := by
  unfold Wz at h ⊢
  rw [wl_congr (c' := cx c0 k (A ++ B)) (fun x _ => cx_cut), show k + A.length + B.length = k + (A ++ B).length by rw [List.length_append]; omega]
  exact h
theorem Wz.back {g : GG} {c0 : Nat → va_E} {k : Nat} {A B L2 : List va_E} {H : Heap} (h : Wz g (cx c0 k (A ++ B)) (k + A.length) L2 H) : Wz g c0 k (A ++ L2) H := by
  unfold Wz at h ⊢
  rw [wl_congr (c' := cx c0 k (A ++ L2)) (fun x _ => cx_cut), show k + A.length + L2.length = k + (A ++ L2).length by rw [List.length_append]; omega] at h
  exact h
def Lin (g : GG) : Prop := ∀ k, ga g k = g.1 + k
theorem Lin.ap {g : GG} (h : Lin g) (n : Nat) : Apart g n := ⟨fun i j _ _ hij => by rw [h i, h j] at hij; omega, fun i _ => by rw [h i]; omega⟩
theorem Wz.lt {g : GG} {c0 : Nat → va_E} {k i : Nat} {L : List va_E} {H : Heap} (hg : Lin g) (h : Wz g c0 k L H) (hi : i < k + L.length) : g.1 + i < H.size := by
  have := (h i _ (wl_get hi)).lt
  rwa [hg i] at this
theorem grow_q {g : GG} {c : Nat → va_E} {n q : Nat} {e : va_E} {H1 : Heap} (hg : Lin g) (hP : va_P (gD g) vwCl (wl g c n ++ [(q, e)]) H1) (hD : va_D (gA g) (wl g c n ++ [(q, e)])) (hz : H1.size ≤ g.1 + n + 1) : q = ga g n := by
  have hlen : (wl g c n).length = n := by simp [wl]
  have hq : (wl g c n ++ [(q, e)])[n]? = some (q, e) := by
    rw [List.getElem?_append_right (by omega), hlen, Nat.sub_self]
    rfl
  have h1 : q < H1.size := (hP n _ hq).lt
  have h2 : g.1 ≤ q := hD.2 n _ hq
  rw [hg n]
  rcases Nat.lt_or_ge q (g.1 + n) with h3 | h3
  · exfalso
    have hk : (wl g c n ++ [(q, e)])[q - g.1]? = some (ga g (q - g.1), c (q - g.1)) := by
      rw [List.getElem?_append_left (by omega)]
      exact wl_get (by omega)
    have := hD.1 _ _ _ _ hk hq (by rw [hg]; show g.1 + (q - g.1) = q; omega)
    omega
  · omega
theorem wl_push {g : GG} {c0 : Nat → va_E} {k : Nat} {L : List va_E} {e : va_E} : wl g (cx c0 k L) (k + L.length) ++ [(ga g (k + L.length), e)] = wl g (cx c0 k (L ++ [e])) (k + (L ++ [e]).length) := by
  have h1 : (L ++ [e]).length = L.length + 1 := by simp
  rw [h1, ← wl_congr (c := va_up (cx c0 k L) (k + L.length) e) (fun x hx => cx_push hx)]
  unfold wl
  rw [← Nat.add_assoc, List.range_succ, List.map_append]
  refine congr (congrArg _ (List.map_congr_left fun x hx => ?_)) (by simp [va_up])
  have := List.mem_range.mp hx
  rw [va_up, if_neg (by omega)]
def NW (U : State) : Prop := va_Nw (.methodLinkNest RX6 9 yX4_init RX6) U ∧ va_Nw (.methodLinkNest RX6 18 yX5_init RX6) U ∧ va_Nw (.methodLinkNest RX0 17 yX5_init RX6) U ∧ va_Nw (.methodLinkNest RX6 35 yX3_init RX6) U ∧ va_Nw (.methodLinkNest RX3 9 yX5_init RX6) U ∧ va_Nw (.methodLinkNest RX6 45 yX2_init RX6) U ∧ va_AO RX5 U
theorem NW.moved {u U : State} (hW : u.WarmedH U.vm) (h : NW u) : NW U := by
  obtain ⟨h0_, h1_, h2_, h3_, h4_, h5_, h7⟩ := h
  exact ⟨va_Nw.warmM hW h0_, va_Nw.warmM hW h1_, va_Nw.warmM hW h2_, va_Nw.warmM hW h3_, va_Nw.warmM hW h4_, va_Nw.warmM hW h5_, h7.moved hW.alike⟩
theorem NW.same {u U : State} (hv : u.vm = U.vm) (h : NW u) : NW U := by
  obtain ⟨h0_, h1_, h2_, h3_, h4_, h5_, h7⟩ := h
  exact ⟨h0_.same rfl hv, h1_.same rfl hv, h2_.same rfl hv, h3_.same rfl hv, h4_.same rfl hv, h5_.same rfl hv, h7.moved (by rw [hv]; exact Vm.Alike.refl _)⟩
def Pn (g : GG) (c0 : Nat → va_E) (k : Nat) (L : List va_E) (U : State) : Prop := U.heap.size = g.1 + (k + L.length) ∧ Wz g c0 k L U.heap ∧ va_K (gD g) vwCl (gT g) U ∧ NW U
def Qn (g : GG) (c0 : Nat → va_E) (k : Nat) (L : List va_E) : Array Value → State → Outcome → State → Prop := fun _ st0 oc t => oc = .returned none ∧ Wz g c0 k L t.heap ∧ va_F (gA g) st0 t
def Mn (l : Launch) (g : GG) (y : MethodName) (bytes : ByteArray) (maxL : Nat) (rm : Room) (c0 : Nat → va_E) (k : Nat) (L L' : List va_E) (mc ms : Nat) : Prop :=
  Met l y (.code y bytes maxL none :: TB) rm (va_Pc [.ref (ga g k)] (Pn g c0 k L)) (Qn g c0 k L') mc ms (gA g)
theorem pn_blind {g : GG} {c0 : Nat → va_E} {k : Nat} {L : List va_E} {av : List Value} : FrameBlind (va_Pc av (Pn g c0 k L)) := by
  intro a U f mk q
  obtain ⟨e, hz, hP, hK, hN⟩ := q
  exact ⟨e, hz, hP, va_K.moved (u := U) (U := U.calling f mk a) (Vm.Alike.refl U.vm) hK, hN.same rfl⟩
def Cy (g : GG) (p : Program) (s : State) (m : MethodId) (args : Array Value) (c : Code) (cc : ByteArray) (own : String) (nL n0 : Nat) : Prop :=
  CallFix p m c cc nL s args TB own ∧ va_K (gD g) vwCl (gT g) s ∧ Lin g ∧ s.heap.size = g.1 + n0 ∧ NW s
section CTORROWS
variable {p : Program} {l : Launch} {e : Env} {R : Room} {s : State} {m : MethodId} {args : Array Value} {below : List Frame} {meth : Method} {c : Code} {H : Heap} {locs : List Loc} {cells slots : Nat} {Q : State → Prop} {g : GG} {cc : ByteArray} {own : String} {nL pc n0 : Nat} {ls : Array Slot} {rest : List Value} {c0 : Nat → va_E} {k : Nat} {L : List va_E}
theorem Cy.hx (X : Cy g p s m args c cc own nL n0) : p.tables.exec = Jvm.exec := X.1.1
theorem Cy.hb (X : Cy g p s m args c cc own nL n0) : c.code = cc := X.1.2.1
theorem Cy.ow (X : Cy g p s m args c cc own nL n0) : s.vm.findClass own = some m.cls := X.1.2.2.2.1
theorem Cy.hts (X : Cy g p s m args c cc own nL n0) : ∀ w ∈ TB, w.before args s = true := X.1.2.2.2.2
theorem Cy.hK (X : Cy g p s m args c cc own nL n0) : va_K (gD g) vwCl (gT g) s := X.2.1
theorem Cy.sz (X : Cy g p s m args c cc own nL n0) : s.heap.size = g.1 + n0 := X.2.2.2.1
theorem Cy.hA (X : Cy g p s m args c cc own nL n0) : ∀ q : Nat, s.heap.size ≤ q → gA g q := fun q h => by rw [X.sz] at h; exact Nat.le_trans (Nat.le_add_right _ _) h
/-- how large the heap is at most -/
theorem n_size (kk : H.size ≤ s.heap.size + cells → ∀ gg : JFrame, gg = F0 m pc ls rest → W p l e R s m args below meth c H locs cells slots Q gg) : W p l e R s m args below meth c H locs cells slots Q (F0 m pc ls rest) := fun T hT X => kk (hT ▸ X.heapSize) _ rfl T hT X
theorem Mn.of {y : MethodName} {bytes : ByteArray} {maxL : Nat} {rm : Room} {L' : List va_E} {mc ms : Nat} (hg : Lin g) (hy : plainFor y = true) (hav : 1 ≤ maxL)
    (body : ∀ (p : Program) (e : Env) (s : State) (m : MethodId) (args : Array Value) (below : List Frame) (meth : Method) (c : Code) (ls : Array Slot), Cy g p s m args c bytes y.cls maxL (k + L.length) → meth.sig.returnType = none → meth.locks = false → meth.name = y.name → Wz g c0 k L s.heap → va_S (gA g) s.heap s.heap [] → lv_has ls maxL [(0, .ref (ga g k))] →
      W p l e rm s m args below meth c s.heap [] 0 0 (MQ below (Qn g c0 k L') args s mc ms (gA g)) (F0 m 0 ls [])) : Mn l g y bytes maxL rm c0 k L L' mc ms := by
  refine met_of (cc := bytes) (maxL := maxL) (ret := none) hy rfl ?_
  intro p e s m args below meth c s₁ B hml hv
  obtain ⟨rfl, hz, hP, hK, hN⟩ := hv
  have hts := atoms_spec (ws := .code y bytes maxL none :: TB) B.pre
  have hl := lv_entry [.ref (ga g k)] (n := maxL) hav
  rw [lg_entry_eq]
  exact body p e s m _ below meth c _ ⟨⟨B.exec, B.bytes, hml, findClass_of_methodNamed B.named, fun w hw => hts w (List.mem_cons_of_mem _ hw)⟩, hK, hg, hz, hN⟩ B.returns B.notSynchronized (name_of_methodNamed B.named B.method).1 hP va_S.rf hl
theorem n_vret {mc ms : Nat} {L' : List va_E} (X : Cy g p s m args c cc own nL n0) (hr : meth.sig.returnType = none) (hlk : meth.locks = false) (hP : Wz g c0 k L' H) (hS : va_S (gA g) s.heap H locs) (hd : decode cc pc = .ok (.return_, 1)) :
    W p l e R s m args below meth c H locs mc ms (MQ below (Qn g c0 k L') args s mc ms (gA g)) (F0 m pc ls []) :=
  W.vret X.hx X.hb hr (fun t ht hW => ⟨rfl, by rw [Wz, ht]; exact hP, hS.F ht⟩) hS.2.2 hd hlk
theorem n_new {index ci N : Nat} {C : String} {T : u_T} {fs : List Value} (X : Cy g p s m args c cc own nL n0) (hP : Wz g c0 k L H) (hS : va_S (gA g) s.heap H locs) (hn : n0 + cells = k + L.length) (hc : vwCl[ci]? = some (C, T, N)) (hin : ∀ w ∈ u_ws C T N, w ∈ TB) (ty : Nat → FieldType) (hty : ∀ k, k < N → parseFieldDescriptor (T k).2.2.1 = some (ty k)) (hcl : Cond.classLink own index C ∈ TB) (hinst : Cond.instantiable C N ∈ TB) (hini : Cond.initialized C ∈ TB) (hfs : ∀ j, j < N → defaultValue (ty j) = vp_V fs j) (hcells : cells + 1 ≤ R.cells) (hslots : slots + N ≤ R.slots) (hd : decode cc pc = .ok (.new index, 3))
    (kk : ∀ H1 : Heap, Wz g c0 k (L ++ [.inr (ci, fs)]) H1 → va_S (gA g) s.heap H1 locs → W p l e R s m args below meth c H1 locs (cells + 1) (slots + N) Q (F0 m (pc + 3) ls (.ref (ga g (k + L.length)) :: rest))) : W p l e R s m args below meth c H locs cells slots Q (F0 m pc ls rest) := by
  refine va_new (D := gD g) (ci := ci) (fs := fs) (C := C) (T := T) (N := N) X.hx X.hb X.hts hin ty hty X.ow (X.hts _ hcl) (X.hts _ hinst) (X.hts _ hini) X.hK hP ((X.2.2.1.ap _).D _) hS X.hA hc hfs hcells hslots hd (fun q H1 hP1 hD1 hS1 => ?_)
  refine n_size (fun hz gg hgg => ?_)
  have hq := grow_q X.2.2.1 hP1 hD1 (by have := X.sz; omega)
  subst hq
  rw [wl_push] at hP1
  rw [hgg]
  exact kk H1 hP1 hS1
theorem n_newa {n : Int32} {N' : Nat} {atype : ArrayType} {ty : FieldType} {a0 : vp_A} {cA : ClassId} (X : Cy g p s m args c cc own nL n0) (hP : Wz g c0 k L H) (hS : va_S (gA g) s.heap H locs) (hn : n0 + cells = k + L.length) (harr : Cond.arrayClass (newarray.typeOf atype) ∈ TB) (hty : newarray.typeOf atype = ty) (hcA : s.vm.findClass ("[" ++ ty.toString) = some cA) (hra : ∀ x : ClassId, va_RA s x ty → s.vm.findClass ("[" ++ ty.toString) = some x) (ha : ∀ cA : ClassId, vp_cell cA a0 = arrV cA N' (fun _ => defaultValue ty)) (hn0 : ¬ n < 0) (hN : n.toNatClampNeg = N') (hbytes : N' * componentBytes ty ≤ 536870912) (hcells : cells + 1 ≤ R.cells) (hslots : slots + N' ≤ R.slots) (hd : decode cc pc = .ok (.newarray atype, 2))
    (kk : ∀ H1 : Heap, Wz g c0 k (L ++ [.inl (cA, a0)]) H1 → va_S (gA g) s.heap H1 locs → W p l e R s m args below meth c H1 locs (cells + 1) (slots + N') Q (F0 m (pc + 2) ls (.ref (ga g (k + L.length)) :: rest))) : W p l e R s m args below meth c H locs cells slots Q (F0 m pc ls (.int n :: rest)) := by
  refine va_newa (D := gD g) (a0 := a0) X.hx X.hb (X.hts _ harr) hty X.hK hP ((X.2.2.1.ap _).D _) hS X.hA ha hn0 hN hbytes hcells hslots hd (fun q cB H1 hK1 hP1 hD1 hS1 => ?_)
  refine n_size (fun hz gg hgg => ?_)
  have hB := hra cB (hK1.2 (gT g).length _ (by rw [List.getElem?_append_right (Nat.le_refl _), Nat.sub_self]; rfl)).2
  have hBA : cB = cA := Option.some.inj (hB.symm.trans hcA)
  subst hBA
  have hq := grow_q X.2.2.1 hP1 hD1 (by have := X.sz; omega)
  subst hq
  rw [wl_push] at hP1
  rw [hgg]
  exact kk H1 hP1 hS1
theorem n_newI {n : Int32} {N' : Nat} (X : Cy g p s m args c cc own nL n0) (hP : Wz g c0 k L H) (hS : va_S (gA g) s.heap H locs) (hn : n0 + cells = k + L.length) (harr : Cond.arrayClass .int ∈ TB) (hn0 : ¬ n < 0) (hN : n.toNatClampNeg = N') (hbytes : N' * 4 ≤ 536870912) (hcells : cells + 1 ≤ R.cells) (hslots : slots + N' ≤ R.slots) (hd : decode cc pc = .ok (.newarray .int, 2))
    (kk : ∀ H1 : Heap, Wz g c0 k (L ++ [.inl (g.2.2.2.1, N', .inl (fun _ => 0))]) H1 → va_S (gA g) s.heap H1 locs → W p l e R s m args below meth c H1 locs (cells + 1) (slots + N') Q (F0 m (pc + 2) ls (.ref (ga g (k + L.length)) :: rest))) : W p l e R s m args below meth c H locs cells slots Q (F0 m pc ls (.int n :: rest)) :=
  n_newa (atype := .int) (ty := .int) X hP hS hn harr rfl (X.hK.2 0 _ rfl).2 (fun x h => h) (fun cA => by rw [vp_cell_i]; rfl) hn0 hN hbytes hcells hslots hd kk
theorem n_newQ {n : Int32} {index N' : Nat} (X : Cy g p s m args c cc own nL n0) (hP : Wz g c0 k L H) (hS : va_S (gA g) s.heap H locs) (hn : n0 + cells = k + L.length) (hcl : Cond.classLink own index RX5 ∈ TB) (hn0 : ¬ n < 0) (hN : n.toNatClampNeg = N') (hbytes : N' * 4 ≤ 536870912) (hcells : cells + 1 ≤ R.cells) (hslots : slots + N' ≤ R.slots) (hd : decode cc pc = .ok (.anewarray index, 3))
    (kk : ∀ H1 : Heap, Wz g c0 k (L ++ [.inl (g.2.2.2.2.2.1, N', .inr (.inr (.inr (.inr (fun _ => none)))))]) H1 → va_S (gA g) s.heap H1 locs → W p l e R s m args below meth c H1 locs (cells + 1) (slots + N') Q (F0 m (pc + 3) ls (.ref (ga g (k + L.length)) :: rest))) : W p l e R s m args below meth c H locs cells slots Q (F0 m pc ls (.int n :: rest)) := by
  refine va_newq (D := gD g) X.hx X.hb X.ow (X.hts _ hcl) X.2.2.2.2.2.2.2.2.2.2 X.hK hP ((X.2.2.1.ap _).D _) hS X.hA hn0 hN hbytes hcells hslots hd (fun q cB H1 hK1 hP1 hD1 hS1 => ?_)
  refine n_size (fun hz gg hgg => ?_)
  obtain ⟨_, _, -, -, -, hB⟩ := (hK1.2 (gT g).length (cB, .object RX5) (by rw [List.getElem?_append_right (Nat.le_refl _), Nat.sub_self]; rfl)).2
  obtain ⟨_, _, -, -, -, hA⟩ := (X.hK.2 2 (g.2.2.2.2.2.1, .object RX5) rfl).2
  have hBA : cB = g.2.2.2.2.2.1 := Option.some.inj (hB.symm.trans hA)
  subst hBA
  have hq := grow_q X.2.2.1 hP1 hD1 (by have := X.sz; omega)
  subst hq
  rw [wl_push] at hP1
  rw [hgg]
  exact kk H1 hP1 hS1
theorem n_get {i ci j index N : Nat} {C : String} {T : u_T} {fs : List Value} {v : Value} (X : Cy g p s m args c cc own nL n0) (hP : Wz g c0 k L H) (hi : L[i]? = some (.inr (ci, fs))) (hil : i < L.length) (hc : vwCl[ci]? = some (C, T, N)) (hin : ∀ w ∈ u_ws C T N, w ∈ TB) (hj : j < N) (hlink : Cond.fieldLink own index (T j).1 (T j).2.1 (T j).2.2.1 ∈ TB) (hv : fs[j]? = some v) (hd : decode cc pc = .ok (.getfield index, 3))
    (kk : W p l e R s m args below meth c H locs cells slots Q (F0 m (pc + 3) ls (v :: rest))) : W p l e R s m args below meth c H locs cells slots Q (F0 m pc ls (.ref (ga g (k + i)) :: rest)) :=
  va_get (D := gD g) (ci := ci) (v := v) (C := C) (T := T) (N := N) X.hx X.hb X.hts hin X.ow X.hK hP (k + i) (by rw [wl_get (by omega), cx_at hi]) hc j hj (X.hts _ hlink) (fun _ h9 => h9) hv hd kk
theorem n_put {i ci j index N : Nat} {C : String} {T : u_T} {fs : List Value} {ty : FieldType} {v : Value} (X : Cy g p s m args c cc own nL n0) (hP : Wz g c0 k L H) (hS : va_S (gA g) s.heap H locs) (hi : L[i]? = some (.inr (ci, fs))) (hil : i < L.length) (hc : vwCl[ci]? = some (C, T, N)) (hin : ∀ w ∈ u_ws C T N, w ∈ TB) (ty0 : Nat → FieldType) (hty : ∀ k, k < N → parseFieldDescriptor (T k).2.2.1 = some (ty0 k)) (hnm : ∀ a, a < N → ∀ b, b < N → a ≠ b → (T a).2.1 ≠ (T b).2.1) (hj : j < N) (hlink : Cond.fieldLink own index (T j).1 (T j).2.1 (T j).2.2.1 ∈ TB) (hfin : (T j).2.2.2 = false) (hty1 : parseFieldDescriptor (T j).2.2.1 = some ty) (hn : narrow ty v = v) (hfit : fits ty v = true) (hlen : j < fs.length) (hd : decode cc pc = .ok (.putfield index, 3))
    (kk : ∀ (H1 : Heap) (locs1 : List Loc), Wz g c0 k (L.set i (.inr (ci, fs.set j v))) H1 → va_S (gA g) s.heap H1 locs1 → W p l e R s m args below meth c H1 locs1 cells slots Q (F0 m (pc + 3) ls rest)) : W p l e R s m args below meth c H locs cells slots Q (F0 m pc ls (v :: .ref (ga g (k + i)) :: rest)) :=
  va_put (D := gD g) (ci := ci) (v := v) (ty := ty) (C := C) (T := T) (N := N) X.hx X.hb X.hts hin ty0 hty hnm X.ow X.hK hP ((X.2.2.1.ap _).D _) hS (k + i) (by rw [wl_get (by omega), cx_at hi]) hc j hj (X.hts _ hlink) (fun _ h9 => h9) hfin hty1 hn hfit hlen hd (fun H1 locs1 hP1 _ hS1 => kk H1 locs1 (by rw [wl_set _ (by omega), wl_congr (fun x _ => cx_set hil)] at hP1; rw [Wz, List.length_set]; exact hP1) hS1)
theorem n_putF {i ci j index N : Nat} {C : String} {T : u_T} {fs : List Value} {ty : FieldType} {v : Value} (X : Cy g p s m args c cc own nL n0) (hP : Wz g c0 k L H) (hS : va_S (gA g) s.heap H locs) (hi : L[i]? = some (.inr (ci, fs))) (hil : i < L.length) (hc : vwCl[ci]? = some (C, T, N)) (hin : ∀ w ∈ u_ws C T N, w ∈ TB) (ty0 : Nat → FieldType) (hty : ∀ k, k < N → parseFieldDescriptor (T k).2.2.1 = some (ty0 k)) (hnm : ∀ a, a < N → ∀ b, b < N → a ≠ b → (T a).2.1 ≠ (T b).2.1) (hj : j < N) (hlink : Cond.fieldLink own index (T j).1 (T j).2.1 (T j).2.2.1 ∈ TB) (hfin : (T j).2.2.2 = true) (hin2 : meth.name = "<init>") (hdecl : (T j).1 = own) (hty1 : parseFieldDescriptor (T j).2.2.1 = some ty) (hn : narrow ty v = v) (hfit : fits ty v = true) (hlen : j < fs.length) (hd : decode cc pc = .ok (.putfield index, 3))
    (kk : ∀ (H1 : Heap) (locs1 : List Loc), Wz g c0 k (L.set i (.inr (ci, fs.set j v))) H1 → va_S (gA g) s.heap H1 locs1 → W p l e R s m args below meth c H1 locs1 cells slots Q (F0 m (pc + 3) ls rest)) : W p l e R s m args below meth c H locs cells slots Q (F0 m pc ls (v :: .ref (ga g (k + i)) :: rest)) :=
  va_putF (D := gD g) (ci := ci) (v := v) (ty := ty) (C := C) (T := T) (N := N) X.hx X.hb X.hts hin ty0 hty hnm X.ow X.hK hP ((X.2.2.1.ap _).D _) hS (k + i) (by rw [wl_get (by omega), cx_at hi]) hc j hj (X.hts _ hlink) (fun _ h9 => h9) hfin hin2 hdecl hty1 hn hfit hlen hd (fun H1 locs1 hP1 _ hS1 => kk H1 locs1 (by rw [wl_set _ (by omega), wl_congr (fun x _ => cx_set hil)] at hP1; rw [Wz, List.length_set]; exact hP1) hS1)
theorem n_iast {i n j : Nat} {x v : Int32} {f : Nat → Int32} (X : Cy g p s m args c cc own nL n0) (hP : Wz g c0 k L H) (hS : va_S (gA g) s.heap H locs) (hi : L[i]? = some (.inl (g.2.2.2.1, n, .inl f))) (hil : i < L.length) (hx : ¬ (x < 0 ∨ n ≤ x.toNatClampNeg)) (hj : x.toNatClampNeg = j) (hd : decode cc pc = .ok (.iastore, 1))
    (kk : ∀ (H1 : Heap) (locs1 : List Loc), Wz g c0 k (L.set i (.inl (g.2.2.2.1, n, .inl (upd f j v)))) H1 → va_S (gA g) s.heap H1 locs1 → W p l e R s m args below meth c H1 locs1 cells slots Q (F0 m (pc + 1) ls rest)) : W p l e R s m args below meth c H locs cells slots Q (F0 m pc ls (.int v :: .int x :: .ref (ga g (k + i)) :: rest)) := by
  subst hj
  exact va_iast (D := gD g) X.hx X.hb X.hK hP ((X.2.2.1.ap _).D _) hS (k + i) 0 (by rw [wl_get (by omega), cx_at hi]) rfl hx hd (fun H1 locs1 hP1 _ hS1 => kk H1 locs1 (by rw [wl_set _ (by omega), wl_congr (fun x _ => cx_set hil)] at hP1; rw [Wz, List.length_set]; exact hP1) hS1)
theorem n_alenq {i n : Nat} {v : Int32} {f : Nat → Option Nat} (X : Cy g p s m args c cc own nL n0) (hP : Wz g c0 k L H) (hi : L[i]? = some (.inl (g.2.2.2.2.2.1, n, .inr (.inr (.inr (.inr f)))))) (hil : i < L.length) (hv : Int32.ofNat n = v) (hd : decode cc pc = .ok (.arraylength, 1))
    (kk : W p l e R s m args below meth c H locs cells slots Q (F0 m (pc + 1) ls (.int v :: rest))) : W p l e R s m args below meth c H locs cells slots Q (F0 m pc ls (.ref (ga g (k + i)) :: rest)) :=
  va_alen (D := gD g) (x := (n, .inr (.inr (.inr (.inr f))))) (ty := .object RX5) X.hx X.hb X.hK hP (k + i) 2 (by rw [wl_get (by omega), cx_at hi]) rfl hv hd kk
theorem n_aast {i n j jo : Nat} {x : Int32} {vs : List Value} {f : Nat → Option Nat} (X : Cy g p s m args c cc own nL n0) (hP : Wz g c0 k L H) (hS : va_S (gA g) s.heap H locs) (hi : L[i]? = some (.inl (g.2.2.2.2.2.1, n, .inr (.inr (.inr (.inr f)))))) (hil : i < L.length) (ho : L[jo]? = some (.inr (4, vs))) (hol : jo < L.length) (hx : ¬ (x < 0 ∨ n ≤ x.toNatClampNeg)) (hj : x.toNatClampNeg = j) (hd : decode cc pc = .ok (.aastore, 1))
    (kk : ∀ (H1 : Heap) (locs1 : List Loc), Wz g c0 k (L.set i (.inl (g.2.2.2.2.2.1, n, .inr (.inr (.inr (.inr (va_up f j (some (ga g (k + jo)))))))))) H1 → va_S (gA g) s.heap H1 locs1 → W p l e R s m args below meth c H1 locs1 cells slots Q (F0 m (pc + 1) ls rest)) : W p l e R s m args below meth c H locs cells slots Q (F0 m pc ls (.ref (ga g (k + jo)) :: .int x :: .ref (ga g (k + i)) :: rest)) := by
  subst hj
  exact va_astq (D := gD g) (r := (RX5, TX5, 12)) X.hx X.hb X.hK hP ((X.2.2.1.ap _).D _) hS (k + i) 2 (k + jo) 4 (by rw [wl_get (by omega), cx_at hi]) rfl (by rw [wl_get (by omega), cx_at ho]) rfl hx hd (fun H1 locs1 hP1 _ hS1 => kk H1 locs1 (by rw [wl_set _ (by omega), wl_congr (fun x _ => cx_set hil)] at hP1; rw [Wz, List.length_set]; exact hP1) hS1)
theorem n_obj {idx : Nat} (X : Cy g p s m args c cc own nL n0) (hl : ls.size = nL) (hlink : Cond.methodLink own idx objectInit ∈ TB) (hin : Cond.instanceMethod objectInit ∈ TB) (hco : Cond.code objectInit ⟨#[0xb1]⟩ 1 none ∈ TB) (hd : decode cc pc = .ok (.invokespecial idx, 3)) (hf : 1 ≤ R.frames) (hlo : (rest.map fun v => v.category).sum + 12 ≤ R.locals) {a : Nat} (kk : W p l e R s m args below meth c H locs cells slots Q (F0 m (pc + 3) ls rest)) : W p l e R s m args below meth c H locs cells slots Q (F0 m pc ls (.ref a :: rest)) :=
  W.objInit X.hx X.hb X.ow (X.hts _ hlink) (X.hts _ hin) (X.hts _ hco) rfl (by rw [X.1.2.2.1]; exact hl) rfl hd hf (by show 2 * 0 + _ + 12 ≤ _; omega) kk
theorem n_go {mc ms k1 : Nat} {c1 : Nat → va_E} {L1 : List va_E} {A1 : Array Value} {st0 : List Value} (hr : va_Run p l e R s m args below meth c H locs cells slots mc ms (F0 m pc ls st0) rest (Qn g c1 k1 L1 A1) (gA g)) (hS : va_S (gA g) s.heap H locs)
    (kk : ∀ (H1 : Heap) (locs1 : List Loc), Wz g c1 k1 L1 H1 → va_S (gA g) s.heap H1 locs1 → W p l e R s m args below meth c H1 locs1 (cells + mc) (slots + ms) Q (F0 m (pc + 3) ls rest)) : W p l e R s m args below meth c H locs cells slots Q (F0 m pc ls st0) := by
  intro T hT X
  obtain ⟨v, st₀, t, T', L, h0, X', hL, e1, e2, ⟨hv, hp, hz, hk⟩, stp⟩ := hr T hT X
  cases hv
  rw [h0] at hz hk
  obtain ⟨t2, a1, b1⟩ := kk T'.heap (locs ++ L) (by rw [e1]; exact hp)
    ⟨Nat.le_trans hS.1 (by rw [e1]; exact hz), fun q h1 h2 => by rw [e1, hk q (Nat.lt_of_lt_of_le h1 hS.1) h2]; exact hS.2.1 q h1 h2, fun q hq => by
      rcases List.mem_append.mp hq with h | h
      · exact hS.2.2 q h
      · exact hL q h⟩ T' rfl X'
  exact ⟨t2, stp t2 a1, b1⟩
theorem n_call {y : MethodName} {bytes : ByteArray} {maxL index mc ms : Nat} {rm : Room} (A B L2 : List va_E) (X : Cy g p s m args c cc own nL n0) (hM : Mn l g y bytes maxL rm (cx c0 k (A ++ B)) (k + A.length) B L2 mc ms) (hL : L = A ++ B) (hy : Cal y bytes maxL none 0) (hst : Cond.instanceMethod y ∈ TB) (hlink : Cond.methodLink own index y ∈ TB) (hnm : y.name = "<init>") (hz : rm.cells = mc ∧ rm.slots = ms) (hR : rm.frames + 1 ≤ R.frames ∧ 8 + (maxL + 11) + rm.locals ≤ R.locals) (hP : Wz g c0 k L H) (hS : va_S (gA g) s.heap H locs) (hn : n0 + cells = k + L.length) (hpos : 0 < L.length) (hl : ls.size = nL) (hw : (rest.map fun v => v.category).sum ≤ 8) (hd : decode cc pc = .ok (.invokespecial index, 3)) (hf : cells + mc ≤ R.cells ∧ slots + ms ≤ R.slots)
    (kk : ∀ (H1 : Heap) (locs1 : List Loc), Wz g c0 k (A ++ L2) H1 → va_S (gA g) s.heap H1 locs1 → W p l e R s m args below meth c H1 locs1 (cells + mc) (slots + ms) Q (F0 m (pc + 3) ls rest)) : W p l e R s m args below meth c H locs cells slots Q (F0 m pc ls (.ref (ga g (k + A.length)) :: rest)) := by
  subst hL
  refine n_size (fun hsz gg hgg => ?_)
  have hlt := hP.lt X.2.2.1 (i := k + ((A ++ B).length - 1)) (by omega)
  have hs := X.sz
  have hlen : (A ++ B).length = A.length + B.length := List.length_append
  rw [hgg]
  exact n_go (va_runI (As := []) (rest := rest) X.1 hM ⟨callB_of 0 X.hts (cal_good hy) rfl hz.1 hz.2 (X.hts _ hy.2.1) (X.hts _ hlink) hy.2.2 hR, hnm, X.hts _ hst⟩ ⟨pn_blind, fun U hU hW => ⟨rfl, by rw [hU]; omega, by rw [hU]; exact hP.cut, va_K.moved hW.alike X.hK, X.2.2.2.2.moved hW⟩⟩ rfl rfl hl rfl (lv_room hw) hd hf) hS (fun H1 locs1 h1 h2 => kk H1 locs1 h1.back h2)
theorem n_callN {y : MethodName} {host : String} {bytes : ByteArray} {maxL index mc ms : Nat} {rm : Room} (A B L2 : List va_E) (X : Cy g p s m args c cc own nL n0) (hM : Mn l g y bytes maxL rm (cx c0 k (A ++ B)) (k + A.length) B L2 mc ms) (hL : L = A ++ B) (hy : Cal y bytes maxL none 0) (hst : Cond.instanceMethod y ∈ TB) (hlink : va_Nw (.methodLinkNest own index y host) s) (hnm : y.name = "<init>") (hz : rm.cells = mc ∧ rm.slots = ms) (hR : rm.frames + 1 ≤ R.frames ∧ 8 + (maxL + 11) + rm.locals ≤ R.locals) (hP : Wz g c0 k L H) (hS : va_S (gA g) s.heap H locs) (hn : n0 + cells = k + L.length) (hpos : 0 < L.length) (hl : ls.size = nL) (hw : (rest.map fun v => v.category).sum ≤ 8) (hd : decode cc pc = .ok (.invokespecial index, 3)) (hf : cells + mc ≤ R.cells ∧ slots + ms ≤ R.slots)
    (kk : ∀ (H1 : Heap) (locs1 : List Loc), Wz g c0 k (A ++ L2) H1 → va_S (gA g) s.heap H1 locs1 → W p l e R s m args below meth c H1 locs1 (cells + mc) (slots + ms) Q (F0 m (pc + 3) ls rest)) : W p l e R s m args below meth c H locs cells slots Q (F0 m pc ls (.ref (ga g (k + A.length)) :: rest)) := by
  subst hL
  refine n_size (fun hsz gg hgg => ?_)
  have hlt := hP.lt X.2.2.1 (i := k + ((A ++ B).length - 1)) (by omega)
  have hs := X.sz
  have hlen : (A ++ B).length = A.length + B.length := List.length_append
  rw [hgg]
  exact n_go (va_runIN (As := []) (rest := rest) X.1 hM ⟨va_cnB 0 X.hts (cal_good hy) rfl hz.1 hz.2 hlink (X.hts _ hy.2.1) hy.2.2 hR, hnm, X.hts _ hst⟩ ⟨pn_blind, fun U hU hW => ⟨rfl, by rw [hU]; omega, by rw [hU]; exact hP.cut, va_K.moved hW.alike X.hK, X.2.2.2.2.moved hW⟩⟩ rfl rfl hl rfl (lv_room hw) hd hf) hS (fun H1 locs1 h1 h2 => kk H1 locs1 h1.back h2)
/-- a table of references counts to its length alone -/
theorem n_ring {i n : Nat} {f f' : Nat → Option Nat} (hP : Wz g c0 k L H) (hi : L[i]? = some (.inl (g.2.2.2.2.2.1, n, .inr (.inr (.inr (.inr f)))))) (hil : i < L.length) (hff : ∀ j, j < n → f j = f' j) : Wz g c0 k (L.set i (.inl (g.2.2.2.2.2.1, n, .inr (.inr (.inr (.inr f')))))) H := by
  have hc : vp_cell g.2.2.2.2.2.1 (n, .inr (.inr (.inr (.inr f)))) = vp_cell g.2.2.2.2.2.1 (n, .inr (.inr (.inr (.inr f')))) := by
    rw [vp_cell_q, vp_cell_q]
    unfold arrV
    congr 2
    funext j
    show va_rf (f j.val) = va_rf (f' j.val)
    rw [hff j.val j.isLt]
  unfold Wz at hP ⊢
  rw [List.length_set, ← wl_congr (fun x _ => cx_set hil), ← wl_set _ (by omega)]
  intro x q hx
  by_cases hxi : x = k + i
  · subst hxi
    have h0 := hP (k + i) _ (wl_get (by omega))
    rw [cx_at hi] at h0
    rw [List.getElem?_set_self (by simp [wl]; omega)] at hx
    cases hx
    show H[_]? = _
    rw [← hc]
    exact h0
  · rw [List.getElem?_set_ne (Ne.symm hxi)] at hx
    exact hP x q hx
end CTORROWS
