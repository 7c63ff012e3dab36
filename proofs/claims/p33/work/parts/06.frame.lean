/-! THE FRAME OF THE WALK: the heap as one table of numbers (Mem: cell, place), the cells laid by kind at addresses that are apart; contracts over it; one row an instruction. -/
/-- the addresses of the String constant and of its bytes; the script's row, its length, its ints -/
abbrev YY : Type := Nat × Nat × Nat × Nat × (Nat → Int32)
abbrev GG : Type := Nat × (Nat → Nat) × va_G × ClassId × ClassId × ClassId × YY
abbrev gS (g : GG) : Nat := g.2.2.2.2.2.2.1
abbrev gV (g : GG) : Nat := g.2.2.2.2.2.2.2.1
abbrev gB (g : GG) : Nat := g.2.2.2.2.2.2.2.2.1
abbrev gL (g : GG) : Nat := g.2.2.2.2.2.2.2.2.2.1
abbrev gX (g : GG) : Nat → Int32 := g.2.2.2.2.2.2.2.2.2.2
def ga (g : GG) (k : Nat) : Nat := g.2.1 k
abbrev gD (g : GG) : va_G := g.2.2.1
abbrev gT (g : GG) : List (ClassId × FieldType) := [(g.2.2.2.1, .int), (g.2.2.2.1, .int), (g.2.2.2.2.2.1, .object RX5)]
abbrev gA (g : GG) : Nat → Prop := fun q => g.1 ≤ q
abbrev Mem : Type := Nat → Nat → Int32
def st (I : Mem) (k j : Nat) (v : Int32) : Mem := fun a => if a = k then upd (I k) j v else I a
def cellOf (g : GG) (τ k : Nat) (f : Nat → Int32) : va_E := match τ with
  | 0 => .inr (0, [.ref (ga g (k+1)), .int (f 1), .int (f 2)])
  | 1 => .inr (1, [.int (f 0), .int (f 1), .int (f 2), .int (f 3), .ref (ga g (k+1))])
  | 2 => .inr (2, [.ref (ga g (k+1)), .int (f 1)])
  | 3 => .inr (3, [.ref (ga g (k+1)), .int (f 1), .int (f 2), .int (f 3)])
  | 4 => .inr (4, [.int (f 0), .int (f 1), .int (f 2), .int (f 3), .int (f 4), .int (f 5), .ref (ga g (k+1)), .ref (ga g (k+2)), .ref (ga g (k+3)), .int (f 9), .int (f 10), .int (f 11)])
  | 5 => .inr (5, [.ref (ga g (k+1)), .ref (ga g (k+3)), .ref (ga g (k+7)), .ref (ga g (k+11)), .ref (ga g (k+69)), .ref (ga g (k+74)), .ref (ga g (k+79))])
  | 6 => .inr (6, [.ref (ga g (k+1)), .int (f 1), .int (f 2), .ref (ga g (k+2)), .ref (ga g (k+3)), .ref (ga g (k+4)), .ref (ga g (k+5)), .int (f 7), .int (f 8), .ref (ga g (k+6)), .ref (ga g (k+7)), .ref (ga g (k+8)), .int (f 12), .int (f 13), .int (f 14), .int (f 15), .int (f 16)])
  | 7 => .inr (7, [])
  | 8 => .inl (g.2.2.2.2.1, 2, .inl f)
  | 9 => .inl (g.2.2.2.2.2.1, 14, .inr (.inr (.inr (.inr (fun j => some (ga g (k+1+4*j)))))))
  | n+10 => .inl (g.2.2.2.1, n, .inl f)
def blkP : List Nat := [5, 3, 90, 4, 18, 18, 18, 4, 18, 18, 18, 0, 9] ++ (List.replicate 14 [4, 18, 18, 18]).flatten ++ [2, 4, 18, 18, 18, 2, 4, 18, 18, 18, 1, 1011]
def tags : List Nat := blkP ++ blkP
abbrev NT : Nat := 162
def tag (k : Nat) : Nat := tags.getD k 7
theorem tag_lt {k τ : Nat} (h : tag k = τ) (h7 : τ ≠ 7) : k < NT := by
  rcases Nat.lt_or_ge k NT with q | q
  · exact q
  · refine absurd ?_ h7
    rw [← h, tag, List.getD_eq_getElem?_getD, List.getElem?_eq_none (Nat.le_trans (show tags.length ≤ NT by decide +kernel) q)]
    rfl
def lay (g : GG) (I : Mem) (k : Nat) : va_E := cellOf g (tag k) k (I k)
def wl (g : GG) (c : Nat → va_E) (n : Nat) : va_W := (List.range n).map fun k => (ga g k, c k)
theorem wl_get {g : GG} {c : Nat → va_E} {n k : Nat} (h : k < n) : (wl g c n)[k]? = some (ga g k, c k) := by
  unfold wl
  rw [List.getElem?_map, List.getElem?_range h]
  rfl
theorem wl_set {g : GG} {c : Nat → va_E} {n k : Nat} (e : va_E) (h : k < n) : (wl g c n).set k (ga g k, e) = wl g (va_up c k e) n := by
  refine List.ext_getElem? fun i => ?_
  rcases Nat.lt_or_ge i n with hi | hi
  · by_cases hk : i = k
    · subst hk
      rw [List.getElem?_set_self (by simp [wl, h]), wl_get h]
      simp [va_up]
    · rw [List.getElem?_set_ne (Ne.symm hk), wl_get hi, wl_get hi]
      simp [va_up, hk]
  · rw [List.getElem?_eq_none (by simp [wl, hi]), List.getElem?_eq_none (by simp [wl, hi])]
theorem wl_congr {g : GG} {c c' : Nat → va_E} {n : Nat} (h : ∀ k, k < n → c k = c' k) : wl g c n = wl g c' n := by
  unfold wl
  exact List.map_congr_left fun k hk => by rw [h k (List.mem_range.mp hk)]
/-- the addresses are apart, and from a place on -/
def Apart (g : GG) (n : Nat) : Prop := (∀ i j, i < n → j < n → ga g i = ga g j → i = j) ∧ ∀ i, i < n → g.1 ≤ ga g i
theorem Apart.D {g : GG} {n : Nat} (h : Apart g n) (c : Nat → va_E) : va_D (gA g) (wl g c n) := by
  have key : ∀ (i : Nat) (p : Nat × va_E), (wl g c n)[i]? = some p → i < n ∧ p = (ga g i, c i) := by
    intro i p hp
    rcases Nat.lt_or_ge i n with hi | hi
    · rw [wl_get hi] at hp
      exact ⟨hi, (Option.some.inj hp).symm⟩
    · rw [List.getElem?_eq_none (by simp [wl, hi])] at hp
      cases hp
  refine ⟨fun i j p q hi hj hpq => ?_, fun k q hk => ?_⟩
  · obtain ⟨h1, rfl⟩ := key i p hi
    obtain ⟨h2, rfl⟩ := key j q hj
    exact h.1 i j h1 h2 hpq
  · obtain ⟨h1, rfl⟩ := key k q hk
    exact h.2 k h1
def Wp (g : GG) (I : Mem) (H : Heap) : Prop := va_P (gD g) vwCl (wl g (lay g I) NT) H
def Wd (g : GG) (I : Mem) (U : State) : Prop := Wp g I U.heap ∧ va_K (gD g) vwCl (gT g) U
/-- the characters of the constant -/
def m09 : List Int32 := [109, 43, 48, 57]
/-- what is the same all along: the constant, two statics, the script -/
def Yw (g : GG) (U : State) (H : Heap) : Prop :=
  va_O "java/lang/String" (gS g) (gA g) U H ∧ va_OF "java/lang/String" "coder" "B" (.int 0) (gS g) (gA g) U H ∧ va_OF "java/lang/String" "value" "[B" (.ref (gV g)) (gS g) (gA g) U H ∧ va_T .byte (gV g) 4 (fun j => .int (m09.getD j 0)) (gA g) U H ∧ va_Z "java/lang/String" "COMPACT_STRINGS" "Z" (.int 1) (gA g) U H ∧ va_Zq "jdk/internal/util/Preconditions" "SIOOBE_FORMATTER" "Ljava/util/function/BiFunction;" (gA g) U H ∧ vk_R "StepperPlannerLaw" 103 "m+09" (gS g) U ∧ va_X (gB g) (gL g) (gX g) U H ∧ gB g < H.size ∧ ¬ gA g (gB g)
theorem Yw.go {g : GG} {s U : State} {H : Heap} {locs : List Loc} (h : Yw g s s.heap) (hS : va_S (gA g) s.heap H locs) (hU : U.heap = H) (hW : s.WarmedH U.vm) : Yw g U U.heap := by
  obtain ⟨h1, h2, h3, h4, h5, h6, h7, h8, h9, h10⟩ := h
  have hA := hW.alike
  subst hU
  exact ⟨(h1.kept hS.2.1).moved hA, (h2.kept hS.2.1).moved hA, (h3.kept hS.2.1).moved hA, (h4.kept hS.2.1).moved hA, (h5.kept hS.2.1).moved hA, (h6.kept hS.2.1).moved hA, h7.warm hW, (h8.kept (hS.2.1 _ h9 h10)).moved hA, Nat.lt_of_lt_of_le h9 hS.1, h10⟩
theorem Yw.same {g : GG} {U U1 : State} {H : Heap} (h : Yw g U H) (hv : U1.vm = U.vm) : Yw g U1 H := by
  obtain ⟨h1, h2, h3, h4, h5, h6, h7, h8, h9, h10⟩ := h
  have hA : U.vm.Alike U1.vm := by rw [hv]; exact Vm.Alike.refl _
  exact ⟨h1.moved hA, h2.moved hA, h3.moved hA, h4.moved hA, h5.moved hA, h6.moved hA, h7.same hv, h8.moved hA, h9, h10⟩
def Wy (g : GG) (I : Mem) (U : State) : Prop := (Wp g I U.heap ∧ va_K (gD g) vwCl (gT g) U) ∧ Yw g U U.heap
/-- how every contract of ours ends: the value that comes back, the numbers behind it -/
def Qg (g : GG) (ov : Option Value) (I0 : Mem) : Array Value → State → Outcome → State → Prop := fun _ st0 oc t => oc = .returned ov ∧ Wd g I0 t ∧ va_F (gA g) st0 t
/-- a contract: from the numbers I, with these arguments, it answers ov and leaves I0 -/
def Mc (l : Launch) (g : GG) (y : MethodName) (bytes : ByteArray) (maxL : Nat) (ret : Option FieldType) (rm : Room) (I : Mem) (av : List Value) (ov : Option Value) (I0 : Mem) : Prop :=
  Met l y (.code y bytes maxL ret :: TB) rm (va_Pc av (Wy g I)) (Qg g ov I0) 0 0 (gA g)
theorem wd_blind {g : GG} {I : Mem} {av : List Value} : FrameBlind (va_Pc av (Wy g I)) := by
  intro a U f mk q
  obtain ⟨e, ⟨hP, hK⟩, hY⟩ := q
  refine ⟨e, ⟨hP, ?_⟩, Yw.same hY rfl⟩
  exact (va_K.moved (u := U) (U := U.calling f mk a) (Vm.Alike.refl U.vm) hK)
/-- what stays the same through a body -/
def Cx (g : GG) (p : Program) (s : State) (m : MethodId) (args : Array Value) (c : Code) (cc : ByteArray) (own : String) (nL : Nat) : Prop :=
  CallFix p m c cc nL s args TB own ∧ va_K (gD g) vwCl (gT g) s ∧ Apart g NT ∧ Yw g s s.heap
section FRAMEROWS
variable {p : Program} {l : Launch} {e : Env} {R : Room} {s : State} {m : MethodId} {args : Array Value} {below : List Frame} {meth : Method} {c : Code} {H : Heap} {locs : List Loc} {cells slots : Nat} {Q : State → Prop} {g : GG} {cc : ByteArray} {own : String} {nL pc : Nat} {ls : Array Slot} {rest : List Value} {I : Mem}
theorem Cx.hx (X : Cx g p s m args c cc own nL) : p.tables.exec = Jvm.exec := X.1.1
theorem Cx.hb (X : Cx g p s m args c cc own nL) : c.code = cc := X.1.2.1
theorem Cx.ow (X : Cx g p s m args c cc own nL) : s.vm.findClass own = some m.cls := X.1.2.2.2.1
theorem Cx.hts (X : Cx g p s m args c cc own nL) : ∀ w ∈ TB, w.before args s = true := X.1.2.2.2.2
theorem Cx.hY (X : Cx g p s m args c cc own nL) : Yw g s s.heap := X.2.2.2
theorem Cx.hK (X : Cx g p s m args c cc own nL) : va_K (gD g) vwCl (gT g) s := X.2.1
/-- a body's walk gives the contract, also of a class of the JDK whose method no native stands for -/
theorem met_of {y : MethodName} {ws ws' : List Cond} {rm : Room} {Pc : Array Value → State → Prop} {Qc : Array Value → State → Outcome → State → Prop} {mc ms : Nat} {free : Addr → Prop} {cc : ByteArray} {maxL : Nat} {ret : Option FieldType}
    (hy : plainFor y = true) (hw : ws = Cond.code y cc maxL ret :: ws')
    (body : ∀ p e s m args below meth c s₁, BodyLoose p l y (headSpec ws rm) cc maxL ret e s m args below meth c s₁ → c.maxLocals = maxL → Pc args s →
      W p l e rm s m args below meth c s.heap [] 0 0 (MQ below Qc args s mc ms free) (entryFrame m args maxL)) : Met l y ws rm Pc Qc mc ms free := by
  refine MetFree.of_bodySF (code := cc) (maxLocals := maxL) (ret := ret) hy ?_ ?_
  · intro args s m h hn
    obtain ⟨meth, c, h1, h2, h3, h4, h5, h6, -, -⟩ := Cond.code_spec hn (atoms_spec (ws := ws) h _ (by rw [hw]; exact List.mem_cons_self))
    exact ⟨meth, c, h1, h2, h3, h4, h5, h6⟩
  · intro p e s m args below meth c s₁ B hml hP _
    have hh0 : s₁.heap = s.heap := by rw [B.state]; rfl
    obtain ⟨t, a1, o, b1, b2, b3, b4⟩ := body p e s m args below meth c s₁ B hml hP s₁ hh0 (Stand.of_body B)
    exact ⟨t, o, a1, b1, b2, b3, b4⟩
/-- a body's walk gives the contract -/
theorem Mc.of {y : MethodName} {bytes : ByteArray} {maxL : Nat} {ret : Option FieldType} {rm : Room} {av : List Value} {ov : Option Value} {I0 : Mem} (hG : Apart g NT) (hy : plainFor y = true) (hav : (lg_sl av).length ≤ maxL)
    (body : ∀ (p : Program) (e : Env) (s : State) (m : MethodId) (args : Array Value) (below : List Frame) (meth : Method) (c : Code) (ls : Array Slot), Cx g p s m args c bytes y.cls maxL → meth.sig.returnType = ret → meth.locks = false → Wp g I s.heap → va_S (gA g) s.heap s.heap [] → lv_has ls maxL (lv_args 0 av) →
      W p l e rm s m args below meth c s.heap [] 0 0 (MQ below (Qg g ov I0) args s 0 0 (gA g)) (F0 m 0 ls [])) : Mc l g y bytes maxL ret rm I av ov I0 := by
  refine met_of (cc := bytes) (maxL := maxL) (ret := ret) hy rfl ?_
  intro p e s m args below meth c s₁ B hml hv
  obtain ⟨rfl, ⟨hP, hK⟩, hY⟩ := hv
  have hts := atoms_spec (ws := .code y bytes maxL ret :: TB) B.pre
  have hl := lv_entry av (n := maxL) hav
  rw [lg_entry_eq]
  exact body p e s m _ below meth c _ ⟨⟨B.exec, B.bytes, hml, findClass_of_methodNamed B.named, fun w hw => hts w (List.mem_cons_of_mem _ hw)⟩, hK, hG, hY⟩ B.returns B.notSynchronized hP va_S.rf hl
/-! the ends -/
theorem r_iret {v r0 : Int32} {I0 : Mem} (X : Cx g p s m args c cc own nL) (hr : meth.sig.returnType = some .int) (hlk : meth.locks = false) (hP : Wp g I H) (hS : va_S (gA g) s.heap H locs) (hd : decode cc pc = .ok (.ireturn, 1)) (h : some (v, I) = some (r0, I0)) :
    W p l e R s m args below meth c H locs 0 0 (MQ below (Qg g (some (.int r0)) I0) args s 0 0 (gA g)) (F0 m pc ls [.int v]) := by
  cases h
  exact W.iret (v := v) X.hx X.hb hr (fun t ht hW => ⟨rfl, ⟨by rw [Wp, ht]; exact hP, va_K.moved hW.alike X.hK⟩, hS.F ht⟩) hS.2.2 hd hlk
theorem r_zret {v r0 : Int32} {I0 : Mem} (X : Cx g p s m args c cc own nL) (hr : meth.sig.returnType = some .boolean) (hlk : meth.locks = false) (hP : Wp g I H) (hS : va_S (gA g) s.heap H locs) (hn : narrow .boolean (.int v) = .int v) (hd : decode cc pc = .ok (.ireturn, 1)) (h : some (v, I) = some (r0, I0)) :
    W p l e R s m args below meth c H locs 0 0 (MQ below (Qg g (some (.int r0)) I0) args s 0 0 (gA g)) (F0 m pc ls [.int v]) := by
  cases h
  exact W.zret (v := v) X.hx X.hb hr hn (fun t ht hW => ⟨rfl, ⟨by rw [Wp, ht]; exact hP, va_K.moved hW.alike X.hK⟩, hS.F ht⟩) hS.2.2 hd hlk
theorem r_lret {v r0 : Int64} {I0 : Mem} (X : Cx g p s m args c cc own nL) (hr : meth.sig.returnType = some .long) (hlk : meth.locks = false) (hP : Wp g I H) (hS : va_S (gA g) s.heap H locs) (hd : decode cc pc = .ok (.lreturn, 1)) (h : some (v, I) = some (r0, I0)) :
    W p l e R s m args below meth c H locs 0 0 (MQ below (Qg g (some (.long r0)) I0) args s 0 0 (gA g)) (F0 m pc ls [.long v]) := by
  cases h
  exact W.lret (v := v) X.hx X.hb hr (fun t ht hW => ⟨rfl, ⟨by rw [Wp, ht]; exact hP, va_K.moved hW.alike X.hK⟩, hS.F ht⟩) hS.2.2 hd hlk
theorem r_vret {I0 : Mem} (X : Cx g p s m args c cc own nL) (hr : meth.sig.returnType = none) (hlk : meth.locks = false) (hP : Wp g I H) (hS : va_S (gA g) s.heap H locs) (hd : decode cc pc = .ok (.return_, 1)) (h : some I = some I0) :
    W p l e R s m args below meth c H locs 0 0 (MQ below (Qg g none I0) args s 0 0 (gA g)) (F0 m pc ls []) := by
  cases h
  exact W.vret X.hx X.hb hr (fun t ht hW => ⟨rfl, ⟨by rw [Wp, ht]; exact hP, va_K.moved hW.alike X.hK⟩, hS.F ht⟩) hS.2.2 hd hlk
theorem r_aret {k k0 : Nat} {nm : String} {I0 : Mem} (X : Cx g p s m args c cc own nL) (hr : meth.sig.returnType = some (.object nm)) (hlk : meth.locks = false) (hP : Wp g I H) (hS : va_S (gA g) s.heap H locs) (hd : decode cc pc = .ok (.areturn, 1)) (h : some (k, I) = some (k0, I0)) :
    W p l e R s m args below meth c H locs 0 0 (MQ below (Qg g (some (.ref (ga g k0))) I0) args s 0 0 (gA g)) (F0 m pc ls [.ref (ga g k)]) := by
  cases h
  exact W.aret (v := .ref (ga g k)) X.hx X.hb hr (Or.inl ⟨_, rfl⟩) (Or.inr ⟨_, rfl⟩) (fun t ht hW => ⟨rfl, ⟨by rw [Wp, ht]; exact hP, va_K.moved hW.alike X.hK⟩, hS.F ht⟩) hS.2.2 hd hlk
/-! fields -/
theorem r_get {k ci j index N : Nat} {C : String} {T : u_T} {fs : List Value} {v : Value} (X : Cx g p s m args c cc own nL) (hP : Wp g I H) (hk : k < NT) (hL : lay g I k = .inr (ci, fs)) (hc : vwCl[ci]? = some (C, T, N)) (hin : ∀ w ∈ u_ws C T N, w ∈ TB) (hj : j < N) (hlink : Cond.fieldLink own index (T j).1 (T j).2.1 (T j).2.2.1 ∈ TB) (hv : fs[j]? = some v) (hd : decode cc pc = .ok (.getfield index, 3))
    (kk : W p l e R s m args below meth c H locs cells slots Q (F0 m (pc + 3) ls (v :: rest))) : W p l e R s m args below meth c H locs cells slots Q (F0 m pc ls (.ref (ga g k) :: rest)) :=
  va_get (D := gD g) (ci := ci) (v := v) (C := C) (T := T) (N := N) X.hx X.hb X.hts hin X.ow X.hK hP k (by rw [wl_get hk, hL]) hc j hj (X.hts _ hlink) (fun _ h9 => h9) hv hd kk
theorem r_put {k ci j index N : Nat} {C : String} {T : u_T} {fs : List Value} {ty : FieldType} {v : Value} (X : Cx g p s m args c cc own nL) (hP : Wp g I H) (hS : va_S (gA g) s.heap H locs) (hk : k < NT) (hL : lay g I k = .inr (ci, fs)) (hc : vwCl[ci]? = some (C, T, N)) (hin : ∀ w ∈ u_ws C T N, w ∈ TB) (ty0 : Nat → FieldType) (hty : ∀ k, k < N → parseFieldDescriptor (T k).2.2.1 = some (ty0 k)) (hnm : ∀ a, a < N → ∀ b, b < N → a ≠ b → (T a).2.1 ≠ (T b).2.1) (hj : j < N) (hlink : Cond.fieldLink own index (T j).1 (T j).2.1 (T j).2.2.1 ∈ TB) (hfin : (T j).2.2.2 = false) (hty1 : parseFieldDescriptor (T j).2.2.1 = some ty) (hn : narrow ty v = v) (hfit : fits ty v = true) (hlen : j < fs.length) (hd : decode cc pc = .ok (.putfield index, 3))
    (kk : ∀ (H1 : Heap) (locs1 : List Loc), va_P (gD g) vwCl (wl g (va_up (lay g I) k (.inr (ci, fs.set j v))) NT) H1 → va_S (gA g) s.heap H1 locs1 → W p l e R s m args below meth c H1 locs1 cells slots Q (F0 m (pc + 3) ls rest)) : W p l e R s m args below meth c H locs cells slots Q (F0 m pc ls (v :: .ref (ga g k) :: rest)) :=
  va_put (D := gD g) (ci := ci) (v := v) (ty := ty) (C := C) (T := T) (N := N) X.hx X.hb X.hts hin ty0 hty hnm X.ow X.hK hP (X.2.2.1.D _) hS k (by rw [wl_get hk, hL]) hc j hj (X.hts _ hlink) (fun _ h9 => h9) hfin hty1 hn hfit hlen hd (fun H1 locs1 hP1 _ hS1 => kk H1 locs1 (by rw [wl_set _ hk] at hP1; exact hP1) hS1)
theorem lay_put {k j : Nat} {v : Int32} {x : va_E} (h : cellOf g (tag k) k (upd (I k) j v) = x) : va_up (lay g I) k x = lay g (st I k j v) := by
  funext a
  by_cases ha : a = k
  · subst ha
    simp [va_up, lay, st, h]
  · simp [va_up, lay, st, ha]
/-! arrays of numbers -/
theorem lay_arr {k n : Nat} (hk : tag k = n + 10) : lay g I k = .inl (g.2.2.2.1, n, .inl (I k)) := by
  rw [lay, hk]; rfl
theorem r_iald {k n : Nat} {i : Int32} (X : Cx g p s m args c cc own nL) (hP : Wp g I H) (hk : tag k = n + 10) (hi : ¬ (i < 0 ∨ n ≤ i.toNatClampNeg)) {j : Nat} (hj : i.toNatClampNeg = j) (hd : decode cc pc = .ok (.iaload, 1))
    (kk : W p l e R s m args below meth c H locs cells slots Q (F0 m (pc + 1) ls (.int (I k j) :: rest))) : W p l e R s m args below meth c H locs cells slots Q (F0 m pc ls (.int i :: .ref (ga g k) :: rest)) := by
  subst hj
  exact va_iald (D := gD g) (ws := wl g (lay g I) NT) X.hx X.hb X.hK hP k 0 (by rw [wl_get (tag_lt hk (by omega)), lay_arr hk]) rfl hi hd kk
theorem r_iast {k n : Nat} {i x : Int32} (X : Cx g p s m args c cc own nL) (hP : Wp g I H) (hS : va_S (gA g) s.heap H locs) (hk : tag k = n + 10) (hi : ¬ (i < 0 ∨ n ≤ i.toNatClampNeg)) {j : Nat} {I1 : Mem} (hj : i.toNatClampNeg = j) (hI : I1 = st I k j x) (hd : decode cc pc = .ok (.iastore, 1))
    (kk : ∀ (H1 : Heap) (locs1 : List Loc), Wp g I1 H1 → va_S (gA g) s.heap H1 locs1 → W p l e R s m args below meth c H1 locs1 cells slots Q (F0 m (pc + 1) ls rest)) : W p l e R s m args below meth c H locs cells slots Q (F0 m pc ls (.int x :: .int i :: .ref (ga g k) :: rest)) := by
  subst hj
  subst hI
  have hkn := tag_lt hk (by omega)
  refine va_iast (D := gD g) (ws := wl g (lay g I) NT) X.hx X.hb X.hK hP (X.2.2.1.D _) hS k 0 (by rw [wl_get hkn, lay_arr hk]) rfl hi hd (fun H1 locs1 hP1 _ hS1 => kk H1 locs1 ?_ hS1)
  rw [wl_set _ hkn, lay_put (by rw [hk]; rfl)] at hP1
  exact hP1
theorem r_alen {k n : Nat} {v : Int32} (X : Cx g p s m args c cc own nL) (hP : Wp g I H) (hk : tag k = n + 10) (hv : Int32.ofNat n = v) (hd : decode cc pc = .ok (.arraylength, 1))
    (kk : W p l e R s m args below meth c H locs cells slots Q (F0 m (pc + 1) ls (.int v :: rest))) : W p l e R s m args below meth c H locs cells slots Q (F0 m pc ls (.ref (ga g k) :: rest)) :=
  va_alen (D := gD g) (ws := wl g (lay g I) NT) (x := (n, .inl (I k))) (ty := .int) X.hx X.hb X.hK hP k 0 (by rw [wl_get (tag_lt hk (by omega)), lay_arr hk]) rfl hv hd kk
theorem r_aald {k : Nat} {i : Int32} (X : Cx g p s m args c cc own nL) (hP : Wp g I H) (hk : tag k = 9) (hi : ¬ (i < 0 ∨ 14 ≤ i.toNatClampNeg)) (hd : decode cc pc = .ok (.aaload, 1))
    (kk : W p l e R s m args below meth c H locs cells slots Q (F0 m (pc + 1) ls (.ref (ga g (k + 1 + 4 * i.toNatClampNeg)) :: rest))) : W p l e R s m args below meth c H locs cells slots Q (F0 m pc ls (.int i :: .ref (ga g k) :: rest)) :=
  va_aldq (D := gD g) (ws := wl g (lay g I) NT) (f := fun j => some (ga g (k+1+4*j))) X.hx X.hb X.hK hP k 2 (by rw [wl_get (tag_lt hk (by omega)), lay, hk]; rfl) rfl hi hd kk
/-! calls -/
/-- what the tables say of a method that is called: its code, that it is ready -/
def Cal (y : MethodName) (bytes : ByteArray) (maxL : Nat) (ret : Option FieldType) (n : Nat) : Prop :=
  Cond.code y bytes maxL ret ∈ TB ∧ Cond.initialized y.cls ∈ TB ∧ (y.cls ≠ "java/lang/invoke/MethodHandle" ∧ y.cls ≠ "java/lang/invoke/VarHandle" ∧ (parseMethodDescriptor y.desc).map (fun d => d.parameters.length) = some n)
theorem cal_good {y : MethodName} {bytes : ByteArray} {maxL : Nat} {ret : Option FieldType} {n : Nat} (h : Cal y bytes maxL ret n) : GoodIn TB (.code y bytes maxL ret :: TB) := by
  intro w hw
  have hm : w ∈ TB := by
    rcases List.mem_cons.mp hw with q | q
    · rw [q]; exact h.1
    · exact q
  exact ⟨hm, tb_good w hm⟩
theorem call_go {A1 : Array Value} {ov : Option Value} {I1 : Mem} {st0 : List Value} (hr : va_Run p l e R s m args below meth c H locs cells slots 0 0 (F0 m pc ls st0) rest (Qg g ov I1 A1) (gA g)) (hS : va_S (gA g) s.heap H locs)
    (kk : ∀ (H1 : Heap) (locs1 : List Loc), Wp g I1 H1 → va_S (gA g) s.heap H1 locs1 → W p l e R s m args below meth c H1 locs1 cells slots Q (F0 m (pc + 3) ls (ov.toList ++ rest))) : W p l e R s m args below meth c H locs cells slots Q (F0 m pc ls st0) := by
  intro T hT X
  obtain ⟨v, st₀, t, T', L, h0, X', hL, e1, e2, ⟨hv, ⟨hp, -⟩, hz, hk⟩, stp⟩ := hr T hT X
  cases hv
  rw [h0] at hz hk
  obtain ⟨t2, a1, b1⟩ := kk T'.heap (locs ++ L) (by rw [e1]; exact hp)
    ⟨Nat.le_trans hS.1 (by rw [e1]; exact hz), fun q h1 h2 => by rw [e1, hk q (Nat.lt_of_lt_of_le h1 hS.1) h2]; exact hS.2.1 q h1 h2, fun q hq => by
      rcases List.mem_append.mp hq with h | h
      · exact hS.2.2 q h
      · exact hL q h⟩ T' rfl X'
  exact ⟨t2, stp t2 a1, b1⟩
theorem r_callS {y : MethodName} {bytes : ByteArray} {maxL n index : Nat} {ret : Option FieldType} {rm : Room} {As : List Value} {ov : Option Value} {I1 : Mem} {st0 : List Value} (rest : List Value) (X : Cx g p s m args c cc own nL) (hM : Mc l g y bytes maxL ret rm I As ov I1) (hy : Cal y bytes maxL ret n) (hst : Cond.static y ∈ TB) (hlink : Cond.methodLink own index y ∈ TB) (hn : As.length = n) (hz : rm.cells = 0 ∧ rm.slots = 0) (hR : rm.frames + 1 ≤ R.frames ∧ 8 + (maxL + 11) + rm.locals ≤ R.locals) (hP : Wp g I H) (hS : va_S (gA g) s.heap H locs) (hl : ls.size = nL) (hs0 : st0 = As.reverse ++ rest) (hw : (rest.map fun v => v.category).sum ≤ 8) (hd : decode cc pc = .ok (.invokestatic index, 3)) (hf : cells ≤ R.cells ∧ slots ≤ R.slots)
    (kk : ∀ (H1 : Heap) (locs1 : List Loc), Wp g I1 H1 → va_S (gA g) s.heap H1 locs1 → W p l e R s m args below meth c H1 locs1 cells slots Q (F0 m (pc + 3) ls (ov.toList ++ rest))) : W p l e R s m args below meth c H locs cells slots Q (F0 m pc ls st0) :=
  call_go (va_runS (As := As) (rest := rest) X.1 hM ⟨callB_of n X.hts (cal_good hy) rfl hz.1 hz.2 (X.hts _ hy.2.1) (X.hts _ hlink) hy.2.2 hR, X.hts _ hst⟩ ⟨wd_blind, fun U hU hW => ⟨rfl, ⟨by rw [Wp, hU]; exact hP, va_K.moved hW.alike X.hK⟩, Yw.go X.hY hS hU hW⟩⟩ rfl hn hl hs0 (lv_room hw) hd hf) hS kk
theorem r_callV {y : MethodName} {bytes : ByteArray} {maxL n index k ci : Nat} {ret : Option FieldType} {rm : Room} {As : List Value} {ov : Option Value} {I1 : Mem} {st0 : List Value} {q : vw_C} {fs : List Value} (rest : List Value) (X : Cx g p s m args c cc own nL) (hM : Mc l g y bytes maxL ret rm I (.ref (ga g k) :: As) ov I1) (hy : Cal y bytes maxL ret n) (hst : Cond.instanceMethod y ∈ TB) (hse : Cond.selects q.1 y y ∈ TB) (hlink : Cond.methodLink own index y ∈ TB) (hk : k < NT) (hL : lay g I k = .inr (ci, fs)) (hc : vwCl[ci]? = some q) (hn : As.length = n) (hz : rm.cells = 0 ∧ rm.slots = 0) (hR : rm.frames + 1 ≤ R.frames ∧ 8 + (maxL + 11) + rm.locals ≤ R.locals) (hP : Wp g I H) (hS : va_S (gA g) s.heap H locs) (hl : ls.size = nL) (hs0 : st0 = As.reverse ++ .ref (ga g k) :: rest) (hw : (rest.map fun v => v.category).sum ≤ 8) (hd : decode cc pc = .ok (.invokevirtual index, 3)) (hf : cells ≤ R.cells ∧ slots ≤ R.slots)
    (kk : ∀ (H1 : Heap) (locs1 : List Loc), Wp g I1 H1 → va_S (gA g) s.heap H1 locs1 → W p l e R s m args below meth c H1 locs1 cells slots Q (F0 m (pc + 3) ls (ov.toList ++ rest))) : W p l e R s m args below meth c H locs cells slots Q (F0 m pc ls st0) :=
  call_go (va_runV (As := As) (rest := rest) (C := q.1) X.1 hM ⟨callB_of n X.hts (cal_good hy) rfl hz.1 hz.2 (X.hts _ hy.2.1) (X.hts _ hlink) hy.2.2 hR, X.hts _ hst, X.hts _ hse⟩ ⟨wd_blind, va_recv X.hK hP hc (q0 := k) (by rw [wl_get hk, hL]), fun U hU hW => ⟨rfl, ⟨by rw [Wp, hU]; exact hP, va_K.moved hW.alike X.hK⟩, Yw.go X.hY hS hU hW⟩⟩ rfl hn hl hs0 (lv_room hw) hd hf) hS kk
/-! names on the stack -/
theorem r_nmi {x y : Int32} (hx : y = x) (k : W p l e R s m args below meth c H locs cells slots Q (F0 m pc ls (.int y :: rest))) : W p l e R s m args below meth c H locs cells slots Q (F0 m pc ls (.int x :: rest)) := hx ▸ k
theorem r_nml {x y : Int64} (hx : y = x) (k : W p l e R s m args below meth c H locs cells slots Q (F0 m pc ls (.long y :: rest))) : W p l e R s m args below meth c H locs cells slots Q (F0 m pc ls (.long x :: rest)) := hx ▸ k
end FRAMEROWS
/-! THE METHODS AS FUNCTIONS: what a program prints out of the bytecode is put together from these -/
def letM {α β : Type} (x : α) (f : α → Option β) : Option β := f x
theorem letM_e {α β : Type} {x : α} {f : α → Option β} {z : β} (h : letM x f = some z) : ∃ y, y = x ∧ f y = some z := ⟨x, rfl, h⟩
theorem gd_e {c : Prop} [Decidable c] {β : Type} {x : Option β} {z : β} (h : (if c then none else x) = some z) : ¬ c ∧ x = some z := by
  by_cases hc : c
  · rw [if_pos hc] at h; cases h
  · rw [if_neg hc] at h; exact ⟨hc, h⟩
def clM {α β : Type} (x : Option α) (f : α → Option β) : Option β := match x with
  | none => none
  | some a => f a
theorem clM_e {α β : Type} {x : Option α} {f : α → Option β} {z : β} (h : clM x f = some z) : ∃ a, x = some a ∧ f a = some z := by
  cases x with
  | none => cases h
  | some a => exact ⟨a, rfl, h⟩
theorem ifp {c : Prop} [Decidable c] {α : Sort _} {a b z : α} (hc : c) (h : (if c then a else b) = z) : a = z := by rw [if_pos hc] at h; exact h
theorem ifn {c : Prop} [Decidable c] {α : Sort _} {a b z : α} (hc : ¬ c) (h : (if c then a else b) = z) : b = z := by rw [if_neg hc] at h; exact h
/-- a call: what it answers and the numbers behind it -/
def clP {α β : Type} (x : Option (α × Mem)) (f : α → Mem → Option β) : Option β := match x with
  | none => none
  | some (a, I) => f a I
theorem clP_e {α β : Type} {x : Option (α × Mem)} {f : α → Mem → Option β} {z : β} (h : clP x f = some z) : ∃ a I, x = some (a, I) ∧ f a I = some z := by
  cases x with
  | none => cases h
  | some q => exact ⟨q.1, q.2, rfl, h⟩
theorem bool_nar {v : Int32} (h : ¬ ¬ (v = 0 ∨ v = 1)) : narrow .boolean (.int v) = .int v := by
  rcases Classical.not_not.mp h with rfl | rfl <;> rfl
theorem bool_nar' {v : Int32} (h : ¬ ¬ (v = 0 ∨ v = 1)) : vp_nar .boolean v = v := by
  rcases Classical.not_not.mp h with rfl | rfl <;> rfl
/-- a table's cases are all -/
theorem tsw_out {x : Int32} (lo n : Nat) (h : ∀ j, j < n → ¬ x = nI (lo + j)) (hn : lo + n < 2 ^ 31) : x.toInt < (lo : Int) ∨ (lo : Int) + n - 1 < x.toInt := by
  rcases Int.lt_or_le x.toInt lo with h1 | h1
  · exact Or.inl h1
  · refine Or.inr ?_
    rcases Int.lt_or_le ((lo : Int) + n - 1) x.toInt with h2 | h2
    · exact h2
    · exfalso
      refine h (x.toInt.toNat - lo) (by omega) ?_
      refine Int32.toInt_inj.mp ?_
      rw [nI_toInt (by omega)]
      omega
section CALLS
variable {p : Program} {l : Launch} {e : Env} {R : Room} {s : State} {m : MethodId} {args : Array Value} {below : List Frame} {meth : Method} {c : Code} {H : Heap} {locs : List Loc} {cells slots : Nat} {Q : State → Prop} {g : GG} {cc : ByteArray} {own : String} {nL pc : Nat} {ls : Array Slot} {I : Mem}
/-- a tag behind a reference -/
theorem tgA (τ d τ' : Nat) (h : (List.range NT).all (fun k => !(tag k == τ) || tag (k+d) == τ') = true) (h7 : τ ≠ 7) {k : Nat} (hk : tag k = τ) : tag (k+d) = τ' := by
  have := List.all_eq_true.mp h k (List.mem_range.mpr (tag_lt hk h7))
  simpa [hk] using this
theorem tg_ring {k j : Nat} (hk : tag k = 9) (hj : j < 14) : tag (k + 1 + 4 * j) = 4 := by
  have h : (List.range NT).all (fun k => !(tag k == 9) || (List.range 14).all (fun j => tag (k + 1 + 4 * j) == 4)) = true := by decide +kernel
  have h1 := List.all_eq_true.mp h k (List.mem_range.mpr (tag_lt hk (by decide)))
  simp only [hk, beq_self_eq_true, Bool.not_true, Bool.false_or] at h1
  exact eq_of_beq (List.all_eq_true.mp h1 j (List.mem_range.mpr hj))
end CALLS
