section JDK
variable {p : Program} {l : Launch} {e : Env} {s : State} {m : MethodId} {args : Array Value} {below : List Frame} {meth : Method} {c : Code} {H : Heap} {locs : List Loc} {cells slots : Nat} {Q : State → Prop} {R : Room} {cc : ByteArray} {own : String} {nL pc : Nat} {ls : Array Slot} {I : Mem} {g : GG}
abbrev rmJ3_checkIndex_8e157 : Room := { frames := 0, cells := 0, slots := 0, locals := 0 }
abbrev rmJ0_checkIndex_df160 : Room := { frames := 1, cells := 0, slots := 0, locals := 22 }
abbrev rmJ1_charAt_3b067 : Room := { frames := 2, cells := 0, slots := 0, locals := 43 }
abbrev rmJ0_isLatin1_aae02 : Room := { frames := 0, cells := 0, slots := 0, locals := 0 }
abbrev rmJ0_charAt_5068e : Room := { frames := 4, cells := 0, slots := 0, locals := 85 }
def chS (x : Int32) : Int32 := m09.getD x.toNatClampNeg 0
theorem chS_4 {k : Int32} (h : ¬ (k < 0 ∨ 4 ≤ k.toNatClampNeg)) : (((chS k) &&& (255 : Int32)).toUInt32 % 65536).toInt32 = chS k ∧ narrow .char (.int (chS k)) = .int (chS k) := by
  have h1 : k.toNatClampNeg < 4 := Nat.not_le.mp fun q => h (Or.inr q)
  unfold chS
  generalize k.toNatClampNeg = j at *
  rcases (show j = 0 ∨ j = 1 ∨ j = 2 ∨ j = 3 by omega) with rfl | rfl | rfl | rfl <;> decide +kernel
theorem r_cret {v r0 : Int32} {I0 : Mem} (X : Cx g p s m args c cc own nL) (hr : meth.sig.returnType = some .char) (hlk : meth.locks = false) (hP : Wp g I H) (hS : va_S (gA g) s.heap H locs) (hn : narrow .char (.int v) = .int v) (hd : decode cc pc = .ok (.ireturn, 1)) (h : some (v, I) = some (r0, I0)) :
    W p l e R s m args below meth c H locs 0 0 (MQ below (Qg g (some (.int r0)) I0) args s 0 0 (gA g)) (F0 m pc ls [.int v]) := by
  cases h
  exact W.zret (v := v) X.hx X.hb hr hn (fun t ht hW => ⟨rfl, ⟨by rw [Wp, ht]; exact hP, va_K.moved hW.alike X.hK⟩, hS.F ht⟩) hS.2.2 hd hlk
/-- a call on the String constant -/
theorem r_callT {y : MethodName} {bytes : ByteArray} {maxL n index : Nat} {ret : Option FieldType} {rm : Room} {As : List Value} {ov : Option Value} {I1 : Mem} {st0 : List Value} (rest : List Value) (X : Cx g p s m args c cc own nL) (hM : Mc l g y bytes maxL ret rm I (.ref (gS g) :: As) ov I1) (hy : Cal y bytes maxL ret n) (hst : Cond.instanceMethod y ∈ TB) (hse : Cond.selects "java/lang/String" y y ∈ TB) (hlink : Cond.methodLink own index y ∈ TB) (hn : As.length = n) (hz : rm.cells = 0 ∧ rm.slots = 0) (hR : rm.frames + 1 ≤ R.frames ∧ 8 + (maxL + 11) + rm.locals ≤ R.locals) (hP : Wp g I H) (hS : va_S (gA g) s.heap H locs) (hl : ls.size = nL) (hs0 : st0 = As.reverse ++ .ref (gS g) :: rest) (hw : (rest.map fun v => v.category).sum ≤ 8) (hd : decode cc pc = .ok (.invokevirtual index, 3)) (hf : cells ≤ R.cells ∧ slots ≤ R.slots)
    (kk : ∀ (H1 : Heap) (locs1 : List Loc), Wp g I1 H1 → va_S (gA g) s.heap H1 locs1 → W p l e R s m args below meth c H1 locs1 cells slots Q (F0 m (pc + 3) ls (ov.toList ++ rest))) : W p l e R s m args below meth c H locs cells slots Q (F0 m pc ls st0) := by
  have hrc : ∃ cell : Cell, H[gS g]? = some cell ∧ cell.vm.isStatics = false ∧ s.vm.findClass "java/lang/String" = some cell.cls := by
    obtain ⟨cell, h1, h2, h3, -⟩ := X.hY.1.kept hS.2.1
    exact ⟨cell, h1, h2, h3⟩
  exact call_go (va_runV (As := As) (rest := rest) (C := "java/lang/String") X.1 hM ⟨callB_of n X.hts (cal_good hy) rfl hz.1 hz.2 (X.hts _ hy.2.1) (X.hts _ hlink) hy.2.2 hR, X.hts _ hst, X.hts _ hse⟩ ⟨wd_blind, hrc, fun U hU hW => ⟨rfl, ⟨by rw [Wp, hU]; exact hP, va_K.moved hW.alike X.hK⟩, Yw.go X.hY hS hU hW⟩⟩ rfl hn hl hs0 (lv_room hw) hd hf) hS kk
theorem ccJ3_checkIndex_8e157 (l : Launch) (g : GG) (hG : Apart g NT) (I : Mem) {i n : Int32} {v : Value} (hv : v = .null ∨ ∃ t, v = .ref t) (h1 : ¬ i < 0) (h2 : i < n) : Mc l g yJ3_checkIndex_8e157 cJ3_checkIndex_8e157 3 (some .int) rmJ3_checkIndex_8e157 I [.int i, .int n, v] (some (.int i)) I := by
  refine Mc.of hG (by decide +kernel) (by rcases hv with rfl | ⟨t, rfl⟩ <;> exact Nat.le_of_ble_eq_true rfl) ?_
  intro p e s m args below meth c ls X hr hlk hP hS hl
  have X : Cx g p s m args c cJ3_checkIndex_8e157 RJ3 3 := X
  have hx := X.hx
  have hb := X.hb
  have hl : lv_has ls 3 [(0, .int i), (1, .int n), (2, v)] := hl
  refine lv_iload_n hx hb dJ3_checkIndex_8e157_0 rfl (lv_at hl 0 rfl) ?_
  refine lv_if_lt (tgt := 9) hx hb dJ3_checkIndex_8e157_1 (by decide) (fun c => absurd c h1) (fun _ => ?_)
  refine lv_iload_n hx hb dJ3_checkIndex_8e157_4 rfl (lv_at hl 0 rfl) ?_
  refine lv_iload_n hx hb dJ3_checkIndex_8e157_5 rfl (lv_at hl 1 rfl) ?_
  refine lv_icmp_lt (tgt := 16) hx hb dJ3_checkIndex_8e157_6 (by decide) (fun _ => ?_) (fun c => absurd h2 c)
  refine lv_iload_n hx hb dJ3_checkIndex_8e157_16 rfl (lv_at hl 0 rfl) ?_
  exact r_iret X hr hlk hP hS dJ3_checkIndex_8e157_17 rfl
theorem ccJ0_checkIndex_df160 (l : Launch) (g : GG) (hG : Apart g NT) (I : Mem) {i n : Int32} (h1 : ¬ i < 0) (h2 : i < n) : Mc l g yJ0_checkIndex_df160 cJ0_checkIndex_df160 2 none rmJ0_checkIndex_df160 I [.int i, .int n] none I := by
  refine Mc.of hG (by decide +kernel) (Nat.le_of_ble_eq_true rfl) ?_
  intro p e s m args below meth c ls X hr hlk hP hS hl
  have X : Cx g p s m args c cJ0_checkIndex_df160 RJ0 2 := X
  have hx := X.hx
  have hb := X.hb
  have hl : lv_has ls 2 [(0, .int i), (1, .int n)] := hl
  have hZ : ∃ v : Value, (v = .null ∨ ∃ t, v = .ref t) ∧ va_Z "jdk/internal/util/Preconditions" "SIOOBE_FORMATTER" "Ljava/util/function/BiFunction;" v (gA g) s s.heap := by
    rcases X.hY.2.2.2.2.2.1 with h | ⟨t, h⟩
    · exact ⟨_, Or.inl rfl, h⟩
    · exact ⟨_, Or.inr ⟨t, rfl⟩, h⟩
  obtain ⟨v, hv, hZ⟩ := hZ
  refine lv_iload_n hx hb dJ0_checkIndex_df160_0 rfl (lv_at hl 0 rfl) ?_
  refine lv_iload_n hx hb dJ0_checkIndex_df160_1 rfl (lv_at hl 1 rfl) ?_
  refine va_gets hx hb hZ hS X.ow (X.hts _ k_524) (fun _ h => h) dJ0_checkIndex_df160_2 ?_
  refine r_callS (As := [.int i, .int n, v]) [] X (ccJ3_checkIndex_8e157 l g hG I hv h1 h2) cal_J3_checkIndex_8e157 sc_J3_checkIndex_8e157 k_526 rfl ⟨rfl, rfl⟩ ⟨Nat.le_of_ble_eq_true rfl, Nat.le_of_ble_eq_true rfl⟩ hP hS hl.1 rfl (Nat.le_of_ble_eq_true rfl) dJ0_checkIndex_df160_5 ⟨Nat.zero_le _, Nat.zero_le _⟩ (fun H locs hP hS => ?_)
  show W p l e rmJ0_checkIndex_df160 s m args below meth c H locs 0 0 _ (F0 m 8 ls [.int i])
  refine lv_pop hx hb dJ0_checkIndex_df160_8 rfl ?_
  exact r_vret X hr hlk hP hS dJ0_checkIndex_df160_9 rfl
theorem ccJ1_charAt_3b067 (l : Launch) (g : GG) (hG : Apart g NT) (I : Mem) {k : Int32} (h : ¬ (k < 0 ∨ 4 ≤ k.toNatClampNeg)) : Mc l g yJ1_charAt_3b067 cJ1_charAt_3b067 2 (some .char) rmJ1_charAt_3b067 I [.ref (gV g), .int k] (some (.int (chS k))) I := by
  refine Mc.of hG (by decide +kernel) (Nat.le_of_ble_eq_true rfl) ?_
  intro p e s m args below meth c ls X hr hlk hP hS hl
  have X : Cx g p s m args c cJ1_charAt_3b067 RJ1 2 := X
  have hx := X.hx
  have hb := X.hb
  have hl : lv_has ls 2 [(0, .ref (gV g)), (1, .int k)] := hl
  have h4 : k < 4 := by
    have h1 : k.toNatClampNeg < 4 := Nat.not_le.mp fun q => h (Or.inr q)
    have h2 : ¬ k < 0 := fun q => h (Or.inl q)
    rw [Int32.lt_iff_toInt_lt] at h2 ⊢
    have e : k.toNatClampNeg = k.toInt.toNat := rfl
    have e0 : (0 : Int32).toInt = 0 := rfl
    have e4 : (4 : Int32).toInt = 4 := rfl
    omega
  have hT : va_T .byte (gV g) 4 (fun j => .int (m09.getD j 0)) (gA g) s s.heap := X.hY.2.2.2.1
  refine lv_iload_n hx hb dJ1_charAt_3b067_0 rfl (lv_at hl 1 rfl) ?_
  refine lv_aload_n hx hb dJ1_charAt_3b067_1 rfl (lv_at hl 0 rfl) ?_
  refine va_tlen hx hb hT hS (v := (4 : Int32)) (by decide +kernel) dJ1_charAt_3b067_2 ?_
  refine r_callS (As := [.int k, .int (4 : Int32)]) [] X (ccJ0_checkIndex_df160 l g hG I (fun q => h (Or.inl q)) h4) cal_J0_checkIndex_df160 sc_J0_checkIndex_df160 k_521 rfl ⟨rfl, rfl⟩ ⟨Nat.le_of_ble_eq_true rfl, Nat.le_of_ble_eq_true rfl⟩ hP hS hl.1 rfl (Nat.le_of_ble_eq_true rfl) dJ1_charAt_3b067_3 ⟨Nat.zero_le _, Nat.zero_le _⟩ (fun H locs hP hS => ?_)
  show W p l e rmJ1_charAt_3b067 s m args below meth c H locs 0 0 _ (F0 m 6 ls [])
  refine lv_aload_n hx hb dJ1_charAt_3b067_6 rfl (lv_at hl 0 rfl) ?_
  refine lv_iload_n hx hb dJ1_charAt_3b067_7 rfl (lv_at hl 1 rfl) ?_
  refine va_tb hx hb hT hS h (v := .int (chS k)) rfl dJ1_charAt_3b067_8 ?_
  refine lv_sipush (v := (255 : Int32)) hx hb dJ1_charAt_3b067_9 (by decide +kernel) ?_
  refine lv_iand hx hb dJ1_charAt_3b067_12 ?_
  refine lv_i2c hx hb (v := chS k) dJ1_charAt_3b067_13 (chS_4 h).1 ?_
  exact r_cret X hr hlk hP hS (chS_4 h).2 dJ1_charAt_3b067_14 rfl
theorem ccJ0_isLatin1_aae02 (l : Launch) (g : GG) (hG : Apart g NT) (I : Mem) : Mc l g yJ0_isLatin1_aae02 cJ0_isLatin1_aae02 1 (some .boolean) rmJ0_isLatin1_aae02 I [.ref (gS g)] (some (.int (1 : Int32))) I := by
  refine Mc.of hG (by decide +kernel) (Nat.le_of_ble_eq_true rfl) ?_
  intro p e s m args below meth c ls X hr hlk hP hS hl
  have X : Cx g p s m args c cJ0_isLatin1_aae02 RJ0 1 := X
  have hx := X.hx
  have hb := X.hb
  have hl : lv_has ls 1 [(0, .ref (gS g))] := hl
  refine va_gets hx hb X.hY.2.2.2.2.1 hS X.ow (X.hts _ k_516) (fun _ h => h) dJ0_isLatin1_aae02_0 ?_
  refine lv_if_eq (tgt := 17) hx hb dJ0_isLatin1_aae02_3 (by decide) (fun c => absurd c (by decide)) (fun _ => ?_)
  refine lv_aload_n hx hb dJ0_isLatin1_aae02_6 rfl (lv_at hl 0 rfl) ?_
  refine vk_getf hx hb X.hY.2.1 hS X.ow (X.hts _ k_637) (fun _ h => h) dJ0_isLatin1_aae02_7 ?_
  refine lv_if_ne (tgt := 17) hx hb dJ0_isLatin1_aae02_10 (by decide) (fun c => absurd rfl c) (fun _ => ?_)
  refine lv_iconst (v := (1 : Int32)) hx hb dJ0_isLatin1_aae02_13 (by decide +kernel) ?_
  refine lv_goto (tgt := 18) hx hb dJ0_isLatin1_aae02_14 (by decide) ?_
  exact r_zret X hr hlk hP hS rfl dJ0_isLatin1_aae02_18 rfl
theorem ccJ0_charAt_5068e (l : Launch) (g : GG) (hG : Apart g NT) (I : Mem) {k : Int32} (h : ¬ (k < 0 ∨ 4 ≤ k.toNatClampNeg)) : Mc l g yJ0_charAt_5068e cJ0_charAt_5068e 2 (some .char) rmJ0_charAt_5068e I [.ref (gS g), .int k] (some (.int (chS k))) I := by
  refine Mc.of hG (by decide +kernel) (Nat.le_of_ble_eq_true rfl) ?_
  intro p e s m args below meth c ls X hr hlk hP hS hl
  have X : Cx g p s m args c cJ0_charAt_5068e RJ0 2 := X
  have hx := X.hx
  have hb := X.hb
  have hl : lv_has ls 2 [(0, .ref (gS g)), (1, .int k)] := hl
  refine lv_aload_n hx hb dJ0_charAt_5068e_0 rfl (lv_at hl 0 rfl) ?_
  refine r_callT (As := []) [] X (ccJ0_isLatin1_aae02 l g hG I) cal_J0_isLatin1_aae02 im_J0_isLatin1_aae02 se_J0_isLatin1_aae02 k_512 rfl ⟨rfl, rfl⟩ ⟨Nat.le_of_ble_eq_true rfl, Nat.le_of_ble_eq_true rfl⟩ hP hS hl.1 rfl (Nat.le_of_ble_eq_true rfl) dJ0_charAt_5068e_1 ⟨Nat.zero_le _, Nat.zero_le _⟩ (fun H locs hP hS => ?_)
  show W p l e rmJ0_charAt_5068e s m args below meth c H locs 0 0 _ (F0 m 4 ls [.int (1 : Int32)])
  refine lv_if_eq (tgt := 16) hx hb dJ0_charAt_5068e_4 (by decide) (fun c => absurd c (by decide)) (fun _ => ?_)
  refine lv_aload_n hx hb dJ0_charAt_5068e_7 rfl (lv_at hl 0 rfl) ?_
  refine vk_getf hx hb X.hY.2.2.1 hS X.ow (X.hts _ k_638) (fun _ h => h) dJ0_charAt_5068e_8 ?_
  refine lv_iload_n hx hb dJ0_charAt_5068e_11 rfl (lv_at hl 1 rfl) ?_
  refine r_callS (As := [.ref (gV g), .int k]) [] X (ccJ1_charAt_3b067 l g hG I h) cal_J1_charAt_3b067 sc_J1_charAt_3b067 k_518 rfl ⟨rfl, rfl⟩ ⟨Nat.le_of_ble_eq_true rfl, Nat.le_of_ble_eq_true rfl⟩ hP hS hl.1 rfl (Nat.le_of_ble_eq_true rfl) dJ0_charAt_5068e_12 ⟨Nat.zero_le _, Nat.zero_le _⟩ (fun H locs hP hS => ?_)
  show W p l e rmJ0_charAt_5068e s m args below meth c H locs 0 0 _ (F0 m 15 ls [.int (chS k)])
  exact r_cret X hr hlk hP hS (chS_4 h).2 dJ0_charAt_5068e_15 rfl
/-- the constant's character -/
theorem r_charAt {k : Int32} {index : Nat} {st0 : List Value} (rest : List Value) (hG : Apart g NT) (X : Cx g p s m args c cc own nL) (h : ¬ (k < 0 ∨ 4 ≤ k.toNatClampNeg)) (hlink : Cond.methodLink own index yJ0_charAt_5068e ∈ TB) (hP : Wp g I H) (hS : va_S (gA g) s.heap H locs) (hl : ls.size = nL) (hR1 : rmJ0_charAt_5068e.frames + 1 ≤ R.frames) (hR2 : 8 + (2 + 11) + rmJ0_charAt_5068e.locals ≤ R.locals) (hs0 : st0 = .int k :: .ref (gS g) :: rest) (hw : (rest.map fun v => v.category).sum ≤ 8) (hd : decode cc pc = .ok (.invokevirtual index, 3)) (hf : cells ≤ R.cells ∧ slots ≤ R.slots)
    (kk : ∀ (H1 : Heap) (locs1 : List Loc), Wp g I H1 → va_S (gA g) s.heap H1 locs1 → W p l e R s m args below meth c H1 locs1 cells slots Q (F0 m (pc + 3) ls (.int (chS k) :: rest))) : W p l e R s m args below meth c H locs cells slots Q (F0 m pc ls st0) :=
  r_callT (As := [.int k]) rest X (ccJ0_charAt_5068e l g hG I h) cal_J0_charAt_5068e im_J0_charAt_5068e se_J0_charAt_5068e hlink rfl ⟨rfl, rfl⟩ ⟨hR1, hR2⟩ hP hS hl hs0 hw hd hf kk
end JDK
