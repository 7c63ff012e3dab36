-- ===== end of PART A; then your names; then what follows =====
/-! THE CLAIM OUT OF ONE WALK OF THE LAW'S BODY. Your part is whole_start (and what it stands on); all else here is the same for every law, but numbers. -/
def R_law : String := "StepperPlannerLaw"
def lw_P (b : Addr) (xs : List Int32) (args : Array Value) (s : State) : Prop := args = #[.ref b] ∧ s.IntsAt b xs ∧ xs.length ≤ 260 ∧ (Jvm.Cond.and given_1 narrow_1).before args s = true
def lw_Q (_ : Array Value) (s : State) (o : Outcome) (t : State) : Prop := o = .returned (some (.int 1)) ∧ Framed s o t [] 600000 7302250
def lw_Z (below : List Frame) (a : Array Value) (s : State) : State → Prop := fun t => ∃ o, t.status = .running ∧ Ended t below o ∧ lw_Q a s o t
/-- the law's own end, with 1 on the stack, nothing written that was there before, its room as the claim has it -/
theorem lw_ret {p : Program} {l : Launch} {e : Env} {s : State} {m : MethodId} {below : List Frame} {meth : Method} {c : Code} {b : Nat} (hx : p.tables.exec = Jvm.exec) (hb : c.code = code) (hr : meth.sig.returnType = ret) (hlocks : meth.locks = false) {pc : Nat} {H : Heap} {ls : Array Slot} (hdg : decode code pc = .ok (.ireturn, 1)) : W p l e room_1 s m #[Value.ref b] below meth c H [] 600000 7302250 (lw_Z below #[Value.ref b] s) (F0 m pc ls [.int 1]) := by
  intro T hT X
  obtain ⟨fs, hret, hrun, hended, hW, hframe⟩ := X.leave (v := some (.int 1)) (hlocks := hlocks) (fun h => by rw [hr] at h; cases h)
  have hmeth' : T.vm.method? m = some meth := X.method'
  refine ⟨T.setFrames fs, ?_, .returned (some (.int 1)), hrun, hended, rfl, ⟨_, rfl⟩, hW, hframe⟩
  jvm_step X.here [X.here.top, hx, hb, hdg, hmeth', hr, ret, narrow_b1]
  (try refine ⟨rfl, ?_⟩); (try refine ⟨rfl, ?_⟩)
  first | (intro acts; rw [hret _ acts rfl rfl rfl]) | rw [hret _ _ rfl rfl rfl]
  exact Steps.refl _
/-- what holds at the law's entry: the machine, the code, the tables' words (any of lw_tbl by 'hts w (by decide +kernel)'), the script of L ints xs at the cell b, what the Statement gives of the start (any of its parts by flat_of_before) -/
def lw_At (p : Program) (s : State) (m : MethodId) (meth : Method) (c : Code) (b L : Nat) (xs : Nat → Int32) : Prop :=
  p.tables.exec = Jvm.exec ∧ c.code = code ∧ meth.sig.returnType = ret ∧ c.maxLocals = 7 ∧ s.vm.findClass R_law = some m.cls ∧ (∀ w ∈ lw_tbl, w.before #[Value.ref b] s = true) ∧ va_X b L xs s s.heap ∧ b < s.heap.size ∧ meth.locks = false ∧ (Jvm.Cond.and given_1 narrow_1).before #[Value.ref b] s = true
section LAWWALK
variable {p : Program} {l : Launch} {e : Env} {s : State} {m : MethodId} {below : List Frame} {meth : Method} {c : Code} {g : GG}
theorem tgl_0 : tag 0 = 5 := rfl
theorem tgl_81 : tag 81 = 5 := rfl
def fL_law_24 (N : Nat) (xs : Nat → Int32) (L : Nat) : Nat → Mem → Int32 → Int32 → Option Int32
  | 0, _, _, _ => none
  | cnt+1, I, v3, v4 =>
    if (8 : Int32) ≤ v4 then
    some v3
    else
    if v3 = (0 : Int32) then
    some v3
    else
    clP (fL_cell N I xs L ((2 : Int32) * v4)) (fun (q_6 : Int32) (I_7 : Mem) =>
    clP (fL_cell N I_7 xs L (((2 : Int32) * v4) + (1 : Int32))) (fun (q_9 : Int32) (I_10 : Mem) =>
    clP (fL_act N I_10 0 q_6 q_9) (fun (q_12 : Int32) (I_13 : Mem) =>
    clP (fL_act N I_13 81 q_6 q_9) (fun (q_15 : Int32) (I_16 : Mem) =>
    if q_12 = q_15 then
    clP (fL_errors N I_16 81) (fun (q_20 : Int32) (I_21 : Mem) =>
    if q_20 = (0 : Int32) then
    letM (v4 + (1 : Int32)) (fun x_24 : Int32 =>
    fL_law_24 N xs L cnt I_21 (0 : Int32) x_24)
    else
    clP (fL_alike N I_21 0 81) (fun (q_25 : Int32) (I_26 : Mem) =>
    if q_25 = (0 : Int32) then
    letM (v4 + (1 : Int32)) (fun x_29 : Int32 =>
    fL_law_24 N xs L cnt I_26 (0 : Int32) x_29)
    else
    clP (fL_ramped N I_26 0 q_9) (fun (q_30 : Int32) (I_31 : Mem) =>
    if q_30 = (0 : Int32) then
    letM (v4 + (1 : Int32)) (fun x_34 : Int32 =>
    fL_law_24 N xs L cnt I_31 (0 : Int32) x_34)
    else
    clP (fL_ahead N I_31 0 q_9) (fun (q_35 : Int32) (I_36 : Mem) =>
    if q_35 = (0 : Int32) then
    letM (v4 + (1 : Int32)) (fun x_39 : Int32 =>
    fL_law_24 N xs L cnt I_36 (0 : Int32) x_39)
    else
    clP (fL_ahead N I_36 81 q_9) (fun (q_40 : Int32) (I_41 : Mem) =>
    if q_40 = (0 : Int32) then
    letM (v4 + (1 : Int32)) (fun x_44 : Int32 =>
    fL_law_24 N xs L cnt I_41 (0 : Int32) x_44)
    else
    clP (fL_moved N I_41 0 q_9) (fun (q_45 : Int32) (I_46 : Mem) =>
    if q_45 = (0 : Int32) then
    letM (v4 + (1 : Int32)) (fun x_49 : Int32 =>
    fL_law_24 N xs L cnt I_46 (0 : Int32) x_49)
    else
    clP (fL_moved N I_46 81 q_9) (fun (q_50 : Int32) (I_51 : Mem) =>
    if q_50 = (0 : Int32) then
    letM (v4 + (1 : Int32)) (fun x_54 : Int32 =>
    fL_law_24 N xs L cnt I_51 (0 : Int32) x_54)
    else
    clP (fL_alike N I_51 0 81) (fun (q_55 : Int32) (I_56 : Mem) =>
    if q_55 = (0 : Int32) then
    letM (v4 + (1 : Int32)) (fun x_59 : Int32 =>
    fL_law_24 N xs L cnt I_56 (0 : Int32) x_59)
    else
    letM (v4 + (1 : Int32)) (fun x_60 : Int32 =>
    fL_law_24 N xs L cnt I_56 (1 : Int32) x_60)))))))))
    else
    letM (v4 + (1 : Int32)) (fun x_19 : Int32 =>
    fL_law_24 N xs L cnt I_16 (0 : Int32) x_19)))))
def fL_law_16 (N : Nat) (xs : Nat → Int32) (L : Nat) (I : Mem) : Option Int32 :=
    clP (fL_errors N I 81) (fun (q_1 : Int32) (I_2 : Mem) =>
    fL_law_24 N xs L N I_2 q_1 (0 : Int32))
set_option maxHeartbeats 8000000 in
set_option maxRecDepth 100000 in
theorem LL_law_24 (hG : Apart g NT) (N : Nat) (X : Cx g p s m #[Value.ref (gB g)] c cL_law RL 7) (hr : meth.sig.returnType = ret) (hlk : meth.locks = false) (hgs : g.1 = s.heap.size) : ∀ (cnt : Nat) (I : Mem) (v3 : Int32) (v4 : Int32), fL_law_24 N (gX g) (gL g) cnt I v3 v4 = some 1 → ∀ (H : Heap) (locs : List Loc) (ls : Array Slot), Wp g I H → va_S (gA g) s.heap H locs → lv_has ls 7 [(0, .ref (gB g)), (1, .ref (ga g 0)), (2, .ref (ga g 81)), (3, .int v3), (4, .int v4)] → W p l e room_1 s m #[Value.ref (gB g)] below meth c H locs 162 3532 (lw_Z below #[Value.ref (gB g)] s) (F0 m 24 ls []) := by
  have hx := X.hx
  have hb := X.hb
  intro cnt
  induction cnt with
  | zero =>
    intro I v3 v4 h
    rw [fL_law_24] at h
    cases h
  | succ cnt ih =>
    intro I v3 v4 h H locs ls hP hS hl
    rw [fL_law_24] at h
    refine lv_iload hx hb dL_law_24 (lv_at hl 4 rfl) ?_
    refine lv_bipush (v := (8 : Int32)) hx hb dL_law_26 (by decide +kernel) ?_
    refine lv_icmp_ge (tgt := 156) hx hb dL_law_28 (by decide) (fun c_4 => ?_) (fun c_4 => ?_)
    · replace h := ifp c_4 h
      refine lv_iload_n hx hb dL_law_156 rfl (lv_at hl 3 rfl) ?_
      have hv1 := Option.some.inj h
      try rw [hv1]
      exact va_forget (fun q hq => by rw [← hgs]; exact hS.2.2 q hq) (W.widen (Nat.le_of_ble_eq_true rfl) (Nat.le_of_ble_eq_true rfl) (lw_ret hx hb hr hlk dL_law_157))
    · replace h := ifn c_4 h
      refine lv_iload_n hx hb dL_law_31 rfl (lv_at hl 3 rfl) ?_
      refine lv_if_eq (tgt := 156) hx hb dL_law_32 (by decide) (fun c_5 => ?_) (fun c_5 => ?_)
      · replace h := ifp c_5 h
        refine lv_iload_n hx hb dL_law_156 rfl (lv_at hl 3 rfl) ?_
        have hv1 := Option.some.inj h
        try rw [hv1]
        exact va_forget (fun q hq => by rw [← hgs]; exact hS.2.2 q hq) (W.widen (Nat.le_of_ble_eq_true rfl) (Nat.le_of_ble_eq_true rfl) (lw_ret hx hb hr hlk dL_law_157))
      · replace h := ifn c_5 h
        refine lv_aload_n hx hb dL_law_35 rfl (lv_at hl 0 rfl) ?_
        refine lv_iconst (v := (2 : Int32)) hx hb dL_law_36 (by decide +kernel) ?_
        refine lv_iload hx hb dL_law_37 (lv_at hl 4 rfl) ?_
        refine lv_imul hx hb dL_law_39 ?_
        obtain ⟨q_6, I_7, hc_8, h⟩ := clP_e h
        refine r_callS (As := [.ref (gB g), .int ((2 : Int32) * v4)]) [] X (ccL_cell l g hG N _ _ _ _ hc_8) cal_L_cell (sc_L_cell) k_176 rfl ⟨rfl, rfl⟩ ⟨Nat.le_of_ble_eq_true rfl, Nat.le_of_ble_eq_true rfl⟩ hP hS hl.1 rfl (Nat.le_of_ble_eq_true rfl) dL_law_40 ⟨Nat.le_of_ble_eq_true rfl, Nat.le_of_ble_eq_true rfl⟩ (fun H locs hP hS => ?_)
        show W p l e room_1 s m #[Value.ref (gB g)] below meth c H locs 162 3532 _ (F0 m 43 ls [.int q_6])
        refine lv_istore (lv' := [(5, .int q_6), (0, .ref (gB g)), (1, .ref (ga g 0)), (2, .ref (ga g 81)), (3, .int v3), (4, .int v4)]) hx hb dL_law_43 hl (by decide) rfl (fun ls hl => ?_)
        refine lv_aload_n hx hb dL_law_45 rfl (lv_at hl 1 rfl) ?_
        refine lv_iconst (v := (2 : Int32)) hx hb dL_law_46 (by decide +kernel) ?_
        refine lv_iload hx hb dL_law_47 (lv_at hl 5 rfl) ?_
        refine lv_imul hx hb dL_law_49 ?_
        refine lv_iconst (v := (1 : Int32)) hx hb dL_law_50 (by decide +kernel) ?_
        refine lv_iadd hx hb dL_law_51 ?_
        obtain ⟨q_9, I_10, hc_11, h⟩ := clP_e h
        refine r_callS (As := [.ref (gB g), .int (((2 : Int32) * v4) + (1 : Int32))]) [] X (ccL_cell l g hG N _ _ _ _ hc_11) cal_L_cell (sc_L_cell) k_176 rfl ⟨rfl, rfl⟩ ⟨Nat.le_of_ble_eq_true rfl, Nat.le_of_ble_eq_true rfl⟩ hP hS hl.1 rfl (Nat.le_of_ble_eq_true rfl) dL_law_52 ⟨Nat.le_of_ble_eq_true rfl, Nat.le_of_ble_eq_true rfl⟩ (fun H locs hP hS => ?_)
        show W p l e room_1 s m #[Value.ref (gB g)] below meth c H locs 162 3532 _ (F0 m 55 ls [.int q_9])
        refine lv_istore (lv' := [(6, .int q_9), (5, .int q_6), (0, .ref (gB g)), (1, .ref (ga g 0)), (2, .ref (ga g 81)), (3, .int v3), (4, .int v4)]) hx hb dL_law_55 hl (by decide) rfl (fun ls hl => ?_)
        refine lv_aload_n hx hb dL_law_57 rfl (lv_at hl 3 rfl) ?_
        refine lv_iload hx hb dL_law_58 (lv_at hl 1 rfl) ?_
        refine lv_iload hx hb dL_law_60 (lv_at hl 0 rfl) ?_
        obtain ⟨q_12, I_13, hc_14, h⟩ := clP_e h
        refine r_callS (As := [.ref (ga g 0), .int q_6, .int q_9]) [] X (ccL_act l g hG N _ _ _ _ tgl_0 _ _ hc_14) cal_L_act (sc_L_act) k_493 rfl ⟨rfl, rfl⟩ ⟨Nat.le_of_ble_eq_true rfl, Nat.le_of_ble_eq_true rfl⟩ hP hS hl.1 rfl (Nat.le_of_ble_eq_true rfl) dL_law_62 ⟨Nat.le_of_ble_eq_true rfl, Nat.le_of_ble_eq_true rfl⟩ (fun H locs hP hS => ?_)
        show W p l e room_1 s m #[Value.ref (gB g)] below meth c H locs 162 3532 _ (F0 m 65 ls [.int q_12])
        refine lv_aload_n hx hb dL_law_65 rfl (lv_at hl 4 rfl) ?_
        refine lv_iload hx hb dL_law_66 (lv_at hl 1 rfl) ?_
        refine lv_iload hx hb dL_law_68 (lv_at hl 0 rfl) ?_
        obtain ⟨q_15, I_16, hc_17, h⟩ := clP_e h
        refine r_callS (As := [.ref (ga g 81), .int q_6, .int q_9]) [.int q_12] X (ccL_act l g hG N _ _ _ _ tgl_81 _ _ hc_17) cal_L_act (sc_L_act) k_493 rfl ⟨rfl, rfl⟩ ⟨Nat.le_of_ble_eq_true rfl, Nat.le_of_ble_eq_true rfl⟩ hP hS hl.1 rfl (Nat.le_of_ble_eq_true rfl) dL_law_70 ⟨Nat.le_of_ble_eq_true rfl, Nat.le_of_ble_eq_true rfl⟩ (fun H locs hP hS => ?_)
        show W p l e room_1 s m #[Value.ref (gB g)] below meth c H locs 162 3532 _ (F0 m 73 ls [.int q_15, .int q_12])
        refine lv_icmp_ne (tgt := 148) hx hb dL_law_73 (by decide) (fun c_18 => ?_) (fun c_18 => ?_)
        · replace h := ifn c_18 h
          refine lv_iconst (v := (0 : Int32)) hx hb dL_law_148 (by decide +kernel) ?_
          refine lv_istore_n (lv' := [(3, .int (0 : Int32)), (6, .int q_9), (5, .int q_6), (0, .ref (gB g)), (1, .ref (ga g 0)), (2, .ref (ga g 81)), (4, .int v4)]) hx hb dL_law_149 rfl hl (by decide) rfl (fun ls hl => ?_)
          obtain ⟨x_19, ex_19, h⟩ := letM_e h
          refine lv_iinc (v := x_19) (lv' := [(4, .int x_19), (3, .int (0 : Int32)), (6, .int q_9), (5, .int q_6), (0, .ref (gB g)), (1, .ref (ga g 0)), (2, .ref (ga g 81))]) hx hb dL_law_150 hl (k := 6) rfl (by rw [ex_19]; rfl) (by decide) rfl (fun ls hl => ?_)
          refine lv_goto (tgt := 24) hx hb dL_law_153 (by decide) ?_
          exact ih I_16 (0 : Int32) x_19 h _ _ _ hP hS (lv_sub hl [4, 5, 6, 1, 0] rfl)
        · replace h := ifp c_18 h
          refine lv_aload_n hx hb dL_law_76 rfl (lv_at hl 4 rfl) ?_
          obtain ⟨q_20, I_21, hc_22, h⟩ := clP_e h
          refine r_callS (As := [.ref (ga g 81)]) [] X (ccL_errors l g hG N _ _ tgl_81 _ _ hc_22) cal_L_errors (sc_L_errors) k_181 rfl ⟨rfl, rfl⟩ ⟨Nat.le_of_ble_eq_true rfl, Nat.le_of_ble_eq_true rfl⟩ hP hS hl.1 rfl (Nat.le_of_ble_eq_true rfl) dL_law_77 ⟨Nat.le_of_ble_eq_true rfl, Nat.le_of_ble_eq_true rfl⟩ (fun H locs hP hS => ?_)
          show W p l e room_1 s m #[Value.ref (gB g)] below meth c H locs 162 3532 _ (F0 m 80 ls [.int q_20])
          refine lv_if_eq (tgt := 148) hx hb dL_law_80 (by decide) (fun c_23 => ?_) (fun c_23 => ?_)
          · replace h := ifp c_23 h
            refine lv_iconst (v := (0 : Int32)) hx hb dL_law_148 (by decide +kernel) ?_
            refine lv_istore_n (lv' := [(3, .int (0 : Int32)), (6, .int q_9), (5, .int q_6), (0, .ref (gB g)), (1, .ref (ga g 0)), (2, .ref (ga g 81)), (4, .int v4)]) hx hb dL_law_149 rfl hl (by decide) rfl (fun ls hl => ?_)
            obtain ⟨x_24, ex_24, h⟩ := letM_e h
            refine lv_iinc (v := x_24) (lv' := [(4, .int x_24), (3, .int (0 : Int32)), (6, .int q_9), (5, .int q_6), (0, .ref (gB g)), (1, .ref (ga g 0)), (2, .ref (ga g 81))]) hx hb dL_law_150 hl (k := 6) rfl (by rw [ex_24]; rfl) (by decide) rfl (fun ls hl => ?_)
            refine lv_goto (tgt := 24) hx hb dL_law_153 (by decide) ?_
            exact ih I_21 (0 : Int32) x_24 h _ _ _ hP hS (lv_sub hl [4, 5, 6, 1, 0] rfl)
          · replace h := ifn c_23 h
            refine lv_aload_n hx hb dL_law_83 rfl (lv_at hl 3 rfl) ?_
            refine lv_aload_n hx hb dL_law_84 rfl (lv_at hl 4 rfl) ?_
            obtain ⟨q_25, I_26, hc_27, h⟩ := clP_e h
            refine r_callS (As := [.ref (ga g 0), .ref (ga g 81)]) [] X (ccL_alike l g hG N _ _ _ tgl_0 tgl_81 _ _ hc_27) cal_L_alike (sc_L_alike) k_599 rfl ⟨rfl, rfl⟩ ⟨Nat.le_of_ble_eq_true rfl, Nat.le_of_ble_eq_true rfl⟩ hP hS hl.1 rfl (Nat.le_of_ble_eq_true rfl) dL_law_85 ⟨Nat.le_of_ble_eq_true rfl, Nat.le_of_ble_eq_true rfl⟩ (fun H locs hP hS => ?_)
            show W p l e room_1 s m #[Value.ref (gB g)] below meth c H locs 162 3532 _ (F0 m 88 ls [.int q_25])
            refine lv_if_eq (tgt := 148) hx hb dL_law_88 (by decide) (fun c_28 => ?_) (fun c_28 => ?_)
            · replace h := ifp c_28 h
              refine lv_iconst (v := (0 : Int32)) hx hb dL_law_148 (by decide +kernel) ?_
              refine lv_istore_n (lv' := [(3, .int (0 : Int32)), (6, .int q_9), (5, .int q_6), (0, .ref (gB g)), (1, .ref (ga g 0)), (2, .ref (ga g 81)), (4, .int v4)]) hx hb dL_law_149 rfl hl (by decide) rfl (fun ls hl => ?_)
              obtain ⟨x_29, ex_29, h⟩ := letM_e h
              refine lv_iinc (v := x_29) (lv' := [(4, .int x_29), (3, .int (0 : Int32)), (6, .int q_9), (5, .int q_6), (0, .ref (gB g)), (1, .ref (ga g 0)), (2, .ref (ga g 81))]) hx hb dL_law_150 hl (k := 6) rfl (by rw [ex_29]; rfl) (by decide) rfl (fun ls hl => ?_)
              refine lv_goto (tgt := 24) hx hb dL_law_153 (by decide) ?_
              exact ih I_26 (0 : Int32) x_29 h _ _ _ hP hS (lv_sub hl [4, 5, 6, 1, 0] rfl)
            · replace h := ifn c_28 h
              refine lv_aload_n hx hb dL_law_91 rfl (lv_at hl 3 rfl) ?_
              refine lv_iload hx hb dL_law_92 (lv_at hl 0 rfl) ?_
              obtain ⟨q_30, I_31, hc_32, h⟩ := clP_e h
              refine r_callS (As := [.ref (ga g 0), .int q_9]) [] X (ccL_ramped l g hG N _ _ _ tgl_0 _ _ hc_32) cal_L_ramped (sc_L_ramped) k_622 rfl ⟨rfl, rfl⟩ ⟨Nat.le_of_ble_eq_true rfl, Nat.le_of_ble_eq_true rfl⟩ hP hS hl.1 rfl (Nat.le_of_ble_eq_true rfl) dL_law_94 ⟨Nat.le_of_ble_eq_true rfl, Nat.le_of_ble_eq_true rfl⟩ (fun H locs hP hS => ?_)
              show W p l e room_1 s m #[Value.ref (gB g)] below meth c H locs 162 3532 _ (F0 m 97 ls [.int q_30])
              refine lv_if_eq (tgt := 148) hx hb dL_law_97 (by decide) (fun c_33 => ?_) (fun c_33 => ?_)
              · replace h := ifp c_33 h
                refine lv_iconst (v := (0 : Int32)) hx hb dL_law_148 (by decide +kernel) ?_
                refine lv_istore_n (lv' := [(3, .int (0 : Int32)), (6, .int q_9), (5, .int q_6), (0, .ref (gB g)), (1, .ref (ga g 0)), (2, .ref (ga g 81)), (4, .int v4)]) hx hb dL_law_149 rfl hl (by decide) rfl (fun ls hl => ?_)
                obtain ⟨x_34, ex_34, h⟩ := letM_e h
                refine lv_iinc (v := x_34) (lv' := [(4, .int x_34), (3, .int (0 : Int32)), (6, .int q_9), (5, .int q_6), (0, .ref (gB g)), (1, .ref (ga g 0)), (2, .ref (ga g 81))]) hx hb dL_law_150 hl (k := 6) rfl (by rw [ex_34]; rfl) (by decide) rfl (fun ls hl => ?_)
                refine lv_goto (tgt := 24) hx hb dL_law_153 (by decide) ?_
                exact ih I_31 (0 : Int32) x_34 h _ _ _ hP hS (lv_sub hl [4, 5, 6, 1, 0] rfl)
              · replace h := ifn c_33 h
                refine lv_aload_n hx hb dL_law_100 rfl (lv_at hl 3 rfl) ?_
                refine lv_iload hx hb dL_law_101 (lv_at hl 0 rfl) ?_
                obtain ⟨q_35, I_36, hc_37, h⟩ := clP_e h
                refine r_callS (As := [.ref (ga g 0), .int q_9]) [] X (ccL_ahead l g hG N _ _ _ tgl_0 _ _ hc_37) cal_L_ahead (sc_L_ahead) k_625 rfl ⟨rfl, rfl⟩ ⟨Nat.le_of_ble_eq_true rfl, Nat.le_of_ble_eq_true rfl⟩ hP hS hl.1 rfl (Nat.le_of_ble_eq_true rfl) dL_law_103 ⟨Nat.le_of_ble_eq_true rfl, Nat.le_of_ble_eq_true rfl⟩ (fun H locs hP hS => ?_)
                show W p l e room_1 s m #[Value.ref (gB g)] below meth c H locs 162 3532 _ (F0 m 106 ls [.int q_35])
                refine lv_if_eq (tgt := 148) hx hb dL_law_106 (by decide) (fun c_38 => ?_) (fun c_38 => ?_)
                · replace h := ifp c_38 h
                  refine lv_iconst (v := (0 : Int32)) hx hb dL_law_148 (by decide +kernel) ?_
                  refine lv_istore_n (lv' := [(3, .int (0 : Int32)), (6, .int q_9), (5, .int q_6), (0, .ref (gB g)), (1, .ref (ga g 0)), (2, .ref (ga g 81)), (4, .int v4)]) hx hb dL_law_149 rfl hl (by decide) rfl (fun ls hl => ?_)
                  obtain ⟨x_39, ex_39, h⟩ := letM_e h
                  refine lv_iinc (v := x_39) (lv' := [(4, .int x_39), (3, .int (0 : Int32)), (6, .int q_9), (5, .int q_6), (0, .ref (gB g)), (1, .ref (ga g 0)), (2, .ref (ga g 81))]) hx hb dL_law_150 hl (k := 6) rfl (by rw [ex_39]; rfl) (by decide) rfl (fun ls hl => ?_)
                  refine lv_goto (tgt := 24) hx hb dL_law_153 (by decide) ?_
                  exact ih I_36 (0 : Int32) x_39 h _ _ _ hP hS (lv_sub hl [4, 5, 6, 1, 0] rfl)
                · replace h := ifn c_38 h
                  refine lv_aload_n hx hb dL_law_109 rfl (lv_at hl 4 rfl) ?_
                  refine lv_iload hx hb dL_law_110 (lv_at hl 0 rfl) ?_
                  obtain ⟨q_40, I_41, hc_42, h⟩ := clP_e h
                  refine r_callS (As := [.ref (ga g 81), .int q_9]) [] X (ccL_ahead l g hG N _ _ _ tgl_81 _ _ hc_42) cal_L_ahead (sc_L_ahead) k_625 rfl ⟨rfl, rfl⟩ ⟨Nat.le_of_ble_eq_true rfl, Nat.le_of_ble_eq_true rfl⟩ hP hS hl.1 rfl (Nat.le_of_ble_eq_true rfl) dL_law_112 ⟨Nat.le_of_ble_eq_true rfl, Nat.le_of_ble_eq_true rfl⟩ (fun H locs hP hS => ?_)
                  show W p l e room_1 s m #[Value.ref (gB g)] below meth c H locs 162 3532 _ (F0 m 115 ls [.int q_40])
                  refine lv_if_eq (tgt := 148) hx hb dL_law_115 (by decide) (fun c_43 => ?_) (fun c_43 => ?_)
                  · replace h := ifp c_43 h
                    refine lv_iconst (v := (0 : Int32)) hx hb dL_law_148 (by decide +kernel) ?_
                    refine lv_istore_n (lv' := [(3, .int (0 : Int32)), (6, .int q_9), (5, .int q_6), (0, .ref (gB g)), (1, .ref (ga g 0)), (2, .ref (ga g 81)), (4, .int v4)]) hx hb dL_law_149 rfl hl (by decide) rfl (fun ls hl => ?_)
                    obtain ⟨x_44, ex_44, h⟩ := letM_e h
                    refine lv_iinc (v := x_44) (lv' := [(4, .int x_44), (3, .int (0 : Int32)), (6, .int q_9), (5, .int q_6), (0, .ref (gB g)), (1, .ref (ga g 0)), (2, .ref (ga g 81))]) hx hb dL_law_150 hl (k := 6) rfl (by rw [ex_44]; rfl) (by decide) rfl (fun ls hl => ?_)
                    refine lv_goto (tgt := 24) hx hb dL_law_153 (by decide) ?_
                    exact ih I_41 (0 : Int32) x_44 h _ _ _ hP hS (lv_sub hl [4, 5, 6, 1, 0] rfl)
                  · replace h := ifn c_43 h
                    refine lv_aload_n hx hb dL_law_118 rfl (lv_at hl 3 rfl) ?_
                    refine lv_iload hx hb dL_law_119 (lv_at hl 0 rfl) ?_
                    obtain ⟨q_45, I_46, hc_47, h⟩ := clP_e h
                    refine r_callS (As := [.ref (ga g 0), .int q_9]) [] X (ccL_moved l g hG N _ _ _ tgl_0 _ _ hc_47) cal_L_moved (sc_L_moved) k_631 rfl ⟨rfl, rfl⟩ ⟨Nat.le_of_ble_eq_true rfl, Nat.le_of_ble_eq_true rfl⟩ hP hS hl.1 rfl (Nat.le_of_ble_eq_true rfl) dL_law_121 ⟨Nat.le_of_ble_eq_true rfl, Nat.le_of_ble_eq_true rfl⟩ (fun H locs hP hS => ?_)
                    show W p l e room_1 s m #[Value.ref (gB g)] below meth c H locs 162 3532 _ (F0 m 124 ls [.int q_45])
                    refine lv_if_eq (tgt := 148) hx hb dL_law_124 (by decide) (fun c_48 => ?_) (fun c_48 => ?_)
                    · replace h := ifp c_48 h
                      refine lv_iconst (v := (0 : Int32)) hx hb dL_law_148 (by decide +kernel) ?_
                      refine lv_istore_n (lv' := [(3, .int (0 : Int32)), (6, .int q_9), (5, .int q_6), (0, .ref (gB g)), (1, .ref (ga g 0)), (2, .ref (ga g 81)), (4, .int v4)]) hx hb dL_law_149 rfl hl (by decide) rfl (fun ls hl => ?_)
                      obtain ⟨x_49, ex_49, h⟩ := letM_e h
                      refine lv_iinc (v := x_49) (lv' := [(4, .int x_49), (3, .int (0 : Int32)), (6, .int q_9), (5, .int q_6), (0, .ref (gB g)), (1, .ref (ga g 0)), (2, .ref (ga g 81))]) hx hb dL_law_150 hl (k := 6) rfl (by rw [ex_49]; rfl) (by decide) rfl (fun ls hl => ?_)
                      refine lv_goto (tgt := 24) hx hb dL_law_153 (by decide) ?_
                      exact ih I_46 (0 : Int32) x_49 h _ _ _ hP hS (lv_sub hl [4, 5, 6, 1, 0] rfl)
                    · replace h := ifn c_48 h
                      refine lv_aload_n hx hb dL_law_127 rfl (lv_at hl 4 rfl) ?_
                      refine lv_iload hx hb dL_law_128 (lv_at hl 0 rfl) ?_
                      obtain ⟨q_50, I_51, hc_52, h⟩ := clP_e h
                      refine r_callS (As := [.ref (ga g 81), .int q_9]) [] X (ccL_moved l g hG N _ _ _ tgl_81 _ _ hc_52) cal_L_moved (sc_L_moved) k_631 rfl ⟨rfl, rfl⟩ ⟨Nat.le_of_ble_eq_true rfl, Nat.le_of_ble_eq_true rfl⟩ hP hS hl.1 rfl (Nat.le_of_ble_eq_true rfl) dL_law_130 ⟨Nat.le_of_ble_eq_true rfl, Nat.le_of_ble_eq_true rfl⟩ (fun H locs hP hS => ?_)
                      show W p l e room_1 s m #[Value.ref (gB g)] below meth c H locs 162 3532 _ (F0 m 133 ls [.int q_50])
                      refine lv_if_eq (tgt := 148) hx hb dL_law_133 (by decide) (fun c_53 => ?_) (fun c_53 => ?_)
                      · replace h := ifp c_53 h
                        refine lv_iconst (v := (0 : Int32)) hx hb dL_law_148 (by decide +kernel) ?_
                        refine lv_istore_n (lv' := [(3, .int (0 : Int32)), (6, .int q_9), (5, .int q_6), (0, .ref (gB g)), (1, .ref (ga g 0)), (2, .ref (ga g 81)), (4, .int v4)]) hx hb dL_law_149 rfl hl (by decide) rfl (fun ls hl => ?_)
                        obtain ⟨x_54, ex_54, h⟩ := letM_e h
                        refine lv_iinc (v := x_54) (lv' := [(4, .int x_54), (3, .int (0 : Int32)), (6, .int q_9), (5, .int q_6), (0, .ref (gB g)), (1, .ref (ga g 0)), (2, .ref (ga g 81))]) hx hb dL_law_150 hl (k := 6) rfl (by rw [ex_54]; rfl) (by decide) rfl (fun ls hl => ?_)
                        refine lv_goto (tgt := 24) hx hb dL_law_153 (by decide) ?_
                        exact ih I_51 (0 : Int32) x_54 h _ _ _ hP hS (lv_sub hl [4, 5, 6, 1, 0] rfl)
                      · replace h := ifn c_53 h
                        refine lv_aload_n hx hb dL_law_136 rfl (lv_at hl 3 rfl) ?_
                        refine lv_aload_n hx hb dL_law_137 rfl (lv_at hl 4 rfl) ?_
                        obtain ⟨q_55, I_56, hc_57, h⟩ := clP_e h
                        refine r_callS (As := [.ref (ga g 0), .ref (ga g 81)]) [] X (ccL_alike l g hG N _ _ _ tgl_0 tgl_81 _ _ hc_57) cal_L_alike (sc_L_alike) k_599 rfl ⟨rfl, rfl⟩ ⟨Nat.le_of_ble_eq_true rfl, Nat.le_of_ble_eq_true rfl⟩ hP hS hl.1 rfl (Nat.le_of_ble_eq_true rfl) dL_law_138 ⟨Nat.le_of_ble_eq_true rfl, Nat.le_of_ble_eq_true rfl⟩ (fun H locs hP hS => ?_)
                        show W p l e room_1 s m #[Value.ref (gB g)] below meth c H locs 162 3532 _ (F0 m 141 ls [.int q_55])
                        refine lv_if_eq (tgt := 148) hx hb dL_law_141 (by decide) (fun c_58 => ?_) (fun c_58 => ?_)
                        · replace h := ifp c_58 h
                          refine lv_iconst (v := (0 : Int32)) hx hb dL_law_148 (by decide +kernel) ?_
                          refine lv_istore_n (lv' := [(3, .int (0 : Int32)), (6, .int q_9), (5, .int q_6), (0, .ref (gB g)), (1, .ref (ga g 0)), (2, .ref (ga g 81)), (4, .int v4)]) hx hb dL_law_149 rfl hl (by decide) rfl (fun ls hl => ?_)
                          obtain ⟨x_59, ex_59, h⟩ := letM_e h
                          refine lv_iinc (v := x_59) (lv' := [(4, .int x_59), (3, .int (0 : Int32)), (6, .int q_9), (5, .int q_6), (0, .ref (gB g)), (1, .ref (ga g 0)), (2, .ref (ga g 81))]) hx hb dL_law_150 hl (k := 6) rfl (by rw [ex_59]; rfl) (by decide) rfl (fun ls hl => ?_)
                          refine lv_goto (tgt := 24) hx hb dL_law_153 (by decide) ?_
                          exact ih I_56 (0 : Int32) x_59 h _ _ _ hP hS (lv_sub hl [4, 5, 6, 1, 0] rfl)
                        · replace h := ifn c_58 h
                          refine lv_iconst (v := (1 : Int32)) hx hb dL_law_144 (by decide +kernel) ?_
                          refine lv_goto (tgt := 149) hx hb dL_law_145 (by decide) ?_
                          refine lv_istore_n (lv' := [(3, .int (1 : Int32)), (6, .int q_9), (5, .int q_6), (0, .ref (gB g)), (1, .ref (ga g 0)), (2, .ref (ga g 81)), (4, .int v4)]) hx hb dL_law_149 rfl hl (by decide) rfl (fun ls hl => ?_)
                          obtain ⟨x_60, ex_60, h⟩ := letM_e h
                          refine lv_iinc (v := x_60) (lv' := [(4, .int x_60), (3, .int (1 : Int32)), (6, .int q_9), (5, .int q_6), (0, .ref (gB g)), (1, .ref (ga g 0)), (2, .ref (ga g 81))]) hx hb dL_law_150 hl (k := 6) rfl (by rw [ex_60]; rfl) (by decide) rfl (fun ls hl => ?_)
                          refine lv_goto (tgt := 24) hx hb dL_law_153 (by decide) ?_
                          exact ih I_56 (1 : Int32) x_60 h _ _ _ hP hS (lv_sub hl [4, 5, 6, 1, 0] rfl)
set_option maxHeartbeats 8000000 in
set_option maxRecDepth 100000 in
theorem LL_law_16 (hG : Apart g NT) (N : Nat) (X : Cx g p s m #[Value.ref (gB g)] c cL_law RL 7) (hr : meth.sig.returnType = ret) (hlk : meth.locks = false) (hgs : g.1 = s.heap.size) : ∀ (I : Mem), fL_law_16 N (gX g) (gL g) I = some 1 → ∀ (H : Heap) (locs : List Loc) (ls : Array Slot), Wp g I H → va_S (gA g) s.heap H locs → lv_has ls 7 [(0, .ref (gB g)), (1, .ref (ga g 0)), (2, .ref (ga g 81))] → W p l e room_1 s m #[Value.ref (gB g)] below meth c H locs 162 3532 (lw_Z below #[Value.ref (gB g)] s) (F0 m 16 ls []) := by
  have hx := X.hx
  have hb := X.hb
  intro I h H locs ls hP hS hl
  unfold fL_law_16 at h
  refine lv_aload_n hx hb dL_law_16 rfl (lv_at hl 2 rfl) ?_
  obtain ⟨q_1, I_2, hc_3, h⟩ := clP_e h
  refine r_callS (As := [.ref (ga g 81)]) [] X (ccL_errors l g hG N _ _ tgl_81 _ _ hc_3) cal_L_errors (sc_L_errors) k_181 rfl ⟨rfl, rfl⟩ ⟨Nat.le_of_ble_eq_true rfl, Nat.le_of_ble_eq_true rfl⟩ hP hS hl.1 rfl (Nat.le_of_ble_eq_true rfl) dL_law_17 ⟨Nat.le_of_ble_eq_true rfl, Nat.le_of_ble_eq_true rfl⟩ (fun H locs hP hS => ?_)
  show W p l e room_1 s m #[Value.ref (gB g)] below meth c H locs 162 3532 _ (F0 m 20 ls [.int q_1])
  refine lv_istore_n (lv' := [(3, .int q_1), (0, .ref (gB g)), (1, .ref (ga g 0)), (2, .ref (ga g 81))]) hx hb dL_law_20 rfl hl (by decide) rfl (fun ls hl => ?_)
  refine lv_iconst (v := (0 : Int32)) hx hb dL_law_21 (by decide +kernel) ?_
  refine lv_istore (lv' := [(4, .int (0 : Int32)), (3, .int q_1), (0, .ref (gB g)), (1, .ref (ga g 0)), (2, .ref (ga g 81))]) hx hb dL_law_22 hl (by decide) rfl (fun ls hl => ?_)
  exact LL_law_24 hG N X hr hlk hgs N I_2 q_1 (0 : Int32) h _ _ _ hP hS (lv_sub hl [2, 3, 4, 1, 0] rfl)
end LAWWALK
