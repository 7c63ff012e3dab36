-- ===== end of PART A; then your names; then what follows =====
/-! THE CLAIM OUT OF ONE WALK OF THE LAW'S BODY. Your part is whole_start (and what it stands on); all else here is the same for every law, but numbers. -/
def R_law : String := "StepperPlannerLaw"
def lw_P (b : Addr) (xs : List Int32) (args : Array Value) (s : State) : Prop := args = #[.ref b] ∧ s.IntsAt b xs ∧ xs.length ≤ 2048 ∧ (Jvm.Cond.and given_1 narrow_1).before args s = true
def lw_Q (_ : Array Value) (s : State) (o : Outcome) (t : State) : Prop := o = .returned (some (.int 1)) ∧ Framed s o t [] 600000 7302250
def lw_Z (below : List Frame) (a : Array Value) (s : State) : State → Prop := fun t => ∃ o, t.status = .running ∧ Ended t below o ∧ lw_Q a s o t
/-- the law's own end, with 1 on the stack, nothing written that was there before, its room as the claim has it -/
theorem lw_ret {p : Program} {l : Launch} {e : Env} {s : State} {m : MethodId} {below : List Frame} {meth : Method} {c : Code} {b : Nat} (hx : p.tables.exec = Jvm.exec) (hb : c.code = code) (hr : meth.sig.returnType = ret) (hlocks : meth.locks = false) {pc : Nat} {H : Heap} {ls : Array Slot} (hdg : decode code pc = .ok (.ireturn, 1)) : W p l e room_1 s m #[Value.ref b] below meth c H [] 600000 7302250 (lw_Z below #[Value.ref b] s) (F0 m pc ls [.int 1]) := by
  intro T hT X
  obtain ⟨fs, hret, hrun, hended, hW, hframe⟩ := X.leave (v := some (.int 1)) (hlocks := hlocks) (fun h => by rw [hr] at h; cases h)
  have hmeth' : T.vm.method? m = some meth := X.method'
  refine ⟨T.setFrames fs, ?_, .returned (some (.int 1)), hrun, hended, rfl, ⟨_, rfl⟩, hW, hframe⟩
  jvm_step X.here [X.here.top, hx, hb, hdg, hmeth', hr, ret, narrow_b1]
  (try refine ⟨rfl, ?_⟩); (try refine ⟨rfl, ?_⟩)
  first | (intro acts; rw [hret _ acts rfl rfl rfl]) | rw [hret _ _ rfl rfl rfl]
  exact Steps.refl _
/-- what holds at the law's entry: the machine, the code, the tables' words (any of lw_tbl by 'hts w (by decide +kernel)'), the script of L ints xs at the cell b, what the Statement gives of the start (any of its parts by flat_of_before) -/
def lw_At (p : Program) (s : State) (m : MethodId) (meth : Method) (c : Code) (b L : Nat) (xs : Nat → Int32) : Prop :=
  p.tables.exec = Jvm.exec ∧ c.code = code ∧ meth.sig.returnType = ret ∧ c.maxLocals = 4 ∧ s.vm.findClass R_law = some m.cls ∧ (∀ w ∈ lw_tbl, w.before #[Value.ref b] s = true) ∧ va_X b L xs s s.heap ∧ b < s.heap.size ∧ meth.locks = false ∧ (Jvm.Cond.and given_1 narrow_1).before #[Value.ref b] s = true
section LAWWALK
variable {p : Program} {l : Launch} {e : Env} {s : State} {m : MethodId} {below : List Frame} {meth : Method} {c : Code} {g : GG}
theorem tgl_0 : tag 0 = 5 := rfl
theorem tgl_81 : tag 81 = 6 := rfl
def fL_law_18 (N : Nat) (xs : Nat → Int32) (L : Nat) : Nat → Mem → Int32 → Option Int32
  | 0, _, _ => none
  | cnt+1, I, v3 =>
    if ((Int32.ofNat L) - (4 : Int32)) < v3 then
    some (1 : Int32)
    else
    if (v3 < (0 : Int32) ∨ L ≤ v3.toNatClampNeg) then none else
    letM ((xs v3.toNatClampNeg) &&& (31 : Int32)) (fun x_3 : Int32 =>
    if x_3 = nI 0 then
    if ((v3 + (1 : Int32)) < (0 : Int32) ∨ L ≤ (v3 + (1 : Int32)).toNatClampNeg) then none else
    clP (f6_append N I 0 (xs (v3 + (1 : Int32)).toNatClampNeg)) (fun (q_6 : Int32) (I_7 : Mem) =>
    if ((v3 + (1 : Int32)) < (0 : Int32) ∨ L ≤ (v3 + (1 : Int32)).toNatClampNeg) then none else
    clP (f7_append N I_7 81 (xs (v3 + (1 : Int32)).toNatClampNeg)) (fun (q_10 : Int32) (I_11 : Mem) =>
    if q_6 = q_10 then
    letM (v3 + (4 : Int32)) (fun x_14 : Int32 =>
    fL_law_18 N xs L cnt I_11 x_14)
    else
    some (0 : Int32)))
    else
    if x_3 = nI 1 then
    clP (f6_clearText N I 0) (fun (q_16 : Int32) (I_17 : Mem) =>
    clP (f7_clearText N I_17 81) (fun (q_19 : Int32) (I_20 : Mem) =>
    if q_16 = q_19 then
    letM (v3 + (4 : Int32)) (fun x_23 : Int32 =>
    fL_law_18 N xs L cnt I_20 x_23)
    else
    some (0 : Int32)))
    else
    if x_3 = nI 2 then
    clP (f6_errorPosition N I 0) (fun (q_25 : Int32) (I_26 : Mem) =>
    clP (f7_errorPosition N I_26 81) (fun (q_28 : Int32) (I_29 : Mem) =>
    if q_25 = q_28 then
    letM (v3 + (4 : Int32)) (fun x_32 : Int32 =>
    fL_law_18 N xs L cnt I_29 x_32)
    else
    some (0 : Int32)))
    else
    if x_3 = nI 3 then
    clP (f6_load N I 0) (fun (q_34 : Int32) (I_35 : Mem) =>
    clP (f7_load N I_35 81) (fun (q_37 : Int32) (I_38 : Mem) =>
    if q_34 = q_37 then
    letM (v3 + (4 : Int32)) (fun x_41 : Int32 =>
    fL_law_18 N xs L cnt I_38 x_41)
    else
    some (0 : Int32)))
    else
    if x_3 = nI 4 then
    if ((v3 + (1 : Int32)) < (0 : Int32) ∨ L ≤ (v3 + (1 : Int32)).toNatClampNeg) then none else
    clP (f6_position N I 0 (xs (v3 + (1 : Int32)).toNatClampNeg)) (fun (q_44 : Int32) (I_45 : Mem) =>
    if ((v3 + (1 : Int32)) < (0 : Int32) ∨ L ≤ (v3 + (1 : Int32)).toNatClampNeg) then none else
    clP (f7_position N I_45 81 (xs (v3 + (1 : Int32)).toNatClampNeg)) (fun (q_48 : Int32) (I_49 : Mem) =>
    if q_44 = q_48 then
    letM (v3 + (4 : Int32)) (fun x_52 : Int32 =>
    fL_law_18 N xs L cnt I_49 x_52)
    else
    some (0 : Int32)))
    else
    if x_3 = nI 5 then
    clP (f6_clock N I 0) (fun (q_54 : Int32) (I_55 : Mem) =>
    clP (f7_clock N I_55 81) (fun (q_57 : Int32) (I_58 : Mem) =>
    if q_54 = q_57 then
    letM (v3 + (4 : Int32)) (fun x_61 : Int32 =>
    fL_law_18 N xs L cnt I_58 x_61)
    else
    some (0 : Int32)))
    else
    if x_3 = nI 6 then
    clP (f6_queueLength N I 0) (fun (q_63 : Int32) (I_64 : Mem) =>
    clP (f7_queueLength N I_64 81) (fun (q_66 : Int32) (I_67 : Mem) =>
    if q_63 = q_66 then
    letM (v3 + (4 : Int32)) (fun x_70 : Int32 =>
    fL_law_18 N xs L cnt I_67 x_70)
    else
    some (0 : Int32)))
    else
    if x_3 = nI 7 then
    if ((v3 + (1 : Int32)) < (0 : Int32) ∨ L ≤ (v3 + (1 : Int32)).toNatClampNeg) then none else
    clP (f6_itemAt N I 0 (xs (v3 + (1 : Int32)).toNatClampNeg)) (fun (q_73 : Int32) (I_74 : Mem) =>
    if ((v3 + (1 : Int32)) < (0 : Int32) ∨ L ≤ (v3 + (1 : Int32)).toNatClampNeg) then none else
    clP (f7_itemAt N I_74 81 (xs (v3 + (1 : Int32)).toNatClampNeg)) (fun (q_77 : Int32) (I_78 : Mem) =>
    if q_73 = q_77 then
    letM (v3 + (4 : Int32)) (fun x_81 : Int32 =>
    fL_law_18 N xs L cnt I_78 x_81)
    else
    some (0 : Int32)))
    else
    if x_3 = nI 8 then
    clP (f6_rampIndex N I 0) (fun (q_83 : Int32) (I_84 : Mem) =>
    clP (f7_rampIndex N I_84 81) (fun (q_86 : Int32) (I_87 : Mem) =>
    if q_83 = q_86 then
    letM (v3 + (4 : Int32)) (fun x_90 : Int32 =>
    fL_law_18 N xs L cnt I_87 x_90)
    else
    some (0 : Int32)))
    else
    if x_3 = nI 9 then
    clP (f6_topIndex N I 0) (fun (q_92 : Int32) (I_93 : Mem) =>
    clP (f7_topIndex N I_93 81) (fun (q_95 : Int32) (I_96 : Mem) =>
    if q_92 = q_95 then
    letM (v3 + (4 : Int32)) (fun x_99 : Int32 =>
    fL_law_18 N xs L cnt I_96 x_99)
    else
    some (0 : Int32)))
    else
    if x_3 = nI 10 then
    if ((v3 + (1 : Int32)) < (0 : Int32) ∨ L ≤ (v3 + (1 : Int32)).toNatClampNeg) then none else
    clP (f6_interval N I 0 (xs (v3 + (1 : Int32)).toNatClampNeg)) (fun (q_102 : Int32) (I_103 : Mem) =>
    if ((v3 + (1 : Int32)) < (0 : Int32) ∨ L ≤ (v3 + (1 : Int32)).toNatClampNeg) then none else
    clP (f7_interval N I_103 81 (xs (v3 + (1 : Int32)).toNatClampNeg)) (fun (q_106 : Int32) (I_107 : Mem) =>
    if q_102 = q_106 then
    letM (v3 + (4 : Int32)) (fun x_110 : Int32 =>
    fL_law_18 N xs L cnt I_107 x_110)
    else
    some (0 : Int32)))
    else
    if x_3 = nI 11 then
    if ((v3 + (1 : Int32)) < (0 : Int32) ∨ L ≤ (v3 + (1 : Int32)).toNatClampNeg) then none else
    clP (f6_approximateInterval N I 0 (xs (v3 + (1 : Int32)).toNatClampNeg)) (fun (q_113 : Int32) (I_114 : Mem) =>
    if ((v3 + (1 : Int32)) < (0 : Int32) ∨ L ≤ (v3 + (1 : Int32)).toNatClampNeg) then none else
    clP (f7_approximateInterval N I_114 81 (xs (v3 + (1 : Int32)).toNatClampNeg)) (fun (q_117 : Int32) (I_118 : Mem) =>
    if q_113 = q_117 then
    letM (v3 + (4 : Int32)) (fun x_121 : Int32 =>
    fL_law_18 N xs L cnt I_118 x_121)
    else
    some (0 : Int32)))
    else
    if x_3 = nI 12 then
    if ((v3 + (1 : Int32)) < (0 : Int32) ∨ L ≤ (v3 + (1 : Int32)).toNatClampNeg) then none else
    clP (f6_setAcceleration N I 0 (xs (v3 + (1 : Int32)).toNatClampNeg)) (fun (q_124 : Int32) (I_125 : Mem) =>
    if ((v3 + (1 : Int32)) < (0 : Int32) ∨ L ≤ (v3 + (1 : Int32)).toNatClampNeg) then none else
    clP (f7_setAcceleration N I_125 81 (xs (v3 + (1 : Int32)).toNatClampNeg)) (fun (q_128 : Int32) (I_129 : Mem) =>
    if q_124 = q_128 then
    letM (v3 + (4 : Int32)) (fun x_132 : Int32 =>
    fL_law_18 N xs L cnt I_129 x_132)
    else
    some (0 : Int32)))
    else
    if x_3 = nI 13 then
    if ((v3 + (1 : Int32)) < (0 : Int32) ∨ L ≤ (v3 + (1 : Int32)).toNatClampNeg) then none else
    clP (f6_setSpeedLimit N I 0 (xs (v3 + (1 : Int32)).toNatClampNeg)) (fun (q_135 : Int32) (I_136 : Mem) =>
    if ((v3 + (1 : Int32)) < (0 : Int32) ∨ L ≤ (v3 + (1 : Int32)).toNatClampNeg) then none else
    clP (f7_setSpeedLimit N I_136 81 (xs (v3 + (1 : Int32)).toNatClampNeg)) (fun (q_139 : Int32) (I_140 : Mem) =>
    if q_135 = q_139 then
    letM (v3 + (4 : Int32)) (fun x_143 : Int32 =>
    fL_law_18 N xs L cnt I_140 x_143)
    else
    some (0 : Int32)))
    else
    if x_3 = nI 14 then
    if ((v3 + (1 : Int32)) < (0 : Int32) ∨ L ≤ (v3 + (1 : Int32)).toNatClampNeg) then none else
    if ((v3 + (2 : Int32)) < (0 : Int32) ∨ L ≤ (v3 + (2 : Int32)).toNatClampNeg) then none else
    clP (f6_addMove N I 0 (xs (v3 + (1 : Int32)).toNatClampNeg) (xs (v3 + (2 : Int32)).toNatClampNeg)) (fun (q_147 : Int32) (I_148 : Mem) =>
    if ((v3 + (1 : Int32)) < (0 : Int32) ∨ L ≤ (v3 + (1 : Int32)).toNatClampNeg) then none else
    if ((v3 + (2 : Int32)) < (0 : Int32) ∨ L ≤ (v3 + (2 : Int32)).toNatClampNeg) then none else
    clP (f7_addMove N I_148 81 (xs (v3 + (1 : Int32)).toNatClampNeg) (xs (v3 + (2 : Int32)).toNatClampNeg)) (fun (q_152 : Int32) (I_153 : Mem) =>
    if q_147 = q_152 then
    letM (v3 + (4 : Int32)) (fun x_156 : Int32 =>
    fL_law_18 N xs L cnt I_153 x_156)
    else
    some (0 : Int32)))
    else
    if x_3 = nI 15 then
    if ((v3 + (1 : Int32)) < (0 : Int32) ∨ L ≤ (v3 + (1 : Int32)).toNatClampNeg) then none else
    clP (f6_addWait N I 0 (xs (v3 + (1 : Int32)).toNatClampNeg)) (fun (q_159 : Int32) (I_160 : Mem) =>
    if ((v3 + (1 : Int32)) < (0 : Int32) ∨ L ≤ (v3 + (1 : Int32)).toNatClampNeg) then none else
    clP (f7_addWait N I_160 81 (xs (v3 + (1 : Int32)).toNatClampNeg)) (fun (q_163 : Int32) (I_164 : Mem) =>
    if q_159 = q_163 then
    letM (v3 + (4 : Int32)) (fun x_167 : Int32 =>
    fL_law_18 N xs L cnt I_164 x_167)
    else
    some (0 : Int32)))
    else
    if x_3 = nI 16 then
    clP (f6_step N I 0) (fun (q_169 : Int32) (I_170 : Mem) =>
    clP (f7_step N I_170 81) (fun (q_172 : Int32) (I_173 : Mem) =>
    if q_169 = q_172 then
    letM (v3 + (4 : Int32)) (fun x_176 : Int32 =>
    fL_law_18 N xs L cnt I_173 x_176)
    else
    some (0 : Int32)))
    else
    if x_3 = nI 17 then
    if ((v3 + (1 : Int32)) < (0 : Int32) ∨ L ≤ (v3 + (1 : Int32)).toNatClampNeg) then none else
    clP (f6_run N I 0 (xs (v3 + (1 : Int32)).toNatClampNeg)) (fun (q_179 : Int32) (I_180 : Mem) =>
    if ((v3 + (1 : Int32)) < (0 : Int32) ∨ L ≤ (v3 + (1 : Int32)).toNatClampNeg) then none else
    clP (f7_run N I_180 81 (xs (v3 + (1 : Int32)).toNatClampNeg)) (fun (q_183 : Int32) (I_184 : Mem) =>
    if q_179 = q_183 then
    letM (v3 + (4 : Int32)) (fun x_187 : Int32 =>
    fL_law_18 N xs L cnt I_184 x_187)
    else
    some (0 : Int32)))
    else
    if x_3 = nI 18 then
    clP (f6_stop N I 0) (fun (q_189 : Int32) (I_190 : Mem) =>
    clP (f7_stop N I_190 81) (fun (q_192 : Int32) (I_193 : Mem) =>
    if q_189 = q_192 then
    letM (v3 + (4 : Int32)) (fun x_196 : Int32 =>
    fL_law_18 N xs L cnt I_193 x_196)
    else
    some (0 : Int32)))
    else
    if x_3 = nI 19 then
    if ((v3 + (1 : Int32)) < (0 : Int32) ∨ L ≤ (v3 + (1 : Int32)).toNatClampNeg) then none else
    clP (f6_removeItem N I 0 (xs (v3 + (1 : Int32)).toNatClampNeg)) (fun (q_199 : Int32) (I_200 : Mem) =>
    if ((v3 + (1 : Int32)) < (0 : Int32) ∨ L ≤ (v3 + (1 : Int32)).toNatClampNeg) then none else
    clP (f7_removeItem N I_200 81 (xs (v3 + (1 : Int32)).toNatClampNeg)) (fun (q_203 : Int32) (I_204 : Mem) =>
    if q_199 = q_203 then
    letM (v3 + (4 : Int32)) (fun x_207 : Int32 =>
    fL_law_18 N xs L cnt I_204 x_207)
    else
    some (0 : Int32)))
    else
    if x_3 = nI 20 then
    clP (f6_undo N I 0) (fun (q_209 : Int32) (I_210 : Mem) =>
    clP (f7_undo N I_210 81) (fun (q_212 : Int32) (I_213 : Mem) =>
    if q_209 = q_212 then
    letM (v3 + (4 : Int32)) (fun x_216 : Int32 =>
    fL_law_18 N xs L cnt I_213 x_216)
    else
    some (0 : Int32)))
    else
    if x_3 = nI 21 then
    clP (f6_ticksLeft N I 0) (fun (q_218 : Int32) (I_219 : Mem) =>
    clP (f7_ticksLeft N I_219 81) (fun (q_221 : Int32) (I_222 : Mem) =>
    if q_218 = q_221 then
    letM (v3 + (4 : Int32)) (fun x_225 : Int32 =>
    fL_law_18 N xs L cnt I_222 x_225)
    else
    some (0 : Int32)))
    else
    if x_3 = nI 22 then
    if ((v3 + (1 : Int32)) < (0 : Int32) ∨ L ≤ (v3 + (1 : Int32)).toNatClampNeg) then none else
    clP (f6_moveTicks N I 0 (xs (v3 + (1 : Int32)).toNatClampNeg)) (fun (q_228 : Int32) (I_229 : Mem) =>
    if ((v3 + (1 : Int32)) < (0 : Int32) ∨ L ≤ (v3 + (1 : Int32)).toNatClampNeg) then none else
    clP (f7_moveTicks N I_229 81 (xs (v3 + (1 : Int32)).toNatClampNeg)) (fun (q_232 : Int32) (I_233 : Mem) =>
    if q_228 = q_232 then
    letM (v3 + (4 : Int32)) (fun x_236 : Int32 =>
    fL_law_18 N xs L cnt I_233 x_236)
    else
    some (0 : Int32)))
    else
    if x_3 = nI 23 then
    if ((v3 + (1 : Int32)) < (0 : Int32) ∨ L ≤ (v3 + (1 : Int32)).toNatClampNeg) then none else
    if ((v3 + (2 : Int32)) < (0 : Int32) ∨ L ≤ (v3 + (2 : Int32)).toNatClampNeg) then none else
    clP (f6_positionAfter N I 0 (xs (v3 + (1 : Int32)).toNatClampNeg) (xs (v3 + (2 : Int32)).toNatClampNeg)) (fun (q_240 : Int32) (I_241 : Mem) =>
    if ((v3 + (1 : Int32)) < (0 : Int32) ∨ L ≤ (v3 + (1 : Int32)).toNatClampNeg) then none else
    if ((v3 + (2 : Int32)) < (0 : Int32) ∨ L ≤ (v3 + (2 : Int32)).toNatClampNeg) then none else
    clP (f7_positionAfter N I_241 81 (xs (v3 + (1 : Int32)).toNatClampNeg) (xs (v3 + (2 : Int32)).toNatClampNeg)) (fun (q_245 : Int32) (I_246 : Mem) =>
    if q_240 = q_245 then
    letM (v3 + (4 : Int32)) (fun x_249 : Int32 =>
    fL_law_18 N xs L cnt I_246 x_249)
    else
    some (0 : Int32)))
    else
    if x_3 = nI 24 then
    if ((v3 + (1 : Int32)) < (0 : Int32) ∨ L ≤ (v3 + (1 : Int32)).toNatClampNeg) then none else
    if ((v3 + (2 : Int32)) < (0 : Int32) ∨ L ≤ (v3 + (2 : Int32)).toNatClampNeg) then none else
    clP (f6_leastAcceleration N I 0 (xs (v3 + (1 : Int32)).toNatClampNeg) (xs (v3 + (2 : Int32)).toNatClampNeg)) (fun (q_253 : Int32) (I_254 : Mem) =>
    if ((v3 + (1 : Int32)) < (0 : Int32) ∨ L ≤ (v3 + (1 : Int32)).toNatClampNeg) then none else
    if ((v3 + (2 : Int32)) < (0 : Int32) ∨ L ≤ (v3 + (2 : Int32)).toNatClampNeg) then none else
    clP (f7_leastAcceleration N I_254 81 (xs (v3 + (1 : Int32)).toNatClampNeg) (xs (v3 + (2 : Int32)).toNatClampNeg)) (fun (q_258 : Int32) (I_259 : Mem) =>
    if q_253 = q_258 then
    letM (v3 + (4 : Int32)) (fun x_262 : Int32 =>
    fL_law_18 N xs L cnt I_259 x_262)
    else
    some (0 : Int32)))
    else
    if x_3 = nI 25 then
    if ((v3 + (1 : Int32)) < (0 : Int32) ∨ L ≤ (v3 + (1 : Int32)).toNatClampNeg) then none else
    clP (f6_greatestLength N I 0 (xs (v3 + (1 : Int32)).toNatClampNeg)) (fun (q_265 : Int32) (I_266 : Mem) =>
    if ((v3 + (1 : Int32)) < (0 : Int32) ∨ L ≤ (v3 + (1 : Int32)).toNatClampNeg) then none else
    clP (f7_greatestLength N I_266 81 (xs (v3 + (1 : Int32)).toNatClampNeg)) (fun (q_269 : Int32) (I_270 : Mem) =>
    if q_265 = q_269 then
    letM (v3 + (4 : Int32)) (fun x_273 : Int32 =>
    fL_law_18 N xs L cnt I_270 x_273)
    else
    some (0 : Int32)))
    else
    if x_3 = nI 26 then
    if ((v3 + (1 : Int32)) < (0 : Int32) ∨ L ≤ (v3 + (1 : Int32)).toNatClampNeg) then none else
    if ((v3 + (2 : Int32)) < (0 : Int32) ∨ L ≤ (v3 + (2 : Int32)).toNatClampNeg) then none else
    if ((v3 + (3 : Int32)) < (0 : Int32) ∨ L ≤ (v3 + (3 : Int32)).toNatClampNeg) then none else
    clP (f6_runScript N I 0 (xs (v3 + (1 : Int32)).toNatClampNeg) (((xs (v3 + (2 : Int32)).toNatClampNeg).toInt64 <<< (((32 : Int32)).toInt64 &&& 63)) ||| ((xs (v3 + (3 : Int32)).toNatClampNeg).toInt64 &&& (4294967295 : Int64)))) (fun (q_278 : Int32) (I_279 : Mem) =>
    if ((v3 + (1 : Int32)) < (0 : Int32) ∨ L ≤ (v3 + (1 : Int32)).toNatClampNeg) then none else
    if ((v3 + (2 : Int32)) < (0 : Int32) ∨ L ≤ (v3 + (2 : Int32)).toNatClampNeg) then none else
    if ((v3 + (3 : Int32)) < (0 : Int32) ∨ L ≤ (v3 + (3 : Int32)).toNatClampNeg) then none else
    clP (f7_runScript N I_279 81 (xs (v3 + (1 : Int32)).toNatClampNeg) (((xs (v3 + (2 : Int32)).toNatClampNeg).toInt64 <<< (((32 : Int32)).toInt64 &&& 63)) ||| ((xs (v3 + (3 : Int32)).toNatClampNeg).toInt64 &&& (4294967295 : Int64)))) (fun (q_284 : Int32) (I_285 : Mem) =>
    if q_278 = q_284 then
    letM (v3 + (4 : Int32)) (fun x_288 : Int32 =>
    fL_law_18 N xs L cnt I_285 x_288)
    else
    some (0 : Int32)))
    else
    if x_3 = nI 27 then
    if ((v3 + (1 : Int32)) < (0 : Int32) ∨ L ≤ (v3 + (1 : Int32)).toNatClampNeg) then none else
    if ((v3 + (2 : Int32)) < (0 : Int32) ∨ L ≤ (v3 + (2 : Int32)).toNatClampNeg) then none else
    if ((v3 + (3 : Int32)) < (0 : Int32) ∨ L ≤ (v3 + (3 : Int32)).toNatClampNeg) then none else
    clP (f6_randomSpeeds N I 0 (((xs (v3 + (1 : Int32)).toNatClampNeg).toInt64 <<< (((32 : Int32)).toInt64 &&& 63)) ||| ((xs (v3 + (2 : Int32)).toNatClampNeg).toInt64 &&& (4294967295 : Int64))) (xs (v3 + (3 : Int32)).toNatClampNeg)) (fun (q_293 : Int32) (I_294 : Mem) =>
    if ((v3 + (1 : Int32)) < (0 : Int32) ∨ L ≤ (v3 + (1 : Int32)).toNatClampNeg) then none else
    if ((v3 + (2 : Int32)) < (0 : Int32) ∨ L ≤ (v3 + (2 : Int32)).toNatClampNeg) then none else
    if ((v3 + (3 : Int32)) < (0 : Int32) ∨ L ≤ (v3 + (3 : Int32)).toNatClampNeg) then none else
    clP (f7_randomSpeeds N I_294 81 (((xs (v3 + (1 : Int32)).toNatClampNeg).toInt64 <<< (((32 : Int32)).toInt64 &&& 63)) ||| ((xs (v3 + (2 : Int32)).toNatClampNeg).toInt64 &&& (4294967295 : Int64))) (xs (v3 + (3 : Int32)).toNatClampNeg)) (fun (q_299 : Int32) (I_300 : Mem) =>
    if q_293 = q_299 then
    letM (v3 + (4 : Int32)) (fun x_303 : Int32 =>
    fL_law_18 N xs L cnt I_300 x_303)
    else
    some (0 : Int32)))
    else
    if x_3 = nI 28 then
    if ((v3 + (1 : Int32)) < (0 : Int32) ∨ L ≤ (v3 + (1 : Int32)).toNatClampNeg) then none else
    clP (f6_save N I 0 (xs (v3 + (1 : Int32)).toNatClampNeg)) (fun (q_306 : Int32) (I_307 : Mem) =>
    if ((v3 + (1 : Int32)) < (0 : Int32) ∨ L ≤ (v3 + (1 : Int32)).toNatClampNeg) then none else
    clP (f7_save N I_307 81 (xs (v3 + (1 : Int32)).toNatClampNeg)) (fun (q_310 : Int32) (I_311 : Mem) =>
    if q_306 = q_310 then
    letM (v3 + (4 : Int32)) (fun x_314 : Int32 =>
    fL_law_18 N xs L cnt I_311 x_314)
    else
    some (0 : Int32)))
    else
    if x_3 = nI 29 then
    if ((v3 + (1 : Int32)) < (0 : Int32) ∨ L ≤ (v3 + (1 : Int32)).toNatClampNeg) then none else
    clP (f6_restore N I 0 (xs (v3 + (1 : Int32)).toNatClampNeg)) (fun (q_317 : Int32) (I_318 : Mem) =>
    if ((v3 + (1 : Int32)) < (0 : Int32) ∨ L ≤ (v3 + (1 : Int32)).toNatClampNeg) then none else
    clP (f7_restore N I_318 81 (xs (v3 + (1 : Int32)).toNatClampNeg)) (fun (q_321 : Int32) (I_322 : Mem) =>
    if q_317 = q_321 then
    letM (v3 + (4 : Int32)) (fun x_325 : Int32 =>
    fL_law_18 N xs L cnt I_322 x_325)
    else
    some (0 : Int32)))
    else
    letM (v3 + (4 : Int32)) (fun x_326 : Int32 =>
    fL_law_18 N xs L cnt I x_326))
set_option maxHeartbeats 8000000 in
set_option maxRecDepth 100000 in
theorem LL_law_18 {b L : Nat} {xs : Nat → Int32} (hG : Apart g NT) (N : Nat) (X : Cx g p s m #[Value.ref b] c cL_law RL 4) (hr : meth.sig.returnType = ret) (hlk : meth.locks = false) (hX : va_X b L xs s s.heap) (hbl : b < s.heap.size) (hbA : ¬ gA g b) (hgs : g.1 = s.heap.size) : ∀ (cnt : Nat) (I : Mem) (v3 : Int32), fL_law_18 N xs L cnt I v3 = some 1 → ∀ (H : Heap) (locs : List Loc) (ls : Array Slot), Wp g I H → va_S (gA g) s.heap H locs → lv_has ls 4 [(0, .ref b), (1, .ref (ga g 0)), (2, .ref (ga g 81)), (3, .int v3)] → W p l e room_1 s m #[Value.ref b] below meth c H locs 90 3493 (lw_Z below #[Value.ref b] s) (F0 m 18 ls []) := by
  have hx := X.hx
  have hb := X.hb
  intro cnt
  induction cnt with
  | zero =>
    intro I v3 h
    rw [fL_law_18] at h
    cases h
  | succ cnt ih =>
    intro I v3 h H locs ls hP hS hl
    rw [fL_law_18] at h
    refine lv_iload_n hx hb dL_law_18 rfl (lv_at hl 3 rfl) ?_
    refine lv_aload_n hx hb dL_law_19 rfl (lv_at hl 0 rfl) ?_
    refine va_slen hx hb hX hbl hbA hS dL_law_20 ?_
    refine lv_iconst (v := (4 : Int32)) hx hb dL_law_21 (by decide +kernel) ?_
    refine lv_isub hx hb dL_law_22 ?_
    refine lv_icmp_gt (tgt := 864) hx hb dL_law_23 (by decide) (fun c_1 => ?_) (fun c_1 => ?_)
    · replace h := ifp c_1 h
      refine lv_iconst (v := (1 : Int32)) hx hb dL_law_864 (by decide +kernel) ?_
      have hv1 := Option.some.inj h
      try rw [hv1]
      exact va_forget (fun q hq => by rw [← hgs]; exact hS.2.2 q hq) (W.widen (Nat.le_of_ble_eq_true rfl) (Nat.le_of_ble_eq_true rfl) (lw_ret hx hb hr hlk dL_law_865))
    · replace h := ifn c_1 h
      refine lv_aload_n hx hb dL_law_26 rfl (lv_at hl 0 rfl) ?_
      refine lv_iload_n hx hb dL_law_27 rfl (lv_at hl 3 rfl) ?_
      obtain ⟨g_2, h⟩ := gd_e h
      refine va_sld hx hb hX hbl hbA hS g_2 dL_law_28 ?_
      refine lv_bipush (v := (31 : Int32)) hx hb dL_law_29 (by decide +kernel) ?_
      refine lv_iand hx hb dL_law_31 ?_
      obtain ⟨x_3, ex_3, h⟩ := letM_e h
      refine r_nmi ex_3 ?_
      by_cases c_4 : x_3 = nI 0
      · replace h := ifp c_4 h
        refine lv_tableIn (off := 136) (tgt := 168) hx hb dL_law_32 (by rw [c_4]; decide +kernel) (by rw [c_4]; decide +kernel) (by rw [c_4]; decide +kernel) (by decide) ?_
        refine lv_aload_n hx hb dL_law_168 rfl (lv_at hl 1 rfl) ?_
        refine lv_aload_n hx hb dL_law_169 rfl (lv_at hl 0 rfl) ?_
        refine lv_iload_n hx hb dL_law_170 rfl (lv_at hl 3 rfl) ?_
        refine lv_iconst (v := (1 : Int32)) hx hb dL_law_171 (by decide +kernel) ?_
        refine lv_iadd hx hb dL_law_172 ?_
        obtain ⟨g_5, h⟩ := gd_e h
        refine va_sld hx hb hX hbl hbA hS g_5 dL_law_173 ?_
        obtain ⟨q_6, I_7, hc_8, h⟩ := clP_e h
        refine r_callV (As := [.int (xs (v3 + (1 : Int32)).toNatClampNeg)]) [] X (c6_append l g hG N _ _ _ tgl_0 _ _ hc_8) cal_X6_append (im_X6_append) (se_X6_append) k_173 (tag_lt tgl_0 (by decide)) (by rw [lay, tgl_0]; rfl) rfl rfl ⟨rfl, rfl⟩ ⟨Nat.le_of_ble_eq_true rfl, Nat.le_of_ble_eq_true rfl⟩ hP hS hl.1 rfl (Nat.le_of_ble_eq_true rfl) dL_law_174 ⟨Nat.le_of_ble_eq_true rfl, Nat.le_of_ble_eq_true rfl⟩ (fun H locs hP hS => ?_)
        show W p l e room_1 s m #[Value.ref b] below meth c H locs 90 3493 _ (F0 m 177 ls [.int q_6])
        refine lv_aload_n hx hb dL_law_177 rfl (lv_at hl 2 rfl) ?_
        refine lv_aload_n hx hb dL_law_178 rfl (lv_at hl 0 rfl) ?_
        refine lv_iload_n hx hb dL_law_179 rfl (lv_at hl 3 rfl) ?_
        refine lv_iconst (v := (1 : Int32)) hx hb dL_law_180 (by decide +kernel) ?_
        refine lv_iadd hx hb dL_law_181 ?_
        obtain ⟨g_9, h⟩ := gd_e h
        refine va_sld hx hb hX hbl hbA hS g_9 dL_law_182 ?_
        obtain ⟨q_10, I_11, hc_12, h⟩ := clP_e h
        refine r_callV (As := [.int (xs (v3 + (1 : Int32)).toNatClampNeg)]) [.int q_6] X (c7_append l g hG N _ _ _ tgl_81 _ _ hc_12) cal_X7_append (im_X7_append) (se_X7_append) k_604 (tag_lt tgl_81 (by decide)) (by rw [lay, tgl_81]; rfl) rfl rfl ⟨rfl, rfl⟩ ⟨Nat.le_of_ble_eq_true rfl, Nat.le_of_ble_eq_true rfl⟩ hP hS hl.1 rfl (Nat.le_of_ble_eq_true rfl) dL_law_183 ⟨Nat.le_of_ble_eq_true rfl, Nat.le_of_ble_eq_true rfl⟩ (fun H locs hP hS => ?_)
        show W p l e room_1 s m #[Value.ref b] below meth c H locs 90 3493 _ (F0 m 186 ls [.int q_10, .int q_6])
        refine lv_icmp_eq (tgt := 858) hx hb dL_law_186 (by decide) (fun c_13 => ?_) (fun c_13 => ?_)
        · replace h := ifp c_13 h
          obtain ⟨x_14, ex_14, h⟩ := letM_e h
          refine lv_iinc (v := x_14) (lv' := [(3, .int x_14), (0, .ref b), (1, .ref (ga g 0)), (2, .ref (ga g 81))]) hx hb dL_law_858 hl (k := 3) rfl (by rw [ex_14]; rfl) (by decide) rfl (fun ls hl => ?_)
          refine lv_goto (tgt := 18) hx hb dL_law_861 (by decide) ?_
          exact ih I_11 x_14 h _ _ _ hP hS (lv_sub hl [1, 2, 3, 0] rfl)
        · replace h := ifn c_13 h
          refine lv_iconst (v := (0 : Int32)) hx hb dL_law_189 (by decide +kernel) ?_
          have hv1 := Option.some.inj h
          exact absurd hv1 (by decide)
      · replace h := ifn c_4 h
        by_cases c_15 : x_3 = nI 1
        · replace h := ifp c_15 h
          refine lv_tableIn (off := 159) (tgt := 191) hx hb dL_law_32 (by rw [c_15]; decide +kernel) (by rw [c_15]; decide +kernel) (by rw [c_15]; decide +kernel) (by decide) ?_
          refine lv_aload_n hx hb dL_law_191 rfl (lv_at hl 1 rfl) ?_
          obtain ⟨q_16, I_17, hc_18, h⟩ := clP_e h
          refine r_callV (As := []) [] X (c6_clearText l g hG N _ _ tgl_0 _ _ hc_18) cal_X6_clearText (im_X6_clearText) (se_X6_clearText) k_181 (tag_lt tgl_0 (by decide)) (by rw [lay, tgl_0]; rfl) rfl rfl ⟨rfl, rfl⟩ ⟨Nat.le_of_ble_eq_true rfl, Nat.le_of_ble_eq_true rfl⟩ hP hS hl.1 rfl (Nat.le_of_ble_eq_true rfl) dL_law_192 ⟨Nat.le_of_ble_eq_true rfl, Nat.le_of_ble_eq_true rfl⟩ (fun H locs hP hS => ?_)
          show W p l e room_1 s m #[Value.ref b] below meth c H locs 90 3493 _ (F0 m 195 ls [.int q_16])
          refine lv_aload_n hx hb dL_law_195 rfl (lv_at hl 2 rfl) ?_
          obtain ⟨q_19, I_20, hc_21, h⟩ := clP_e h
          refine r_callV (As := []) [.int q_16] X (c7_clearText l g hG N _ _ tgl_81 _ _ hc_21) cal_X7_clearText (im_X7_clearText) (se_X7_clearText) k_612 (tag_lt tgl_81 (by decide)) (by rw [lay, tgl_81]; rfl) rfl rfl ⟨rfl, rfl⟩ ⟨Nat.le_of_ble_eq_true rfl, Nat.le_of_ble_eq_true rfl⟩ hP hS hl.1 rfl (Nat.le_of_ble_eq_true rfl) dL_law_196 ⟨Nat.le_of_ble_eq_true rfl, Nat.le_of_ble_eq_true rfl⟩ (fun H locs hP hS => ?_)
          show W p l e room_1 s m #[Value.ref b] below meth c H locs 90 3493 _ (F0 m 199 ls [.int q_19, .int q_16])
          refine lv_icmp_eq (tgt := 858) hx hb dL_law_199 (by decide) (fun c_22 => ?_) (fun c_22 => ?_)
          · replace h := ifp c_22 h
            obtain ⟨x_23, ex_23, h⟩ := letM_e h
            refine lv_iinc (v := x_23) (lv' := [(3, .int x_23), (0, .ref b), (1, .ref (ga g 0)), (2, .ref (ga g 81))]) hx hb dL_law_858 hl (k := 3) rfl (by rw [ex_23]; rfl) (by decide) rfl (fun ls hl => ?_)
            refine lv_goto (tgt := 18) hx hb dL_law_861 (by decide) ?_
            exact ih I_20 x_23 h _ _ _ hP hS (lv_sub hl [1, 2, 3, 0] rfl)
          · replace h := ifn c_22 h
            refine lv_iconst (v := (0 : Int32)) hx hb dL_law_202 (by decide +kernel) ?_
            have hv1 := Option.some.inj h
            exact absurd hv1 (by decide)
        · replace h := ifn c_15 h
          by_cases c_24 : x_3 = nI 2
          · replace h := ifp c_24 h
            refine lv_tableIn (off := 172) (tgt := 204) hx hb dL_law_32 (by rw [c_24]; decide +kernel) (by rw [c_24]; decide +kernel) (by rw [c_24]; decide +kernel) (by decide) ?_
            refine lv_aload_n hx hb dL_law_204 rfl (lv_at hl 1 rfl) ?_
            obtain ⟨q_25, I_26, hc_27, h⟩ := clP_e h
            refine r_callV (As := []) [] X (c6_errorPosition l g hG N _ _ tgl_0 _ _ hc_27) cal_X6_errorPosition (im_X6_errorPosition) (se_X6_errorPosition) k_185 (tag_lt tgl_0 (by decide)) (by rw [lay, tgl_0]; rfl) rfl rfl ⟨rfl, rfl⟩ ⟨Nat.le_of_ble_eq_true rfl, Nat.le_of_ble_eq_true rfl⟩ hP hS hl.1 rfl (Nat.le_of_ble_eq_true rfl) dL_law_205 ⟨Nat.le_of_ble_eq_true rfl, Nat.le_of_ble_eq_true rfl⟩ (fun H locs hP hS => ?_)
            show W p l e room_1 s m #[Value.ref b] below meth c H locs 90 3493 _ (F0 m 208 ls [.int q_25])
            refine lv_aload_n hx hb dL_law_208 rfl (lv_at hl 2 rfl) ?_
            obtain ⟨q_28, I_29, hc_30, h⟩ := clP_e h
            refine r_callV (As := []) [.int q_25] X (c7_errorPosition l g hG N _ _ tgl_81 _ _ hc_30) cal_X7_errorPosition (im_X7_errorPosition) (se_X7_errorPosition) k_616 (tag_lt tgl_81 (by decide)) (by rw [lay, tgl_81]; rfl) rfl rfl ⟨rfl, rfl⟩ ⟨Nat.le_of_ble_eq_true rfl, Nat.le_of_ble_eq_true rfl⟩ hP hS hl.1 rfl (Nat.le_of_ble_eq_true rfl) dL_law_209 ⟨Nat.le_of_ble_eq_true rfl, Nat.le_of_ble_eq_true rfl⟩ (fun H locs hP hS => ?_)
            show W p l e room_1 s m #[Value.ref b] below meth c H locs 90 3493 _ (F0 m 212 ls [.int q_28, .int q_25])
            refine lv_icmp_eq (tgt := 858) hx hb dL_law_212 (by decide) (fun c_31 => ?_) (fun c_31 => ?_)
            · replace h := ifp c_31 h
              obtain ⟨x_32, ex_32, h⟩ := letM_e h
              refine lv_iinc (v := x_32) (lv' := [(3, .int x_32), (0, .ref b), (1, .ref (ga g 0)), (2, .ref (ga g 81))]) hx hb dL_law_858 hl (k := 3) rfl (by rw [ex_32]; rfl) (by decide) rfl (fun ls hl => ?_)
              refine lv_goto (tgt := 18) hx hb dL_law_861 (by decide) ?_
              exact ih I_29 x_32 h _ _ _ hP hS (lv_sub hl [1, 2, 3, 0] rfl)
            · replace h := ifn c_31 h
              refine lv_iconst (v := (0 : Int32)) hx hb dL_law_215 (by decide +kernel) ?_
              have hv1 := Option.some.inj h
              exact absurd hv1 (by decide)
          · replace h := ifn c_24 h
            by_cases c_33 : x_3 = nI 3
            · replace h := ifp c_33 h
              refine lv_tableIn (off := 185) (tgt := 217) hx hb dL_law_32 (by rw [c_33]; decide +kernel) (by rw [c_33]; decide +kernel) (by rw [c_33]; decide +kernel) (by decide) ?_
              refine lv_aload_n hx hb dL_law_217 rfl (lv_at hl 1 rfl) ?_
              obtain ⟨q_34, I_35, hc_36, h⟩ := clP_e h
              refine r_callV (As := []) [] X (c6_load l g hG N _ _ tgl_0 _ _ hc_36) cal_X6_load (im_X6_load) (se_X6_load) k_234 (tag_lt tgl_0 (by decide)) (by rw [lay, tgl_0]; rfl) rfl rfl ⟨rfl, rfl⟩ ⟨Nat.le_of_ble_eq_true rfl, Nat.le_of_ble_eq_true rfl⟩ hP hS hl.1 rfl (Nat.le_of_ble_eq_true rfl) dL_law_218 ⟨Nat.le_of_ble_eq_true rfl, Nat.le_of_ble_eq_true rfl⟩ (fun H locs hP hS => ?_)
              show W p l e room_1 s m #[Value.ref b] below meth c H locs 90 3493 _ (F0 m 221 ls [.int q_34])
              refine lv_aload_n hx hb dL_law_221 rfl (lv_at hl 2 rfl) ?_
              obtain ⟨q_37, I_38, hc_39, h⟩ := clP_e h
              refine r_callV (As := []) [.int q_34] X (c7_load l g hG N _ _ tgl_81 _ _ hc_39) cal_X7_load (im_X7_load) (se_X7_load) k_644 (tag_lt tgl_81 (by decide)) (by rw [lay, tgl_81]; rfl) rfl rfl ⟨rfl, rfl⟩ ⟨Nat.le_of_ble_eq_true rfl, Nat.le_of_ble_eq_true rfl⟩ hP hS hl.1 rfl (Nat.le_of_ble_eq_true rfl) dL_law_222 ⟨Nat.le_of_ble_eq_true rfl, Nat.le_of_ble_eq_true rfl⟩ (fun H locs hP hS => ?_)
              show W p l e room_1 s m #[Value.ref b] below meth c H locs 90 3493 _ (F0 m 225 ls [.int q_37, .int q_34])
              refine lv_icmp_eq (tgt := 858) hx hb dL_law_225 (by decide) (fun c_40 => ?_) (fun c_40 => ?_)
              · replace h := ifp c_40 h
                obtain ⟨x_41, ex_41, h⟩ := letM_e h
                refine lv_iinc (v := x_41) (lv' := [(3, .int x_41), (0, .ref b), (1, .ref (ga g 0)), (2, .ref (ga g 81))]) hx hb dL_law_858 hl (k := 3) rfl (by rw [ex_41]; rfl) (by decide) rfl (fun ls hl => ?_)
                refine lv_goto (tgt := 18) hx hb dL_law_861 (by decide) ?_
                exact ih I_38 x_41 h _ _ _ hP hS (lv_sub hl [1, 2, 3, 0] rfl)
              · replace h := ifn c_40 h
                refine lv_iconst (v := (0 : Int32)) hx hb dL_law_228 (by decide +kernel) ?_
                have hv1 := Option.some.inj h
                exact absurd hv1 (by decide)
            · replace h := ifn c_33 h
              by_cases c_42 : x_3 = nI 4
              · replace h := ifp c_42 h
                refine lv_tableIn (off := 198) (tgt := 230) hx hb dL_law_32 (by rw [c_42]; decide +kernel) (by rw [c_42]; decide +kernel) (by rw [c_42]; decide +kernel) (by decide) ?_
                refine lv_aload_n hx hb dL_law_230 rfl (lv_at hl 1 rfl) ?_
                refine lv_aload_n hx hb dL_law_231 rfl (lv_at hl 0 rfl) ?_
                refine lv_iload_n hx hb dL_law_232 rfl (lv_at hl 3 rfl) ?_
                refine lv_iconst (v := (1 : Int32)) hx hb dL_law_233 (by decide +kernel) ?_
                refine lv_iadd hx hb dL_law_234 ?_
                obtain ⟨g_43, h⟩ := gd_e h
                refine va_sld hx hb hX hbl hbA hS g_43 dL_law_235 ?_
                obtain ⟨q_44, I_45, hc_46, h⟩ := clP_e h
                refine r_callV (As := [.int (xs (v3 + (1 : Int32)).toNatClampNeg)]) [] X (c6_position l g hG N _ _ _ tgl_0 _ _ hc_46) cal_X6_position (im_X6_position) (se_X6_position) k_246 (tag_lt tgl_0 (by decide)) (by rw [lay, tgl_0]; rfl) rfl rfl ⟨rfl, rfl⟩ ⟨Nat.le_of_ble_eq_true rfl, Nat.le_of_ble_eq_true rfl⟩ hP hS hl.1 rfl (Nat.le_of_ble_eq_true rfl) dL_law_236 ⟨Nat.le_of_ble_eq_true rfl, Nat.le_of_ble_eq_true rfl⟩ (fun H locs hP hS => ?_)
                show W p l e room_1 s m #[Value.ref b] below meth c H locs 90 3493 _ (F0 m 239 ls [.int q_44])
                refine lv_aload_n hx hb dL_law_239 rfl (lv_at hl 2 rfl) ?_
                refine lv_aload_n hx hb dL_law_240 rfl (lv_at hl 0 rfl) ?_
                refine lv_iload_n hx hb dL_law_241 rfl (lv_at hl 3 rfl) ?_
                refine lv_iconst (v := (1 : Int32)) hx hb dL_law_242 (by decide +kernel) ?_
                refine lv_iadd hx hb dL_law_243 ?_
                obtain ⟨g_47, h⟩ := gd_e h
                refine va_sld hx hb hX hbl hbA hS g_47 dL_law_244 ?_
                obtain ⟨q_48, I_49, hc_50, h⟩ := clP_e h
                refine r_callV (As := [.int (xs (v3 + (1 : Int32)).toNatClampNeg)]) [.int q_44] X (c7_position l g hG N _ _ _ tgl_81 _ _ hc_50) cal_X7_position (im_X7_position) (se_X7_position) k_651 (tag_lt tgl_81 (by decide)) (by rw [lay, tgl_81]; rfl) rfl rfl ⟨rfl, rfl⟩ ⟨Nat.le_of_ble_eq_true rfl, Nat.le_of_ble_eq_true rfl⟩ hP hS hl.1 rfl (Nat.le_of_ble_eq_true rfl) dL_law_245 ⟨Nat.le_of_ble_eq_true rfl, Nat.le_of_ble_eq_true rfl⟩ (fun H locs hP hS => ?_)
                show W p l e room_1 s m #[Value.ref b] below meth c H locs 90 3493 _ (F0 m 248 ls [.int q_48, .int q_44])
                refine lv_icmp_eq (tgt := 858) hx hb dL_law_248 (by decide) (fun c_51 => ?_) (fun c_51 => ?_)
                · replace h := ifp c_51 h
                  obtain ⟨x_52, ex_52, h⟩ := letM_e h
                  refine lv_iinc (v := x_52) (lv' := [(3, .int x_52), (0, .ref b), (1, .ref (ga g 0)), (2, .ref (ga g 81))]) hx hb dL_law_858 hl (k := 3) rfl (by rw [ex_52]; rfl) (by decide) rfl (fun ls hl => ?_)
                  refine lv_goto (tgt := 18) hx hb dL_law_861 (by decide) ?_
                  exact ih I_49 x_52 h _ _ _ hP hS (lv_sub hl [1, 2, 3, 0] rfl)
                · replace h := ifn c_51 h
                  refine lv_iconst (v := (0 : Int32)) hx hb dL_law_251 (by decide +kernel) ?_
                  have hv1 := Option.some.inj h
                  exact absurd hv1 (by decide)
              · replace h := ifn c_42 h
                by_cases c_53 : x_3 = nI 5
                · replace h := ifp c_53 h
                  refine lv_tableIn (off := 221) (tgt := 253) hx hb dL_law_32 (by rw [c_53]; decide +kernel) (by rw [c_53]; decide +kernel) (by rw [c_53]; decide +kernel) (by decide) ?_
                  refine lv_aload_n hx hb dL_law_253 rfl (lv_at hl 1 rfl) ?_
                  obtain ⟨q_54, I_55, hc_56, h⟩ := clP_e h
                  refine r_callV (As := []) [] X (c6_clock l g hG N _ _ tgl_0 _ _ hc_56) cal_X6_clock (im_X6_clock) (se_X6_clock) k_258 (tag_lt tgl_0 (by decide)) (by rw [lay, tgl_0]; rfl) rfl rfl ⟨rfl, rfl⟩ ⟨Nat.le_of_ble_eq_true rfl, Nat.le_of_ble_eq_true rfl⟩ hP hS hl.1 rfl (Nat.le_of_ble_eq_true rfl) dL_law_254 ⟨Nat.le_of_ble_eq_true rfl, Nat.le_of_ble_eq_true rfl⟩ (fun H locs hP hS => ?_)
                  show W p l e room_1 s m #[Value.ref b] below meth c H locs 90 3493 _ (F0 m 257 ls [.int q_54])
                  refine lv_aload_n hx hb dL_law_257 rfl (lv_at hl 2 rfl) ?_
                  obtain ⟨q_57, I_58, hc_59, h⟩ := clP_e h
                  refine r_callV (As := []) [.int q_54] X (c7_clock l g hG N _ _ tgl_81 _ _ hc_59) cal_X7_clock (im_X7_clock) (se_X7_clock) k_656 (tag_lt tgl_81 (by decide)) (by rw [lay, tgl_81]; rfl) rfl rfl ⟨rfl, rfl⟩ ⟨Nat.le_of_ble_eq_true rfl, Nat.le_of_ble_eq_true rfl⟩ hP hS hl.1 rfl (Nat.le_of_ble_eq_true rfl) dL_law_258 ⟨Nat.le_of_ble_eq_true rfl, Nat.le_of_ble_eq_true rfl⟩ (fun H locs hP hS => ?_)
                  show W p l e room_1 s m #[Value.ref b] below meth c H locs 90 3493 _ (F0 m 261 ls [.int q_57, .int q_54])
                  refine lv_icmp_eq (tgt := 858) hx hb dL_law_261 (by decide) (fun c_60 => ?_) (fun c_60 => ?_)
                  · replace h := ifp c_60 h
                    obtain ⟨x_61, ex_61, h⟩ := letM_e h
                    refine lv_iinc (v := x_61) (lv' := [(3, .int x_61), (0, .ref b), (1, .ref (ga g 0)), (2, .ref (ga g 81))]) hx hb dL_law_858 hl (k := 3) rfl (by rw [ex_61]; rfl) (by decide) rfl (fun ls hl => ?_)
                    refine lv_goto (tgt := 18) hx hb dL_law_861 (by decide) ?_
                    exact ih I_58 x_61 h _ _ _ hP hS (lv_sub hl [1, 2, 3, 0] rfl)
                  · replace h := ifn c_60 h
                    refine lv_iconst (v := (0 : Int32)) hx hb dL_law_264 (by decide +kernel) ?_
                    have hv1 := Option.some.inj h
                    exact absurd hv1 (by decide)
                · replace h := ifn c_53 h
                  by_cases c_62 : x_3 = nI 6
                  · replace h := ifp c_62 h
                    refine lv_tableIn (off := 234) (tgt := 266) hx hb dL_law_32 (by rw [c_62]; decide +kernel) (by rw [c_62]; decide +kernel) (by rw [c_62]; decide +kernel) (by decide) ?_
                    refine lv_aload_n hx hb dL_law_266 rfl (lv_at hl 1 rfl) ?_
                    obtain ⟨q_63, I_64, hc_65, h⟩ := clP_e h
                    refine r_callV (As := []) [] X (c6_queueLength l g hG N _ _ tgl_0 _ _ hc_65) cal_X6_queueLength (im_X6_queueLength) (se_X6_queueLength) k_262 (tag_lt tgl_0 (by decide)) (by rw [lay, tgl_0]; rfl) rfl rfl ⟨rfl, rfl⟩ ⟨Nat.le_of_ble_eq_true rfl, Nat.le_of_ble_eq_true rfl⟩ hP hS hl.1 rfl (Nat.le_of_ble_eq_true rfl) dL_law_267 ⟨Nat.le_of_ble_eq_true rfl, Nat.le_of_ble_eq_true rfl⟩ (fun H locs hP hS => ?_)
                    show W p l e room_1 s m #[Value.ref b] below meth c H locs 90 3493 _ (F0 m 270 ls [.int q_63])
                    refine lv_aload_n hx hb dL_law_270 rfl (lv_at hl 2 rfl) ?_
                    obtain ⟨q_66, I_67, hc_68, h⟩ := clP_e h
                    refine r_callV (As := []) [.int q_63] X (c7_queueLength l g hG N _ _ tgl_81 _ _ hc_68) cal_X7_queueLength (im_X7_queueLength) (se_X7_queueLength) k_660 (tag_lt tgl_81 (by decide)) (by rw [lay, tgl_81]; rfl) rfl rfl ⟨rfl, rfl⟩ ⟨Nat.le_of_ble_eq_true rfl, Nat.le_of_ble_eq_true rfl⟩ hP hS hl.1 rfl (Nat.le_of_ble_eq_true rfl) dL_law_271 ⟨Nat.le_of_ble_eq_true rfl, Nat.le_of_ble_eq_true rfl⟩ (fun H locs hP hS => ?_)
                    show W p l e room_1 s m #[Value.ref b] below meth c H locs 90 3493 _ (F0 m 274 ls [.int q_66, .int q_63])
                    refine lv_icmp_eq (tgt := 858) hx hb dL_law_274 (by decide) (fun c_69 => ?_) (fun c_69 => ?_)
                    · replace h := ifp c_69 h
                      obtain ⟨x_70, ex_70, h⟩ := letM_e h
                      refine lv_iinc (v := x_70) (lv' := [(3, .int x_70), (0, .ref b), (1, .ref (ga g 0)), (2, .ref (ga g 81))]) hx hb dL_law_858 hl (k := 3) rfl (by rw [ex_70]; rfl) (by decide) rfl (fun ls hl => ?_)
                      refine lv_goto (tgt := 18) hx hb dL_law_861 (by decide) ?_
                      exact ih I_67 x_70 h _ _ _ hP hS (lv_sub hl [1, 2, 3, 0] rfl)
                    · replace h := ifn c_69 h
                      refine lv_iconst (v := (0 : Int32)) hx hb dL_law_277 (by decide +kernel) ?_
                      have hv1 := Option.some.inj h
                      exact absurd hv1 (by decide)
                  · replace h := ifn c_62 h
                    by_cases c_71 : x_3 = nI 7
                    · replace h := ifp c_71 h
                      refine lv_tableIn (off := 247) (tgt := 279) hx hb dL_law_32 (by rw [c_71]; decide +kernel) (by rw [c_71]; decide +kernel) (by rw [c_71]; decide +kernel) (by decide) ?_
                      refine lv_aload_n hx hb dL_law_279 rfl (lv_at hl 1 rfl) ?_
                      refine lv_aload_n hx hb dL_law_280 rfl (lv_at hl 0 rfl) ?_
                      refine lv_iload_n hx hb dL_law_281 rfl (lv_at hl 3 rfl) ?_
                      refine lv_iconst (v := (1 : Int32)) hx hb dL_law_282 (by decide +kernel) ?_
                      refine lv_iadd hx hb dL_law_283 ?_
                      obtain ⟨g_72, h⟩ := gd_e h
                      refine va_sld hx hb hX hbl hbA hS g_72 dL_law_284 ?_
                      obtain ⟨q_73, I_74, hc_75, h⟩ := clP_e h
                      refine r_callV (As := [.int (xs (v3 + (1 : Int32)).toNatClampNeg)]) [] X (c6_itemAt l g hG N _ _ _ tgl_0 _ _ hc_75) cal_X6_itemAt (im_X6_itemAt) (se_X6_itemAt) k_266 (tag_lt tgl_0 (by decide)) (by rw [lay, tgl_0]; rfl) rfl rfl ⟨rfl, rfl⟩ ⟨Nat.le_of_ble_eq_true rfl, Nat.le_of_ble_eq_true rfl⟩ hP hS hl.1 rfl (Nat.le_of_ble_eq_true rfl) dL_law_285 ⟨Nat.le_of_ble_eq_true rfl, Nat.le_of_ble_eq_true rfl⟩ (fun H locs hP hS => ?_)
                      show W p l e room_1 s m #[Value.ref b] below meth c H locs 90 3493 _ (F0 m 288 ls [.int q_73])
                      refine lv_aload_n hx hb dL_law_288 rfl (lv_at hl 2 rfl) ?_
                      refine lv_aload_n hx hb dL_law_289 rfl (lv_at hl 0 rfl) ?_
                      refine lv_iload_n hx hb dL_law_290 rfl (lv_at hl 3 rfl) ?_
                      refine lv_iconst (v := (1 : Int32)) hx hb dL_law_291 (by decide +kernel) ?_
                      refine lv_iadd hx hb dL_law_292 ?_
                      obtain ⟨g_76, h⟩ := gd_e h
                      refine va_sld hx hb hX hbl hbA hS g_76 dL_law_293 ?_
                      obtain ⟨q_77, I_78, hc_79, h⟩ := clP_e h
                      refine r_callV (As := [.int (xs (v3 + (1 : Int32)).toNatClampNeg)]) [.int q_73] X (c7_itemAt l g hG N _ _ _ tgl_81 _ _ hc_79) cal_X7_itemAt (im_X7_itemAt) (se_X7_itemAt) k_664 (tag_lt tgl_81 (by decide)) (by rw [lay, tgl_81]; rfl) rfl rfl ⟨rfl, rfl⟩ ⟨Nat.le_of_ble_eq_true rfl, Nat.le_of_ble_eq_true rfl⟩ hP hS hl.1 rfl (Nat.le_of_ble_eq_true rfl) dL_law_294 ⟨Nat.le_of_ble_eq_true rfl, Nat.le_of_ble_eq_true rfl⟩ (fun H locs hP hS => ?_)
                      show W p l e room_1 s m #[Value.ref b] below meth c H locs 90 3493 _ (F0 m 297 ls [.int q_77, .int q_73])
                      refine lv_icmp_eq (tgt := 858) hx hb dL_law_297 (by decide) (fun c_80 => ?_) (fun c_80 => ?_)
                      · replace h := ifp c_80 h
                        obtain ⟨x_81, ex_81, h⟩ := letM_e h
                        refine lv_iinc (v := x_81) (lv' := [(3, .int x_81), (0, .ref b), (1, .ref (ga g 0)), (2, .ref (ga g 81))]) hx hb dL_law_858 hl (k := 3) rfl (by rw [ex_81]; rfl) (by decide) rfl (fun ls hl => ?_)
                        refine lv_goto (tgt := 18) hx hb dL_law_861 (by decide) ?_
                        exact ih I_78 x_81 h _ _ _ hP hS (lv_sub hl [1, 2, 3, 0] rfl)
                      · replace h := ifn c_80 h
                        refine lv_iconst (v := (0 : Int32)) hx hb dL_law_300 (by decide +kernel) ?_
                        have hv1 := Option.some.inj h
                        exact absurd hv1 (by decide)
                    · replace h := ifn c_71 h
                      by_cases c_82 : x_3 = nI 8
                      · replace h := ifp c_82 h
                        refine lv_tableIn (off := 270) (tgt := 302) hx hb dL_law_32 (by rw [c_82]; decide +kernel) (by rw [c_82]; decide +kernel) (by rw [c_82]; decide +kernel) (by decide) ?_
                        refine lv_aload_n hx hb dL_law_302 rfl (lv_at hl 1 rfl) ?_
                        obtain ⟨q_83, I_84, hc_85, h⟩ := clP_e h
                        refine r_callV (As := []) [] X (c6_rampIndex l g hG N _ _ tgl_0 _ _ hc_85) cal_X6_rampIndex (im_X6_rampIndex) (se_X6_rampIndex) k_297 (tag_lt tgl_0 (by decide)) (by rw [lay, tgl_0]; rfl) rfl rfl ⟨rfl, rfl⟩ ⟨Nat.le_of_ble_eq_true rfl, Nat.le_of_ble_eq_true rfl⟩ hP hS hl.1 rfl (Nat.le_of_ble_eq_true rfl) dL_law_303 ⟨Nat.le_of_ble_eq_true rfl, Nat.le_of_ble_eq_true rfl⟩ (fun H locs hP hS => ?_)
                        show W p l e room_1 s m #[Value.ref b] below meth c H locs 90 3493 _ (F0 m 306 ls [.int q_83])
                        refine lv_aload_n hx hb dL_law_306 rfl (lv_at hl 2 rfl) ?_
                        obtain ⟨q_86, I_87, hc_88, h⟩ := clP_e h
                        refine r_callV (As := []) [.int q_83] X (c7_rampIndex l g hG N _ _ tgl_81 _ _ hc_88) cal_X7_rampIndex (im_X7_rampIndex) (se_X7_rampIndex) k_677 (tag_lt tgl_81 (by decide)) (by rw [lay, tgl_81]; rfl) rfl rfl ⟨rfl, rfl⟩ ⟨Nat.le_of_ble_eq_true rfl, Nat.le_of_ble_eq_true rfl⟩ hP hS hl.1 rfl (Nat.le_of_ble_eq_true rfl) dL_law_307 ⟨Nat.le_of_ble_eq_true rfl, Nat.le_of_ble_eq_true rfl⟩ (fun H locs hP hS => ?_)
                        show W p l e room_1 s m #[Value.ref b] below meth c H locs 90 3493 _ (F0 m 310 ls [.int q_86, .int q_83])
                        refine lv_icmp_eq (tgt := 858) hx hb dL_law_310 (by decide) (fun c_89 => ?_) (fun c_89 => ?_)
                        · replace h := ifp c_89 h
                          obtain ⟨x_90, ex_90, h⟩ := letM_e h
                          refine lv_iinc (v := x_90) (lv' := [(3, .int x_90), (0, .ref b), (1, .ref (ga g 0)), (2, .ref (ga g 81))]) hx hb dL_law_858 hl (k := 3) rfl (by rw [ex_90]; rfl) (by decide) rfl (fun ls hl => ?_)
                          refine lv_goto (tgt := 18) hx hb dL_law_861 (by decide) ?_
                          exact ih I_87 x_90 h _ _ _ hP hS (lv_sub hl [1, 2, 3, 0] rfl)
                        · replace h := ifn c_89 h
                          refine lv_iconst (v := (0 : Int32)) hx hb dL_law_313 (by decide +kernel) ?_
                          have hv1 := Option.some.inj h
                          exact absurd hv1 (by decide)
                      · replace h := ifn c_82 h
                        by_cases c_91 : x_3 = nI 9
                        · replace h := ifp c_91 h
                          refine lv_tableIn (off := 283) (tgt := 315) hx hb dL_law_32 (by rw [c_91]; decide +kernel) (by rw [c_91]; decide +kernel) (by rw [c_91]; decide +kernel) (by decide) ?_
                          refine lv_aload_n hx hb dL_law_315 rfl (lv_at hl 1 rfl) ?_
                          obtain ⟨q_92, I_93, hc_94, h⟩ := clP_e h
                          refine r_callV (As := []) [] X (c6_topIndex l g hG N _ _ tgl_0 _ _ hc_94) cal_X6_topIndex (im_X6_topIndex) (se_X6_topIndex) k_302 (tag_lt tgl_0 (by decide)) (by rw [lay, tgl_0]; rfl) rfl rfl ⟨rfl, rfl⟩ ⟨Nat.le_of_ble_eq_true rfl, Nat.le_of_ble_eq_true rfl⟩ hP hS hl.1 rfl (Nat.le_of_ble_eq_true rfl) dL_law_316 ⟨Nat.le_of_ble_eq_true rfl, Nat.le_of_ble_eq_true rfl⟩ (fun H locs hP hS => ?_)
                          show W p l e room_1 s m #[Value.ref b] below meth c H locs 90 3493 _ (F0 m 319 ls [.int q_92])
                          refine lv_aload_n hx hb dL_law_319 rfl (lv_at hl 2 rfl) ?_
                          obtain ⟨q_95, I_96, hc_97, h⟩ := clP_e h
                          refine r_callV (As := []) [.int q_92] X (c7_topIndex l g hG N _ _ tgl_81 _ _ hc_97) cal_X7_topIndex (im_X7_topIndex) (se_X7_topIndex) k_681 (tag_lt tgl_81 (by decide)) (by rw [lay, tgl_81]; rfl) rfl rfl ⟨rfl, rfl⟩ ⟨Nat.le_of_ble_eq_true rfl, Nat.le_of_ble_eq_true rfl⟩ hP hS hl.1 rfl (Nat.le_of_ble_eq_true rfl) dL_law_320 ⟨Nat.le_of_ble_eq_true rfl, Nat.le_of_ble_eq_true rfl⟩ (fun H locs hP hS => ?_)
                          show W p l e room_1 s m #[Value.ref b] below meth c H locs 90 3493 _ (F0 m 323 ls [.int q_95, .int q_92])
                          refine lv_icmp_eq (tgt := 858) hx hb dL_law_323 (by decide) (fun c_98 => ?_) (fun c_98 => ?_)
                          · replace h := ifp c_98 h
                            obtain ⟨x_99, ex_99, h⟩ := letM_e h
                            refine lv_iinc (v := x_99) (lv' := [(3, .int x_99), (0, .ref b), (1, .ref (ga g 0)), (2, .ref (ga g 81))]) hx hb dL_law_858 hl (k := 3) rfl (by rw [ex_99]; rfl) (by decide) rfl (fun ls hl => ?_)
                            refine lv_goto (tgt := 18) hx hb dL_law_861 (by decide) ?_
                            exact ih I_96 x_99 h _ _ _ hP hS (lv_sub hl [1, 2, 3, 0] rfl)
                          · replace h := ifn c_98 h
                            refine lv_iconst (v := (0 : Int32)) hx hb dL_law_326 (by decide +kernel) ?_
                            have hv1 := Option.some.inj h
                            exact absurd hv1 (by decide)
                        · replace h := ifn c_91 h
                          by_cases c_100 : x_3 = nI 10
                          · replace h := ifp c_100 h
                            refine lv_tableIn (off := 296) (tgt := 328) hx hb dL_law_32 (by rw [c_100]; decide +kernel) (by rw [c_100]; decide +kernel) (by rw [c_100]; decide +kernel) (by decide) ?_
                            refine lv_aload_n hx hb dL_law_328 rfl (lv_at hl 1 rfl) ?_
                            refine lv_aload_n hx hb dL_law_329 rfl (lv_at hl 0 rfl) ?_
                            refine lv_iload_n hx hb dL_law_330 rfl (lv_at hl 3 rfl) ?_
                            refine lv_iconst (v := (1 : Int32)) hx hb dL_law_331 (by decide +kernel) ?_
                            refine lv_iadd hx hb dL_law_332 ?_
                            obtain ⟨g_101, h⟩ := gd_e h
                            refine va_sld hx hb hX hbl hbA hS g_101 dL_law_333 ?_
                            obtain ⟨q_102, I_103, hc_104, h⟩ := clP_e h
                            refine r_callV (As := [.int (xs (v3 + (1 : Int32)).toNatClampNeg)]) [] X (c6_interval l g hG N _ _ _ tgl_0 _ _ hc_104) cal_X6_interval (im_X6_interval) (se_X6_interval) k_345 (tag_lt tgl_0 (by decide)) (by rw [lay, tgl_0]; rfl) rfl rfl ⟨rfl, rfl⟩ ⟨Nat.le_of_ble_eq_true rfl, Nat.le_of_ble_eq_true rfl⟩ hP hS hl.1 rfl (Nat.le_of_ble_eq_true rfl) dL_law_334 ⟨Nat.le_of_ble_eq_true rfl, Nat.le_of_ble_eq_true rfl⟩ (fun H locs hP hS => ?_)
                            show W p l e room_1 s m #[Value.ref b] below meth c H locs 90 3493 _ (F0 m 337 ls [.int q_102])
                            refine lv_aload_n hx hb dL_law_337 rfl (lv_at hl 2 rfl) ?_
                            refine lv_aload_n hx hb dL_law_338 rfl (lv_at hl 0 rfl) ?_
                            refine lv_iload_n hx hb dL_law_339 rfl (lv_at hl 3 rfl) ?_
                            refine lv_iconst (v := (1 : Int32)) hx hb dL_law_340 (by decide +kernel) ?_
                            refine lv_iadd hx hb dL_law_341 ?_
                            obtain ⟨g_105, h⟩ := gd_e h
                            refine va_sld hx hb hX hbl hbA hS g_105 dL_law_342 ?_
                            obtain ⟨q_106, I_107, hc_108, h⟩ := clP_e h
                            refine r_callV (As := [.int (xs (v3 + (1 : Int32)).toNatClampNeg)]) [.int q_102] X (c7_interval l g hG N _ _ _ tgl_81 _ _ hc_108) cal_X7_interval (im_X7_interval) (se_X7_interval) k_708 (tag_lt tgl_81 (by decide)) (by rw [lay, tgl_81]; rfl) rfl rfl ⟨rfl, rfl⟩ ⟨Nat.le_of_ble_eq_true rfl, Nat.le_of_ble_eq_true rfl⟩ hP hS hl.1 rfl (Nat.le_of_ble_eq_true rfl) dL_law_343 ⟨Nat.le_of_ble_eq_true rfl, Nat.le_of_ble_eq_true rfl⟩ (fun H locs hP hS => ?_)
                            show W p l e room_1 s m #[Value.ref b] below meth c H locs 90 3493 _ (F0 m 346 ls [.int q_106, .int q_102])
                            refine lv_icmp_eq (tgt := 858) hx hb dL_law_346 (by decide) (fun c_109 => ?_) (fun c_109 => ?_)
                            · replace h := ifp c_109 h
                              obtain ⟨x_110, ex_110, h⟩ := letM_e h
                              refine lv_iinc (v := x_110) (lv' := [(3, .int x_110), (0, .ref b), (1, .ref (ga g 0)), (2, .ref (ga g 81))]) hx hb dL_law_858 hl (k := 3) rfl (by rw [ex_110]; rfl) (by decide) rfl (fun ls hl => ?_)
                              refine lv_goto (tgt := 18) hx hb dL_law_861 (by decide) ?_
                              exact ih I_107 x_110 h _ _ _ hP hS (lv_sub hl [1, 2, 3, 0] rfl)
                            · replace h := ifn c_109 h
                              refine lv_iconst (v := (0 : Int32)) hx hb dL_law_349 (by decide +kernel) ?_
                              have hv1 := Option.some.inj h
                              exact absurd hv1 (by decide)
                          · replace h := ifn c_100 h
                            by_cases c_111 : x_3 = nI 11
                            · replace h := ifp c_111 h
                              refine lv_tableIn (off := 319) (tgt := 351) hx hb dL_law_32 (by rw [c_111]; decide +kernel) (by rw [c_111]; decide +kernel) (by rw [c_111]; decide +kernel) (by decide) ?_
                              refine lv_aload_n hx hb dL_law_351 rfl (lv_at hl 1 rfl) ?_
                              refine lv_aload_n hx hb dL_law_352 rfl (lv_at hl 0 rfl) ?_
                              refine lv_iload_n hx hb dL_law_353 rfl (lv_at hl 3 rfl) ?_
                              refine lv_iconst (v := (1 : Int32)) hx hb dL_law_354 (by decide +kernel) ?_
                              refine lv_iadd hx hb dL_law_355 ?_
                              obtain ⟨g_112, h⟩ := gd_e h
                              refine va_sld hx hb hX hbl hbA hS g_112 dL_law_356 ?_
                              obtain ⟨q_113, I_114, hc_115, h⟩ := clP_e h
                              refine r_callV (As := [.int (xs (v3 + (1 : Int32)).toNatClampNeg)]) [] X (c6_approximateInterval l g hG N _ _ _ tgl_0 _ _ hc_115) cal_X6_approximateInterval (im_X6_approximateInterval) (se_X6_approximateInterval) k_357 (tag_lt tgl_0 (by decide)) (by rw [lay, tgl_0]; rfl) rfl rfl ⟨rfl, rfl⟩ ⟨Nat.le_of_ble_eq_true rfl, Nat.le_of_ble_eq_true rfl⟩ hP hS hl.1 rfl (Nat.le_of_ble_eq_true rfl) dL_law_357 ⟨Nat.le_of_ble_eq_true rfl, Nat.le_of_ble_eq_true rfl⟩ (fun H locs hP hS => ?_)
                              show W p l e room_1 s m #[Value.ref b] below meth c H locs 90 3493 _ (F0 m 360 ls [.int q_113])
                              refine lv_aload_n hx hb dL_law_360 rfl (lv_at hl 2 rfl) ?_
                              refine lv_aload_n hx hb dL_law_361 rfl (lv_at hl 0 rfl) ?_
                              refine lv_iload_n hx hb dL_law_362 rfl (lv_at hl 3 rfl) ?_
                              refine lv_iconst (v := (1 : Int32)) hx hb dL_law_363 (by decide +kernel) ?_
                              refine lv_iadd hx hb dL_law_364 ?_
                              obtain ⟨g_116, h⟩ := gd_e h
                              refine va_sld hx hb hX hbl hbA hS g_116 dL_law_365 ?_
                              obtain ⟨q_117, I_118, hc_119, h⟩ := clP_e h
                              refine r_callV (As := [.int (xs (v3 + (1 : Int32)).toNatClampNeg)]) [.int q_113] X (c7_approximateInterval l g hG N _ _ _ tgl_81 _ _ hc_119) cal_X7_approximateInterval (im_X7_approximateInterval) (se_X7_approximateInterval) k_716 (tag_lt tgl_81 (by decide)) (by rw [lay, tgl_81]; rfl) rfl rfl ⟨rfl, rfl⟩ ⟨Nat.le_of_ble_eq_true rfl, Nat.le_of_ble_eq_true rfl⟩ hP hS hl.1 rfl (Nat.le_of_ble_eq_true rfl) dL_law_366 ⟨Nat.le_of_ble_eq_true rfl, Nat.le_of_ble_eq_true rfl⟩ (fun H locs hP hS => ?_)
                              show W p l e room_1 s m #[Value.ref b] below meth c H locs 90 3493 _ (F0 m 369 ls [.int q_117, .int q_113])
                              refine lv_icmp_eq (tgt := 858) hx hb dL_law_369 (by decide) (fun c_120 => ?_) (fun c_120 => ?_)
                              · replace h := ifp c_120 h
                                obtain ⟨x_121, ex_121, h⟩ := letM_e h
                                refine lv_iinc (v := x_121) (lv' := [(3, .int x_121), (0, .ref b), (1, .ref (ga g 0)), (2, .ref (ga g 81))]) hx hb dL_law_858 hl (k := 3) rfl (by rw [ex_121]; rfl) (by decide) rfl (fun ls hl => ?_)
                                refine lv_goto (tgt := 18) hx hb dL_law_861 (by decide) ?_
                                exact ih I_118 x_121 h _ _ _ hP hS (lv_sub hl [1, 2, 3, 0] rfl)
                              · replace h := ifn c_120 h
                                refine lv_iconst (v := (0 : Int32)) hx hb dL_law_372 (by decide +kernel) ?_
                                have hv1 := Option.some.inj h
                                exact absurd hv1 (by decide)
                            · replace h := ifn c_111 h
                              by_cases c_122 : x_3 = nI 12
                              · replace h := ifp c_122 h
                                refine lv_tableIn (off := 342) (tgt := 374) hx hb dL_law_32 (by rw [c_122]; decide +kernel) (by rw [c_122]; decide +kernel) (by rw [c_122]; decide +kernel) (by decide) ?_
                                refine lv_aload_n hx hb dL_law_374 rfl (lv_at hl 1 rfl) ?_
                                refine lv_aload_n hx hb dL_law_375 rfl (lv_at hl 0 rfl) ?_
                                refine lv_iload_n hx hb dL_law_376 rfl (lv_at hl 3 rfl) ?_
                                refine lv_iconst (v := (1 : Int32)) hx hb dL_law_377 (by decide +kernel) ?_
                                refine lv_iadd hx hb dL_law_378 ?_
                                obtain ⟨g_123, h⟩ := gd_e h
                                refine va_sld hx hb hX hbl hbA hS g_123 dL_law_379 ?_
                                obtain ⟨q_124, I_125, hc_126, h⟩ := clP_e h
                                refine r_callV (As := [.int (xs (v3 + (1 : Int32)).toNatClampNeg)]) [] X (c6_setAcceleration l g hG N _ _ _ tgl_0 _ _ hc_126) cal_X6_setAcceleration (im_X6_setAcceleration) (se_X6_setAcceleration) k_365 (tag_lt tgl_0 (by decide)) (by rw [lay, tgl_0]; rfl) rfl rfl ⟨rfl, rfl⟩ ⟨Nat.le_of_ble_eq_true rfl, Nat.le_of_ble_eq_true rfl⟩ hP hS hl.1 rfl (Nat.le_of_ble_eq_true rfl) dL_law_380 ⟨Nat.le_of_ble_eq_true rfl, Nat.le_of_ble_eq_true rfl⟩ (fun H locs hP hS => ?_)
                                show W p l e room_1 s m #[Value.ref b] below meth c H locs 90 3493 _ (F0 m 383 ls [.int q_124])
                                refine lv_aload_n hx hb dL_law_383 rfl (lv_at hl 2 rfl) ?_
                                refine lv_aload_n hx hb dL_law_384 rfl (lv_at hl 0 rfl) ?_
                                refine lv_iload_n hx hb dL_law_385 rfl (lv_at hl 3 rfl) ?_
                                refine lv_iconst (v := (1 : Int32)) hx hb dL_law_386 (by decide +kernel) ?_
                                refine lv_iadd hx hb dL_law_387 ?_
                                obtain ⟨g_127, h⟩ := gd_e h
                                refine va_sld hx hb hX hbl hbA hS g_127 dL_law_388 ?_
                                obtain ⟨q_128, I_129, hc_130, h⟩ := clP_e h
                                refine r_callV (As := [.int (xs (v3 + (1 : Int32)).toNatClampNeg)]) [.int q_124] X (c7_setAcceleration l g hG N _ _ _ tgl_81 _ _ hc_130) cal_X7_setAcceleration (im_X7_setAcceleration) (se_X7_setAcceleration) k_720 (tag_lt tgl_81 (by decide)) (by rw [lay, tgl_81]; rfl) rfl rfl ⟨rfl, rfl⟩ ⟨Nat.le_of_ble_eq_true rfl, Nat.le_of_ble_eq_true rfl⟩ hP hS hl.1 rfl (Nat.le_of_ble_eq_true rfl) dL_law_389 ⟨Nat.le_of_ble_eq_true rfl, Nat.le_of_ble_eq_true rfl⟩ (fun H locs hP hS => ?_)
                                show W p l e room_1 s m #[Value.ref b] below meth c H locs 90 3493 _ (F0 m 392 ls [.int q_128, .int q_124])
                                refine lv_icmp_eq (tgt := 858) hx hb dL_law_392 (by decide) (fun c_131 => ?_) (fun c_131 => ?_)
                                · replace h := ifp c_131 h
                                  obtain ⟨x_132, ex_132, h⟩ := letM_e h
                                  refine lv_iinc (v := x_132) (lv' := [(3, .int x_132), (0, .ref b), (1, .ref (ga g 0)), (2, .ref (ga g 81))]) hx hb dL_law_858 hl (k := 3) rfl (by rw [ex_132]; rfl) (by decide) rfl (fun ls hl => ?_)
                                  refine lv_goto (tgt := 18) hx hb dL_law_861 (by decide) ?_
                                  exact ih I_129 x_132 h _ _ _ hP hS (lv_sub hl [1, 2, 3, 0] rfl)
                                · replace h := ifn c_131 h
                                  refine lv_iconst (v := (0 : Int32)) hx hb dL_law_395 (by decide +kernel) ?_
                                  have hv1 := Option.some.inj h
                                  exact absurd hv1 (by decide)
                              · replace h := ifn c_122 h
                                by_cases c_133 : x_3 = nI 13
                                · replace h := ifp c_133 h
                                  refine lv_tableIn (off := 365) (tgt := 397) hx hb dL_law_32 (by rw [c_133]; decide +kernel) (by rw [c_133]; decide +kernel) (by rw [c_133]; decide +kernel) (by decide) ?_
                                  refine lv_aload_n hx hb dL_law_397 rfl (lv_at hl 1 rfl) ?_
                                  refine lv_aload_n hx hb dL_law_398 rfl (lv_at hl 0 rfl) ?_
                                  refine lv_iload_n hx hb dL_law_399 rfl (lv_at hl 3 rfl) ?_
                                  refine lv_iconst (v := (1 : Int32)) hx hb dL_law_400 (by decide +kernel) ?_
                                  refine lv_iadd hx hb dL_law_401 ?_
                                  obtain ⟨g_134, h⟩ := gd_e h
                                  refine va_sld hx hb hX hbl hbA hS g_134 dL_law_402 ?_
                                  obtain ⟨q_135, I_136, hc_137, h⟩ := clP_e h
                                  refine r_callV (As := [.int (xs (v3 + (1 : Int32)).toNatClampNeg)]) [] X (c6_setSpeedLimit l g hG N _ _ _ tgl_0 _ _ hc_137) cal_X6_setSpeedLimit (im_X6_setSpeedLimit) (se_X6_setSpeedLimit) k_387 (tag_lt tgl_0 (by decide)) (by rw [lay, tgl_0]; rfl) rfl rfl ⟨rfl, rfl⟩ ⟨Nat.le_of_ble_eq_true rfl, Nat.le_of_ble_eq_true rfl⟩ hP hS hl.1 rfl (Nat.le_of_ble_eq_true rfl) dL_law_403 ⟨Nat.le_of_ble_eq_true rfl, Nat.le_of_ble_eq_true rfl⟩ (fun H locs hP hS => ?_)
                                  show W p l e room_1 s m #[Value.ref b] below meth c H locs 90 3493 _ (F0 m 406 ls [.int q_135])
                                  refine lv_aload_n hx hb dL_law_406 rfl (lv_at hl 2 rfl) ?_
                                  refine lv_aload_n hx hb dL_law_407 rfl (lv_at hl 0 rfl) ?_
                                  refine lv_iload_n hx hb dL_law_408 rfl (lv_at hl 3 rfl) ?_
                                  refine lv_iconst (v := (1 : Int32)) hx hb dL_law_409 (by decide +kernel) ?_
                                  refine lv_iadd hx hb dL_law_410 ?_
                                  obtain ⟨g_138, h⟩ := gd_e h
                                  refine va_sld hx hb hX hbl hbA hS g_138 dL_law_411 ?_
                                  obtain ⟨q_139, I_140, hc_141, h⟩ := clP_e h
                                  refine r_callV (As := [.int (xs (v3 + (1 : Int32)).toNatClampNeg)]) [.int q_135] X (c7_setSpeedLimit l g hG N _ _ _ tgl_81 _ _ hc_141) cal_X7_setSpeedLimit (im_X7_setSpeedLimit) (se_X7_setSpeedLimit) k_728 (tag_lt tgl_81 (by decide)) (by rw [lay, tgl_81]; rfl) rfl rfl ⟨rfl, rfl⟩ ⟨Nat.le_of_ble_eq_true rfl, Nat.le_of_ble_eq_true rfl⟩ hP hS hl.1 rfl (Nat.le_of_ble_eq_true rfl) dL_law_412 ⟨Nat.le_of_ble_eq_true rfl, Nat.le_of_ble_eq_true rfl⟩ (fun H locs hP hS => ?_)
                                  show W p l e room_1 s m #[Value.ref b] below meth c H locs 90 3493 _ (F0 m 415 ls [.int q_139, .int q_135])
                                  refine lv_icmp_eq (tgt := 858) hx hb dL_law_415 (by decide) (fun c_142 => ?_) (fun c_142 => ?_)
                                  · replace h := ifp c_142 h
                                    obtain ⟨x_143, ex_143, h⟩ := letM_e h
                                    refine lv_iinc (v := x_143) (lv' := [(3, .int x_143), (0, .ref b), (1, .ref (ga g 0)), (2, .ref (ga g 81))]) hx hb dL_law_858 hl (k := 3) rfl (by rw [ex_143]; rfl) (by decide) rfl (fun ls hl => ?_)
                                    refine lv_goto (tgt := 18) hx hb dL_law_861 (by decide) ?_
                                    exact ih I_140 x_143 h _ _ _ hP hS (lv_sub hl [1, 2, 3, 0] rfl)
                                  · replace h := ifn c_142 h
                                    refine lv_iconst (v := (0 : Int32)) hx hb dL_law_418 (by decide +kernel) ?_
                                    have hv1 := Option.some.inj h
                                    exact absurd hv1 (by decide)
                                · replace h := ifn c_133 h
                                  by_cases c_144 : x_3 = nI 14
                                  · replace h := ifp c_144 h
                                    refine lv_tableIn (off := 388) (tgt := 420) hx hb dL_law_32 (by rw [c_144]; decide +kernel) (by rw [c_144]; decide +kernel) (by rw [c_144]; decide +kernel) (by decide) ?_
                                    refine lv_aload_n hx hb dL_law_420 rfl (lv_at hl 1 rfl) ?_
                                    refine lv_aload_n hx hb dL_law_421 rfl (lv_at hl 0 rfl) ?_
                                    refine lv_iload_n hx hb dL_law_422 rfl (lv_at hl 3 rfl) ?_
                                    refine lv_iconst (v := (1 : Int32)) hx hb dL_law_423 (by decide +kernel) ?_
                                    refine lv_iadd hx hb dL_law_424 ?_
                                    obtain ⟨g_145, h⟩ := gd_e h
                                    refine va_sld hx hb hX hbl hbA hS g_145 dL_law_425 ?_
                                    refine lv_aload_n hx hb dL_law_426 rfl (lv_at hl 0 rfl) ?_
                                    refine lv_iload_n hx hb dL_law_427 rfl (lv_at hl 3 rfl) ?_
                                    refine lv_iconst (v := (2 : Int32)) hx hb dL_law_428 (by decide +kernel) ?_
                                    refine lv_iadd hx hb dL_law_429 ?_
                                    obtain ⟨g_146, h⟩ := gd_e h
                                    refine va_sld hx hb hX hbl hbA hS g_146 dL_law_430 ?_
                                    obtain ⟨q_147, I_148, hc_149, h⟩ := clP_e h
                                    refine r_callV (As := [.int (xs (v3 + (1 : Int32)).toNatClampNeg), .int (xs (v3 + (2 : Int32)).toNatClampNeg)]) [] X (c6_addMove l g hG N _ _ _ _ tgl_0 _ _ hc_149) cal_X6_addMove (im_X6_addMove) (se_X6_addMove) k_391 (tag_lt tgl_0 (by decide)) (by rw [lay, tgl_0]; rfl) rfl rfl ⟨rfl, rfl⟩ ⟨Nat.le_of_ble_eq_true rfl, Nat.le_of_ble_eq_true rfl⟩ hP hS hl.1 rfl (Nat.le_of_ble_eq_true rfl) dL_law_431 ⟨Nat.le_of_ble_eq_true rfl, Nat.le_of_ble_eq_true rfl⟩ (fun H locs hP hS => ?_)
                                    show W p l e room_1 s m #[Value.ref b] below meth c H locs 90 3493 _ (F0 m 434 ls [.int q_147])
                                    refine lv_aload_n hx hb dL_law_434 rfl (lv_at hl 2 rfl) ?_
                                    refine lv_aload_n hx hb dL_law_435 rfl (lv_at hl 0 rfl) ?_
                                    refine lv_iload_n hx hb dL_law_436 rfl (lv_at hl 3 rfl) ?_
                                    refine lv_iconst (v := (1 : Int32)) hx hb dL_law_437 (by decide +kernel) ?_
                                    refine lv_iadd hx hb dL_law_438 ?_
                                    obtain ⟨g_150, h⟩ := gd_e h
                                    refine va_sld hx hb hX hbl hbA hS g_150 dL_law_439 ?_
                                    refine lv_aload_n hx hb dL_law_440 rfl (lv_at hl 0 rfl) ?_
                                    refine lv_iload_n hx hb dL_law_441 rfl (lv_at hl 3 rfl) ?_
                                    refine lv_iconst (v := (2 : Int32)) hx hb dL_law_442 (by decide +kernel) ?_
                                    refine lv_iadd hx hb dL_law_443 ?_
                                    obtain ⟨g_151, h⟩ := gd_e h
                                    refine va_sld hx hb hX hbl hbA hS g_151 dL_law_444 ?_
                                    obtain ⟨q_152, I_153, hc_154, h⟩ := clP_e h
                                    refine r_callV (As := [.int (xs (v3 + (1 : Int32)).toNatClampNeg), .int (xs (v3 + (2 : Int32)).toNatClampNeg)]) [.int q_147] X (c7_addMove l g hG N _ _ _ _ tgl_81 _ _ hc_154) cal_X7_addMove (im_X7_addMove) (se_X7_addMove) k_732 (tag_lt tgl_81 (by decide)) (by rw [lay, tgl_81]; rfl) rfl rfl ⟨rfl, rfl⟩ ⟨Nat.le_of_ble_eq_true rfl, Nat.le_of_ble_eq_true rfl⟩ hP hS hl.1 rfl (Nat.le_of_ble_eq_true rfl) dL_law_445 ⟨Nat.le_of_ble_eq_true rfl, Nat.le_of_ble_eq_true rfl⟩ (fun H locs hP hS => ?_)
                                    show W p l e room_1 s m #[Value.ref b] below meth c H locs 90 3493 _ (F0 m 448 ls [.int q_152, .int q_147])
                                    refine lv_icmp_eq (tgt := 858) hx hb dL_law_448 (by decide) (fun c_155 => ?_) (fun c_155 => ?_)
                                    · replace h := ifp c_155 h
                                      obtain ⟨x_156, ex_156, h⟩ := letM_e h
                                      refine lv_iinc (v := x_156) (lv' := [(3, .int x_156), (0, .ref b), (1, .ref (ga g 0)), (2, .ref (ga g 81))]) hx hb dL_law_858 hl (k := 3) rfl (by rw [ex_156]; rfl) (by decide) rfl (fun ls hl => ?_)
                                      refine lv_goto (tgt := 18) hx hb dL_law_861 (by decide) ?_
                                      exact ih I_153 x_156 h _ _ _ hP hS (lv_sub hl [1, 2, 3, 0] rfl)
                                    · replace h := ifn c_155 h
                                      refine lv_iconst (v := (0 : Int32)) hx hb dL_law_451 (by decide +kernel) ?_
                                      have hv1 := Option.some.inj h
                                      exact absurd hv1 (by decide)
                                  · replace h := ifn c_144 h
                                    by_cases c_157 : x_3 = nI 15
                                    · replace h := ifp c_157 h
                                      refine lv_tableIn (off := 421) (tgt := 453) hx hb dL_law_32 (by rw [c_157]; decide +kernel) (by rw [c_157]; decide +kernel) (by rw [c_157]; decide +kernel) (by decide) ?_
                                      refine lv_aload_n hx hb dL_law_453 rfl (lv_at hl 1 rfl) ?_
                                      refine lv_aload_n hx hb dL_law_454 rfl (lv_at hl 0 rfl) ?_
                                      refine lv_iload_n hx hb dL_law_455 rfl (lv_at hl 3 rfl) ?_
                                      refine lv_iconst (v := (1 : Int32)) hx hb dL_law_456 (by decide +kernel) ?_
                                      refine lv_iadd hx hb dL_law_457 ?_
                                      obtain ⟨g_158, h⟩ := gd_e h
                                      refine va_sld hx hb hX hbl hbA hS g_158 dL_law_458 ?_
                                      obtain ⟨q_159, I_160, hc_161, h⟩ := clP_e h
                                      refine r_callV (As := [.int (xs (v3 + (1 : Int32)).toNatClampNeg)]) [] X (c6_addWait l g hG N _ _ _ tgl_0 _ _ hc_161) cal_X6_addWait (im_X6_addWait) (se_X6_addWait) k_400 (tag_lt tgl_0 (by decide)) (by rw [lay, tgl_0]; rfl) rfl rfl ⟨rfl, rfl⟩ ⟨Nat.le_of_ble_eq_true rfl, Nat.le_of_ble_eq_true rfl⟩ hP hS hl.1 rfl (Nat.le_of_ble_eq_true rfl) dL_law_459 ⟨Nat.le_of_ble_eq_true rfl, Nat.le_of_ble_eq_true rfl⟩ (fun H locs hP hS => ?_)
                                      show W p l e room_1 s m #[Value.ref b] below meth c H locs 90 3493 _ (F0 m 462 ls [.int q_159])
                                      refine lv_aload_n hx hb dL_law_462 rfl (lv_at hl 2 rfl) ?_
                                      refine lv_aload_n hx hb dL_law_463 rfl (lv_at hl 0 rfl) ?_
                                      refine lv_iload_n hx hb dL_law_464 rfl (lv_at hl 3 rfl) ?_
                                      refine lv_iconst (v := (1 : Int32)) hx hb dL_law_465 (by decide +kernel) ?_
                                      refine lv_iadd hx hb dL_law_466 ?_
                                      obtain ⟨g_162, h⟩ := gd_e h
                                      refine va_sld hx hb hX hbl hbA hS g_162 dL_law_467 ?_
                                      obtain ⟨q_163, I_164, hc_165, h⟩ := clP_e h
                                      refine r_callV (As := [.int (xs (v3 + (1 : Int32)).toNatClampNeg)]) [.int q_159] X (c7_addWait l g hG N _ _ _ tgl_81 _ _ hc_165) cal_X7_addWait (im_X7_addWait) (se_X7_addWait) k_740 (tag_lt tgl_81 (by decide)) (by rw [lay, tgl_81]; rfl) rfl rfl ⟨rfl, rfl⟩ ⟨Nat.le_of_ble_eq_true rfl, Nat.le_of_ble_eq_true rfl⟩ hP hS hl.1 rfl (Nat.le_of_ble_eq_true rfl) dL_law_468 ⟨Nat.le_of_ble_eq_true rfl, Nat.le_of_ble_eq_true rfl⟩ (fun H locs hP hS => ?_)
                                      show W p l e room_1 s m #[Value.ref b] below meth c H locs 90 3493 _ (F0 m 471 ls [.int q_163, .int q_159])
                                      refine lv_icmp_eq (tgt := 858) hx hb dL_law_471 (by decide) (fun c_166 => ?_) (fun c_166 => ?_)
                                      · replace h := ifp c_166 h
                                        obtain ⟨x_167, ex_167, h⟩ := letM_e h
                                        refine lv_iinc (v := x_167) (lv' := [(3, .int x_167), (0, .ref b), (1, .ref (ga g 0)), (2, .ref (ga g 81))]) hx hb dL_law_858 hl (k := 3) rfl (by rw [ex_167]; rfl) (by decide) rfl (fun ls hl => ?_)
                                        refine lv_goto (tgt := 18) hx hb dL_law_861 (by decide) ?_
                                        exact ih I_164 x_167 h _ _ _ hP hS (lv_sub hl [1, 2, 3, 0] rfl)
                                      · replace h := ifn c_166 h
                                        refine lv_iconst (v := (0 : Int32)) hx hb dL_law_474 (by decide +kernel) ?_
                                        have hv1 := Option.some.inj h
                                        exact absurd hv1 (by decide)
                                    · replace h := ifn c_157 h
                                      by_cases c_168 : x_3 = nI 16
                                      · replace h := ifp c_168 h
                                        refine lv_tableIn (off := 444) (tgt := 476) hx hb dL_law_32 (by rw [c_168]; decide +kernel) (by rw [c_168]; decide +kernel) (by rw [c_168]; decide +kernel) (by decide) ?_
                                        refine lv_aload_n hx hb dL_law_476 rfl (lv_at hl 1 rfl) ?_
                                        obtain ⟨q_169, I_170, hc_171, h⟩ := clP_e h
                                        refine r_callV (As := []) [] X (c6_step l g hG N _ _ tgl_0 _ _ hc_171) cal_X6_step (im_X6_step) (se_X6_step) k_404 (tag_lt tgl_0 (by decide)) (by rw [lay, tgl_0]; rfl) rfl rfl ⟨rfl, rfl⟩ ⟨Nat.le_of_ble_eq_true rfl, Nat.le_of_ble_eq_true rfl⟩ hP hS hl.1 rfl (Nat.le_of_ble_eq_true rfl) dL_law_477 ⟨Nat.le_of_ble_eq_true rfl, Nat.le_of_ble_eq_true rfl⟩ (fun H locs hP hS => ?_)
                                        show W p l e room_1 s m #[Value.ref b] below meth c H locs 90 3493 _ (F0 m 480 ls [.int q_169])
                                        refine lv_aload_n hx hb dL_law_480 rfl (lv_at hl 2 rfl) ?_
                                        obtain ⟨q_172, I_173, hc_174, h⟩ := clP_e h
                                        refine r_callV (As := []) [.int q_169] X (c7_step l g hG N _ _ tgl_81 _ _ hc_174) cal_X7_step (im_X7_step) (se_X7_step) k_745 (tag_lt tgl_81 (by decide)) (by rw [lay, tgl_81]; rfl) rfl rfl ⟨rfl, rfl⟩ ⟨Nat.le_of_ble_eq_true rfl, Nat.le_of_ble_eq_true rfl⟩ hP hS hl.1 rfl (Nat.le_of_ble_eq_true rfl) dL_law_481 ⟨Nat.le_of_ble_eq_true rfl, Nat.le_of_ble_eq_true rfl⟩ (fun H locs hP hS => ?_)
                                        show W p l e room_1 s m #[Value.ref b] below meth c H locs 90 3493 _ (F0 m 484 ls [.int q_172, .int q_169])
                                        refine lv_icmp_eq (tgt := 858) hx hb dL_law_484 (by decide) (fun c_175 => ?_) (fun c_175 => ?_)
                                        · replace h := ifp c_175 h
                                          obtain ⟨x_176, ex_176, h⟩ := letM_e h
                                          refine lv_iinc (v := x_176) (lv' := [(3, .int x_176), (0, .ref b), (1, .ref (ga g 0)), (2, .ref (ga g 81))]) hx hb dL_law_858 hl (k := 3) rfl (by rw [ex_176]; rfl) (by decide) rfl (fun ls hl => ?_)
                                          refine lv_goto (tgt := 18) hx hb dL_law_861 (by decide) ?_
                                          exact ih I_173 x_176 h _ _ _ hP hS (lv_sub hl [1, 2, 3, 0] rfl)
                                        · replace h := ifn c_175 h
                                          refine lv_iconst (v := (0 : Int32)) hx hb dL_law_487 (by decide +kernel) ?_
                                          have hv1 := Option.some.inj h
                                          exact absurd hv1 (by decide)
                                      · replace h := ifn c_168 h
                                        by_cases c_177 : x_3 = nI 17
                                        · replace h := ifp c_177 h
                                          refine lv_tableIn (off := 457) (tgt := 489) hx hb dL_law_32 (by rw [c_177]; decide +kernel) (by rw [c_177]; decide +kernel) (by rw [c_177]; decide +kernel) (by decide) ?_
                                          refine lv_aload_n hx hb dL_law_489 rfl (lv_at hl 1 rfl) ?_
                                          refine lv_aload_n hx hb dL_law_490 rfl (lv_at hl 0 rfl) ?_
                                          refine lv_iload_n hx hb dL_law_491 rfl (lv_at hl 3 rfl) ?_
                                          refine lv_iconst (v := (1 : Int32)) hx hb dL_law_492 (by decide +kernel) ?_
                                          refine lv_iadd hx hb dL_law_493 ?_
                                          obtain ⟨g_178, h⟩ := gd_e h
                                          refine va_sld hx hb hX hbl hbA hS g_178 dL_law_494 ?_
                                          obtain ⟨q_179, I_180, hc_181, h⟩ := clP_e h
                                          refine r_callV (As := [.int (xs (v3 + (1 : Int32)).toNatClampNeg)]) [] X (c6_run l g hG N _ _ _ tgl_0 _ _ hc_181) cal_X6_run (im_X6_run) (se_X6_run) k_454 (tag_lt tgl_0 (by decide)) (by rw [lay, tgl_0]; rfl) rfl rfl ⟨rfl, rfl⟩ ⟨Nat.le_of_ble_eq_true rfl, Nat.le_of_ble_eq_true rfl⟩ hP hS hl.1 rfl (Nat.le_of_ble_eq_true rfl) dL_law_495 ⟨Nat.le_of_ble_eq_true rfl, Nat.le_of_ble_eq_true rfl⟩ (fun H locs hP hS => ?_)
                                          show W p l e room_1 s m #[Value.ref b] below meth c H locs 90 3493 _ (F0 m 498 ls [.int q_179])
                                          refine lv_aload_n hx hb dL_law_498 rfl (lv_at hl 2 rfl) ?_
                                          refine lv_aload_n hx hb dL_law_499 rfl (lv_at hl 0 rfl) ?_
                                          refine lv_iload_n hx hb dL_law_500 rfl (lv_at hl 3 rfl) ?_
                                          refine lv_iconst (v := (1 : Int32)) hx hb dL_law_501 (by decide +kernel) ?_
                                          refine lv_iadd hx hb dL_law_502 ?_
                                          obtain ⟨g_182, h⟩ := gd_e h
                                          refine va_sld hx hb hX hbl hbA hS g_182 dL_law_503 ?_
                                          obtain ⟨q_183, I_184, hc_185, h⟩ := clP_e h
                                          refine r_callV (As := [.int (xs (v3 + (1 : Int32)).toNatClampNeg)]) [.int q_179] X (c7_run l g hG N _ _ _ tgl_81 _ _ hc_185) cal_X7_run (im_X7_run) (se_X7_run) k_773 (tag_lt tgl_81 (by decide)) (by rw [lay, tgl_81]; rfl) rfl rfl ⟨rfl, rfl⟩ ⟨Nat.le_of_ble_eq_true rfl, Nat.le_of_ble_eq_true rfl⟩ hP hS hl.1 rfl (Nat.le_of_ble_eq_true rfl) dL_law_504 ⟨Nat.le_of_ble_eq_true rfl, Nat.le_of_ble_eq_true rfl⟩ (fun H locs hP hS => ?_)
                                          show W p l e room_1 s m #[Value.ref b] below meth c H locs 90 3493 _ (F0 m 507 ls [.int q_183, .int q_179])
                                          refine lv_icmp_eq (tgt := 858) hx hb dL_law_507 (by decide) (fun c_186 => ?_) (fun c_186 => ?_)
                                          · replace h := ifp c_186 h
                                            obtain ⟨x_187, ex_187, h⟩ := letM_e h
                                            refine lv_iinc (v := x_187) (lv' := [(3, .int x_187), (0, .ref b), (1, .ref (ga g 0)), (2, .ref (ga g 81))]) hx hb dL_law_858 hl (k := 3) rfl (by rw [ex_187]; rfl) (by decide) rfl (fun ls hl => ?_)
                                            refine lv_goto (tgt := 18) hx hb dL_law_861 (by decide) ?_
                                            exact ih I_184 x_187 h _ _ _ hP hS (lv_sub hl [1, 2, 3, 0] rfl)
                                          · replace h := ifn c_186 h
                                            refine lv_iconst (v := (0 : Int32)) hx hb dL_law_510 (by decide +kernel) ?_
                                            have hv1 := Option.some.inj h
                                            exact absurd hv1 (by decide)
                                        · replace h := ifn c_177 h
                                          by_cases c_188 : x_3 = nI 18
                                          · replace h := ifp c_188 h
                                            refine lv_tableIn (off := 480) (tgt := 512) hx hb dL_law_32 (by rw [c_188]; decide +kernel) (by rw [c_188]; decide +kernel) (by rw [c_188]; decide +kernel) (by decide) ?_
                                            refine lv_aload_n hx hb dL_law_512 rfl (lv_at hl 1 rfl) ?_
                                            obtain ⟨q_189, I_190, hc_191, h⟩ := clP_e h
                                            refine r_callV (As := []) [] X (c6_stop l g hG N _ _ tgl_0 _ _ hc_191) cal_X6_stop (im_X6_stop) (se_X6_stop) k_459 (tag_lt tgl_0 (by decide)) (by rw [lay, tgl_0]; rfl) rfl rfl ⟨rfl, rfl⟩ ⟨Nat.le_of_ble_eq_true rfl, Nat.le_of_ble_eq_true rfl⟩ hP hS hl.1 rfl (Nat.le_of_ble_eq_true rfl) dL_law_513 ⟨Nat.le_of_ble_eq_true rfl, Nat.le_of_ble_eq_true rfl⟩ (fun H locs hP hS => ?_)
                                            show W p l e room_1 s m #[Value.ref b] below meth c H locs 90 3493 _ (F0 m 516 ls [.int q_189])
                                            refine lv_aload_n hx hb dL_law_516 rfl (lv_at hl 2 rfl) ?_
                                            obtain ⟨q_192, I_193, hc_194, h⟩ := clP_e h
                                            refine r_callV (As := []) [.int q_189] X (c7_stop l g hG N _ _ tgl_81 _ _ hc_194) cal_X7_stop (im_X7_stop) (se_X7_stop) k_782 (tag_lt tgl_81 (by decide)) (by rw [lay, tgl_81]; rfl) rfl rfl ⟨rfl, rfl⟩ ⟨Nat.le_of_ble_eq_true rfl, Nat.le_of_ble_eq_true rfl⟩ hP hS hl.1 rfl (Nat.le_of_ble_eq_true rfl) dL_law_517 ⟨Nat.le_of_ble_eq_true rfl, Nat.le_of_ble_eq_true rfl⟩ (fun H locs hP hS => ?_)
                                            show W p l e room_1 s m #[Value.ref b] below meth c H locs 90 3493 _ (F0 m 520 ls [.int q_192, .int q_189])
                                            refine lv_icmp_eq (tgt := 858) hx hb dL_law_520 (by decide) (fun c_195 => ?_) (fun c_195 => ?_)
                                            · replace h := ifp c_195 h
                                              obtain ⟨x_196, ex_196, h⟩ := letM_e h
                                              refine lv_iinc (v := x_196) (lv' := [(3, .int x_196), (0, .ref b), (1, .ref (ga g 0)), (2, .ref (ga g 81))]) hx hb dL_law_858 hl (k := 3) rfl (by rw [ex_196]; rfl) (by decide) rfl (fun ls hl => ?_)
                                              refine lv_goto (tgt := 18) hx hb dL_law_861 (by decide) ?_
                                              exact ih I_193 x_196 h _ _ _ hP hS (lv_sub hl [1, 2, 3, 0] rfl)
                                            · replace h := ifn c_195 h
                                              refine lv_iconst (v := (0 : Int32)) hx hb dL_law_523 (by decide +kernel) ?_
                                              have hv1 := Option.some.inj h
                                              exact absurd hv1 (by decide)
                                          · replace h := ifn c_188 h
                                            by_cases c_197 : x_3 = nI 19
                                            · replace h := ifp c_197 h
                                              refine lv_tableIn (off := 493) (tgt := 525) hx hb dL_law_32 (by rw [c_197]; decide +kernel) (by rw [c_197]; decide +kernel) (by rw [c_197]; decide +kernel) (by decide) ?_
                                              refine lv_aload_n hx hb dL_law_525 rfl (lv_at hl 1 rfl) ?_
                                              refine lv_aload_n hx hb dL_law_526 rfl (lv_at hl 0 rfl) ?_
                                              refine lv_iload_n hx hb dL_law_527 rfl (lv_at hl 3 rfl) ?_
                                              refine lv_iconst (v := (1 : Int32)) hx hb dL_law_528 (by decide +kernel) ?_
                                              refine lv_iadd hx hb dL_law_529 ?_
                                              obtain ⟨g_198, h⟩ := gd_e h
                                              refine va_sld hx hb hX hbl hbA hS g_198 dL_law_530 ?_
                                              obtain ⟨q_199, I_200, hc_201, h⟩ := clP_e h
                                              refine r_callV (As := [.int (xs (v3 + (1 : Int32)).toNatClampNeg)]) [] X (c6_removeItem l g hG N _ _ _ tgl_0 _ _ hc_201) cal_X6_removeItem (im_X6_removeItem) (se_X6_removeItem) k_467 (tag_lt tgl_0 (by decide)) (by rw [lay, tgl_0]; rfl) rfl rfl ⟨rfl, rfl⟩ ⟨Nat.le_of_ble_eq_true rfl, Nat.le_of_ble_eq_true rfl⟩ hP hS hl.1 rfl (Nat.le_of_ble_eq_true rfl) dL_law_531 ⟨Nat.le_of_ble_eq_true rfl, Nat.le_of_ble_eq_true rfl⟩ (fun H locs hP hS => ?_)
                                              show W p l e room_1 s m #[Value.ref b] below meth c H locs 90 3493 _ (F0 m 534 ls [.int q_199])
                                              refine lv_aload_n hx hb dL_law_534 rfl (lv_at hl 2 rfl) ?_
                                              refine lv_aload_n hx hb dL_law_535 rfl (lv_at hl 0 rfl) ?_
                                              refine lv_iload_n hx hb dL_law_536 rfl (lv_at hl 3 rfl) ?_
                                              refine lv_iconst (v := (1 : Int32)) hx hb dL_law_537 (by decide +kernel) ?_
                                              refine lv_iadd hx hb dL_law_538 ?_
                                              obtain ⟨g_202, h⟩ := gd_e h
                                              refine va_sld hx hb hX hbl hbA hS g_202 dL_law_539 ?_
                                              obtain ⟨q_203, I_204, hc_205, h⟩ := clP_e h
                                              refine r_callV (As := [.int (xs (v3 + (1 : Int32)).toNatClampNeg)]) [.int q_199] X (c7_removeItem l g hG N _ _ _ tgl_81 _ _ hc_205) cal_X7_removeItem (im_X7_removeItem) (se_X7_removeItem) k_789 (tag_lt tgl_81 (by decide)) (by rw [lay, tgl_81]; rfl) rfl rfl ⟨rfl, rfl⟩ ⟨Nat.le_of_ble_eq_true rfl, Nat.le_of_ble_eq_true rfl⟩ hP hS hl.1 rfl (Nat.le_of_ble_eq_true rfl) dL_law_540 ⟨Nat.le_of_ble_eq_true rfl, Nat.le_of_ble_eq_true rfl⟩ (fun H locs hP hS => ?_)
                                              show W p l e room_1 s m #[Value.ref b] below meth c H locs 90 3493 _ (F0 m 543 ls [.int q_203, .int q_199])
                                              refine lv_icmp_eq (tgt := 858) hx hb dL_law_543 (by decide) (fun c_206 => ?_) (fun c_206 => ?_)
                                              · replace h := ifp c_206 h
                                                obtain ⟨x_207, ex_207, h⟩ := letM_e h
                                                refine lv_iinc (v := x_207) (lv' := [(3, .int x_207), (0, .ref b), (1, .ref (ga g 0)), (2, .ref (ga g 81))]) hx hb dL_law_858 hl (k := 3) rfl (by rw [ex_207]; rfl) (by decide) rfl (fun ls hl => ?_)
                                                refine lv_goto (tgt := 18) hx hb dL_law_861 (by decide) ?_
                                                exact ih I_204 x_207 h _ _ _ hP hS (lv_sub hl [1, 2, 3, 0] rfl)
                                              · replace h := ifn c_206 h
                                                refine lv_iconst (v := (0 : Int32)) hx hb dL_law_546 (by decide +kernel) ?_
                                                have hv1 := Option.some.inj h
                                                exact absurd hv1 (by decide)
                                            · replace h := ifn c_197 h
                                              by_cases c_208 : x_3 = nI 20
                                              · replace h := ifp c_208 h
                                                refine lv_tableIn (off := 516) (tgt := 548) hx hb dL_law_32 (by rw [c_208]; decide +kernel) (by rw [c_208]; decide +kernel) (by rw [c_208]; decide +kernel) (by decide) ?_
                                                refine lv_aload_n hx hb dL_law_548 rfl (lv_at hl 1 rfl) ?_
                                                obtain ⟨q_209, I_210, hc_211, h⟩ := clP_e h
                                                refine r_callV (As := []) [] X (c6_undo l g hG N _ _ tgl_0 _ _ hc_211) cal_X6_undo (im_X6_undo) (se_X6_undo) k_472 (tag_lt tgl_0 (by decide)) (by rw [lay, tgl_0]; rfl) rfl rfl ⟨rfl, rfl⟩ ⟨Nat.le_of_ble_eq_true rfl, Nat.le_of_ble_eq_true rfl⟩ hP hS hl.1 rfl (Nat.le_of_ble_eq_true rfl) dL_law_549 ⟨Nat.le_of_ble_eq_true rfl, Nat.le_of_ble_eq_true rfl⟩ (fun H locs hP hS => ?_)
                                                show W p l e room_1 s m #[Value.ref b] below meth c H locs 90 3493 _ (F0 m 552 ls [.int q_209])
                                                refine lv_aload_n hx hb dL_law_552 rfl (lv_at hl 2 rfl) ?_
                                                obtain ⟨q_212, I_213, hc_214, h⟩ := clP_e h
                                                refine r_callV (As := []) [.int q_209] X (c7_undo l g hG N _ _ tgl_81 _ _ hc_214) cal_X7_undo (im_X7_undo) (se_X7_undo) k_793 (tag_lt tgl_81 (by decide)) (by rw [lay, tgl_81]; rfl) rfl rfl ⟨rfl, rfl⟩ ⟨Nat.le_of_ble_eq_true rfl, Nat.le_of_ble_eq_true rfl⟩ hP hS hl.1 rfl (Nat.le_of_ble_eq_true rfl) dL_law_553 ⟨Nat.le_of_ble_eq_true rfl, Nat.le_of_ble_eq_true rfl⟩ (fun H locs hP hS => ?_)
                                                show W p l e room_1 s m #[Value.ref b] below meth c H locs 90 3493 _ (F0 m 556 ls [.int q_212, .int q_209])
                                                refine lv_icmp_eq (tgt := 858) hx hb dL_law_556 (by decide) (fun c_215 => ?_) (fun c_215 => ?_)
                                                · replace h := ifp c_215 h
                                                  obtain ⟨x_216, ex_216, h⟩ := letM_e h
                                                  refine lv_iinc (v := x_216) (lv' := [(3, .int x_216), (0, .ref b), (1, .ref (ga g 0)), (2, .ref (ga g 81))]) hx hb dL_law_858 hl (k := 3) rfl (by rw [ex_216]; rfl) (by decide) rfl (fun ls hl => ?_)
                                                  refine lv_goto (tgt := 18) hx hb dL_law_861 (by decide) ?_
                                                  exact ih I_213 x_216 h _ _ _ hP hS (lv_sub hl [1, 2, 3, 0] rfl)
                                                · replace h := ifn c_215 h
                                                  refine lv_iconst (v := (0 : Int32)) hx hb dL_law_559 (by decide +kernel) ?_
                                                  have hv1 := Option.some.inj h
                                                  exact absurd hv1 (by decide)
                                              · replace h := ifn c_208 h
                                                by_cases c_217 : x_3 = nI 21
                                                · replace h := ifp c_217 h
                                                  refine lv_tableIn (off := 529) (tgt := 561) hx hb dL_law_32 (by rw [c_217]; decide +kernel) (by rw [c_217]; decide +kernel) (by rw [c_217]; decide +kernel) (by decide) ?_
                                                  refine lv_aload_n hx hb dL_law_561 rfl (lv_at hl 1 rfl) ?_
                                                  obtain ⟨q_218, I_219, hc_220, h⟩ := clP_e h
                                                  refine r_callV (As := []) [] X (c6_ticksLeft l g hG N _ _ tgl_0 _ _ hc_220) cal_X6_ticksLeft (im_X6_ticksLeft) (se_X6_ticksLeft) k_480 (tag_lt tgl_0 (by decide)) (by rw [lay, tgl_0]; rfl) rfl rfl ⟨rfl, rfl⟩ ⟨Nat.le_of_ble_eq_true rfl, Nat.le_of_ble_eq_true rfl⟩ hP hS hl.1 rfl (Nat.le_of_ble_eq_true rfl) dL_law_562 ⟨Nat.le_of_ble_eq_true rfl, Nat.le_of_ble_eq_true rfl⟩ (fun H locs hP hS => ?_)
                                                  show W p l e room_1 s m #[Value.ref b] below meth c H locs 90 3493 _ (F0 m 565 ls [.int q_218])
                                                  refine lv_aload_n hx hb dL_law_565 rfl (lv_at hl 2 rfl) ?_
                                                  obtain ⟨q_221, I_222, hc_223, h⟩ := clP_e h
                                                  refine r_callV (As := []) [.int q_218] X (c7_ticksLeft l g hG N _ _ tgl_81 _ _ hc_223) cal_X7_ticksLeft (im_X7_ticksLeft) (se_X7_ticksLeft) k_797 (tag_lt tgl_81 (by decide)) (by rw [lay, tgl_81]; rfl) rfl rfl ⟨rfl, rfl⟩ ⟨Nat.le_of_ble_eq_true rfl, Nat.le_of_ble_eq_true rfl⟩ hP hS hl.1 rfl (Nat.le_of_ble_eq_true rfl) dL_law_566 ⟨Nat.le_of_ble_eq_true rfl, Nat.le_of_ble_eq_true rfl⟩ (fun H locs hP hS => ?_)
                                                  show W p l e room_1 s m #[Value.ref b] below meth c H locs 90 3493 _ (F0 m 569 ls [.int q_221, .int q_218])
                                                  refine lv_icmp_eq (tgt := 858) hx hb dL_law_569 (by decide) (fun c_224 => ?_) (fun c_224 => ?_)
                                                  · replace h := ifp c_224 h
                                                    obtain ⟨x_225, ex_225, h⟩ := letM_e h
                                                    refine lv_iinc (v := x_225) (lv' := [(3, .int x_225), (0, .ref b), (1, .ref (ga g 0)), (2, .ref (ga g 81))]) hx hb dL_law_858 hl (k := 3) rfl (by rw [ex_225]; rfl) (by decide) rfl (fun ls hl => ?_)
                                                    refine lv_goto (tgt := 18) hx hb dL_law_861 (by decide) ?_
                                                    exact ih I_222 x_225 h _ _ _ hP hS (lv_sub hl [1, 2, 3, 0] rfl)
                                                  · replace h := ifn c_224 h
                                                    refine lv_iconst (v := (0 : Int32)) hx hb dL_law_572 (by decide +kernel) ?_
                                                    have hv1 := Option.some.inj h
                                                    exact absurd hv1 (by decide)
                                                · replace h := ifn c_217 h
                                                  by_cases c_226 : x_3 = nI 22
                                                  · replace h := ifp c_226 h
                                                    refine lv_tableIn (off := 542) (tgt := 574) hx hb dL_law_32 (by rw [c_226]; decide +kernel) (by rw [c_226]; decide +kernel) (by rw [c_226]; decide +kernel) (by decide) ?_
                                                    refine lv_aload_n hx hb dL_law_574 rfl (lv_at hl 1 rfl) ?_
                                                    refine lv_aload_n hx hb dL_law_575 rfl (lv_at hl 0 rfl) ?_
                                                    refine lv_iload_n hx hb dL_law_576 rfl (lv_at hl 3 rfl) ?_
                                                    refine lv_iconst (v := (1 : Int32)) hx hb dL_law_577 (by decide +kernel) ?_
                                                    refine lv_iadd hx hb dL_law_578 ?_
                                                    obtain ⟨g_227, h⟩ := gd_e h
                                                    refine va_sld hx hb hX hbl hbA hS g_227 dL_law_579 ?_
                                                    obtain ⟨q_228, I_229, hc_230, h⟩ := clP_e h
                                                    refine r_callV (As := [.int (xs (v3 + (1 : Int32)).toNatClampNeg)]) [] X (c6_moveTicks l g hG N _ _ _ tgl_0 _ _ hc_230) cal_X6_moveTicks (im_X6_moveTicks) (se_X6_moveTicks) k_484 (tag_lt tgl_0 (by decide)) (by rw [lay, tgl_0]; rfl) rfl rfl ⟨rfl, rfl⟩ ⟨Nat.le_of_ble_eq_true rfl, Nat.le_of_ble_eq_true rfl⟩ hP hS hl.1 rfl (Nat.le_of_ble_eq_true rfl) dL_law_580 ⟨Nat.le_of_ble_eq_true rfl, Nat.le_of_ble_eq_true rfl⟩ (fun H locs hP hS => ?_)
                                                    show W p l e room_1 s m #[Value.ref b] below meth c H locs 90 3493 _ (F0 m 583 ls [.int q_228])
                                                    refine lv_aload_n hx hb dL_law_583 rfl (lv_at hl 2 rfl) ?_
                                                    refine lv_aload_n hx hb dL_law_584 rfl (lv_at hl 0 rfl) ?_
                                                    refine lv_iload_n hx hb dL_law_585 rfl (lv_at hl 3 rfl) ?_
                                                    refine lv_iconst (v := (1 : Int32)) hx hb dL_law_586 (by decide +kernel) ?_
                                                    refine lv_iadd hx hb dL_law_587 ?_
                                                    obtain ⟨g_231, h⟩ := gd_e h
                                                    refine va_sld hx hb hX hbl hbA hS g_231 dL_law_588 ?_
                                                    obtain ⟨q_232, I_233, hc_234, h⟩ := clP_e h
                                                    refine r_callV (As := [.int (xs (v3 + (1 : Int32)).toNatClampNeg)]) [.int q_228] X (c7_moveTicks l g hG N _ _ _ tgl_81 _ _ hc_234) cal_X7_moveTicks (im_X7_moveTicks) (se_X7_moveTicks) k_801 (tag_lt tgl_81 (by decide)) (by rw [lay, tgl_81]; rfl) rfl rfl ⟨rfl, rfl⟩ ⟨Nat.le_of_ble_eq_true rfl, Nat.le_of_ble_eq_true rfl⟩ hP hS hl.1 rfl (Nat.le_of_ble_eq_true rfl) dL_law_589 ⟨Nat.le_of_ble_eq_true rfl, Nat.le_of_ble_eq_true rfl⟩ (fun H locs hP hS => ?_)
                                                    show W p l e room_1 s m #[Value.ref b] below meth c H locs 90 3493 _ (F0 m 592 ls [.int q_232, .int q_228])
                                                    refine lv_icmp_eq (tgt := 858) hx hb dL_law_592 (by decide) (fun c_235 => ?_) (fun c_235 => ?_)
                                                    · replace h := ifp c_235 h
                                                      obtain ⟨x_236, ex_236, h⟩ := letM_e h
                                                      refine lv_iinc (v := x_236) (lv' := [(3, .int x_236), (0, .ref b), (1, .ref (ga g 0)), (2, .ref (ga g 81))]) hx hb dL_law_858 hl (k := 3) rfl (by rw [ex_236]; rfl) (by decide) rfl (fun ls hl => ?_)
                                                      refine lv_goto (tgt := 18) hx hb dL_law_861 (by decide) ?_
                                                      exact ih I_233 x_236 h _ _ _ hP hS (lv_sub hl [1, 2, 3, 0] rfl)
                                                    · replace h := ifn c_235 h
                                                      refine lv_iconst (v := (0 : Int32)) hx hb dL_law_595 (by decide +kernel) ?_
                                                      have hv1 := Option.some.inj h
                                                      exact absurd hv1 (by decide)
                                                  · replace h := ifn c_226 h
                                                    by_cases c_237 : x_3 = nI 23
                                                    · replace h := ifp c_237 h
                                                      refine lv_tableIn (off := 565) (tgt := 597) hx hb dL_law_32 (by rw [c_237]; decide +kernel) (by rw [c_237]; decide +kernel) (by rw [c_237]; decide +kernel) (by decide) ?_
                                                      refine lv_aload_n hx hb dL_law_597 rfl (lv_at hl 1 rfl) ?_
                                                      refine lv_aload_n hx hb dL_law_598 rfl (lv_at hl 0 rfl) ?_
                                                      refine lv_iload_n hx hb dL_law_599 rfl (lv_at hl 3 rfl) ?_
                                                      refine lv_iconst (v := (1 : Int32)) hx hb dL_law_600 (by decide +kernel) ?_
                                                      refine lv_iadd hx hb dL_law_601 ?_
                                                      obtain ⟨g_238, h⟩ := gd_e h
                                                      refine va_sld hx hb hX hbl hbA hS g_238 dL_law_602 ?_
                                                      refine lv_aload_n hx hb dL_law_603 rfl (lv_at hl 0 rfl) ?_
                                                      refine lv_iload_n hx hb dL_law_604 rfl (lv_at hl 3 rfl) ?_
                                                      refine lv_iconst (v := (2 : Int32)) hx hb dL_law_605 (by decide +kernel) ?_
                                                      refine lv_iadd hx hb dL_law_606 ?_
                                                      obtain ⟨g_239, h⟩ := gd_e h
                                                      refine va_sld hx hb hX hbl hbA hS g_239 dL_law_607 ?_
                                                      obtain ⟨q_240, I_241, hc_242, h⟩ := clP_e h
                                                      refine r_callV (As := [.int (xs (v3 + (1 : Int32)).toNatClampNeg), .int (xs (v3 + (2 : Int32)).toNatClampNeg)]) [] X (c6_positionAfter l g hG N _ _ _ _ tgl_0 _ _ hc_242) cal_X6_positionAfter (im_X6_positionAfter) (se_X6_positionAfter) k_489 (tag_lt tgl_0 (by decide)) (by rw [lay, tgl_0]; rfl) rfl rfl ⟨rfl, rfl⟩ ⟨Nat.le_of_ble_eq_true rfl, Nat.le_of_ble_eq_true rfl⟩ hP hS hl.1 rfl (Nat.le_of_ble_eq_true rfl) dL_law_608 ⟨Nat.le_of_ble_eq_true rfl, Nat.le_of_ble_eq_true rfl⟩ (fun H locs hP hS => ?_)
                                                      show W p l e room_1 s m #[Value.ref b] below meth c H locs 90 3493 _ (F0 m 611 ls [.int q_240])
                                                      refine lv_aload_n hx hb dL_law_611 rfl (lv_at hl 2 rfl) ?_
                                                      refine lv_aload_n hx hb dL_law_612 rfl (lv_at hl 0 rfl) ?_
                                                      refine lv_iload_n hx hb dL_law_613 rfl (lv_at hl 3 rfl) ?_
                                                      refine lv_iconst (v := (1 : Int32)) hx hb dL_law_614 (by decide +kernel) ?_
                                                      refine lv_iadd hx hb dL_law_615 ?_
                                                      obtain ⟨g_243, h⟩ := gd_e h
                                                      refine va_sld hx hb hX hbl hbA hS g_243 dL_law_616 ?_
                                                      refine lv_aload_n hx hb dL_law_617 rfl (lv_at hl 0 rfl) ?_
                                                      refine lv_iload_n hx hb dL_law_618 rfl (lv_at hl 3 rfl) ?_
                                                      refine lv_iconst (v := (2 : Int32)) hx hb dL_law_619 (by decide +kernel) ?_
                                                      refine lv_iadd hx hb dL_law_620 ?_
                                                      obtain ⟨g_244, h⟩ := gd_e h
                                                      refine va_sld hx hb hX hbl hbA hS g_244 dL_law_621 ?_
                                                      obtain ⟨q_245, I_246, hc_247, h⟩ := clP_e h
                                                      refine r_callV (As := [.int (xs (v3 + (1 : Int32)).toNatClampNeg), .int (xs (v3 + (2 : Int32)).toNatClampNeg)]) [.int q_240] X (c7_positionAfter l g hG N _ _ _ _ tgl_81 _ _ hc_247) cal_X7_positionAfter (im_X7_positionAfter) (se_X7_positionAfter) k_809 (tag_lt tgl_81 (by decide)) (by rw [lay, tgl_81]; rfl) rfl rfl ⟨rfl, rfl⟩ ⟨Nat.le_of_ble_eq_true rfl, Nat.le_of_ble_eq_true rfl⟩ hP hS hl.1 rfl (Nat.le_of_ble_eq_true rfl) dL_law_622 ⟨Nat.le_of_ble_eq_true rfl, Nat.le_of_ble_eq_true rfl⟩ (fun H locs hP hS => ?_)
                                                      show W p l e room_1 s m #[Value.ref b] below meth c H locs 90 3493 _ (F0 m 625 ls [.int q_245, .int q_240])
                                                      refine lv_icmp_eq (tgt := 858) hx hb dL_law_625 (by decide) (fun c_248 => ?_) (fun c_248 => ?_)
                                                      · replace h := ifp c_248 h
                                                        obtain ⟨x_249, ex_249, h⟩ := letM_e h
                                                        refine lv_iinc (v := x_249) (lv' := [(3, .int x_249), (0, .ref b), (1, .ref (ga g 0)), (2, .ref (ga g 81))]) hx hb dL_law_858 hl (k := 3) rfl (by rw [ex_249]; rfl) (by decide) rfl (fun ls hl => ?_)
                                                        refine lv_goto (tgt := 18) hx hb dL_law_861 (by decide) ?_
                                                        exact ih I_246 x_249 h _ _ _ hP hS (lv_sub hl [1, 2, 3, 0] rfl)
                                                      · replace h := ifn c_248 h
                                                        refine lv_iconst (v := (0 : Int32)) hx hb dL_law_628 (by decide +kernel) ?_
                                                        have hv1 := Option.some.inj h
                                                        exact absurd hv1 (by decide)
                                                    · replace h := ifn c_237 h
                                                      by_cases c_250 : x_3 = nI 24
                                                      · replace h := ifp c_250 h
                                                        refine lv_tableIn (off := 598) (tgt := 630) hx hb dL_law_32 (by rw [c_250]; decide +kernel) (by rw [c_250]; decide +kernel) (by rw [c_250]; decide +kernel) (by decide) ?_
                                                        refine lv_aload_n hx hb dL_law_630 rfl (lv_at hl 1 rfl) ?_
                                                        refine lv_aload_n hx hb dL_law_631 rfl (lv_at hl 0 rfl) ?_
                                                        refine lv_iload_n hx hb dL_law_632 rfl (lv_at hl 3 rfl) ?_
                                                        refine lv_iconst (v := (1 : Int32)) hx hb dL_law_633 (by decide +kernel) ?_
                                                        refine lv_iadd hx hb dL_law_634 ?_
                                                        obtain ⟨g_251, h⟩ := gd_e h
                                                        refine va_sld hx hb hX hbl hbA hS g_251 dL_law_635 ?_
                                                        refine lv_aload_n hx hb dL_law_636 rfl (lv_at hl 0 rfl) ?_
                                                        refine lv_iload_n hx hb dL_law_637 rfl (lv_at hl 3 rfl) ?_
                                                        refine lv_iconst (v := (2 : Int32)) hx hb dL_law_638 (by decide +kernel) ?_
                                                        refine lv_iadd hx hb dL_law_639 ?_
                                                        obtain ⟨g_252, h⟩ := gd_e h
                                                        refine va_sld hx hb hX hbl hbA hS g_252 dL_law_640 ?_
                                                        obtain ⟨q_253, I_254, hc_255, h⟩ := clP_e h
                                                        refine r_callV (As := [.int (xs (v3 + (1 : Int32)).toNatClampNeg), .int (xs (v3 + (2 : Int32)).toNatClampNeg)]) [] X (c6_leastAcceleration l g hG N _ _ _ _ tgl_0 _ _ hc_255) cal_X6_leastAcceleration (im_X6_leastAcceleration) (se_X6_leastAcceleration) k_493 (tag_lt tgl_0 (by decide)) (by rw [lay, tgl_0]; rfl) rfl rfl ⟨rfl, rfl⟩ ⟨Nat.le_of_ble_eq_true rfl, Nat.le_of_ble_eq_true rfl⟩ hP hS hl.1 rfl (Nat.le_of_ble_eq_true rfl) dL_law_641 ⟨Nat.le_of_ble_eq_true rfl, Nat.le_of_ble_eq_true rfl⟩ (fun H locs hP hS => ?_)
                                                        show W p l e room_1 s m #[Value.ref b] below meth c H locs 90 3493 _ (F0 m 644 ls [.int q_253])
                                                        refine lv_aload_n hx hb dL_law_644 rfl (lv_at hl 2 rfl) ?_
                                                        refine lv_aload_n hx hb dL_law_645 rfl (lv_at hl 0 rfl) ?_
                                                        refine lv_iload_n hx hb dL_law_646 rfl (lv_at hl 3 rfl) ?_
                                                        refine lv_iconst (v := (1 : Int32)) hx hb dL_law_647 (by decide +kernel) ?_
                                                        refine lv_iadd hx hb dL_law_648 ?_
                                                        obtain ⟨g_256, h⟩ := gd_e h
                                                        refine va_sld hx hb hX hbl hbA hS g_256 dL_law_649 ?_
                                                        refine lv_aload_n hx hb dL_law_650 rfl (lv_at hl 0 rfl) ?_
                                                        refine lv_iload_n hx hb dL_law_651 rfl (lv_at hl 3 rfl) ?_
                                                        refine lv_iconst (v := (2 : Int32)) hx hb dL_law_652 (by decide +kernel) ?_
                                                        refine lv_iadd hx hb dL_law_653 ?_
                                                        obtain ⟨g_257, h⟩ := gd_e h
                                                        refine va_sld hx hb hX hbl hbA hS g_257 dL_law_654 ?_
                                                        obtain ⟨q_258, I_259, hc_260, h⟩ := clP_e h
                                                        refine r_callV (As := [.int (xs (v3 + (1 : Int32)).toNatClampNeg), .int (xs (v3 + (2 : Int32)).toNatClampNeg)]) [.int q_253] X (c7_leastAcceleration l g hG N _ _ _ _ tgl_81 _ _ hc_260) cal_X7_leastAcceleration (im_X7_leastAcceleration) (se_X7_leastAcceleration) k_813 (tag_lt tgl_81 (by decide)) (by rw [lay, tgl_81]; rfl) rfl rfl ⟨rfl, rfl⟩ ⟨Nat.le_of_ble_eq_true rfl, Nat.le_of_ble_eq_true rfl⟩ hP hS hl.1 rfl (Nat.le_of_ble_eq_true rfl) dL_law_655 ⟨Nat.le_of_ble_eq_true rfl, Nat.le_of_ble_eq_true rfl⟩ (fun H locs hP hS => ?_)
                                                        show W p l e room_1 s m #[Value.ref b] below meth c H locs 90 3493 _ (F0 m 658 ls [.int q_258, .int q_253])
                                                        refine lv_icmp_eq (tgt := 858) hx hb dL_law_658 (by decide) (fun c_261 => ?_) (fun c_261 => ?_)
                                                        · replace h := ifp c_261 h
                                                          obtain ⟨x_262, ex_262, h⟩ := letM_e h
                                                          refine lv_iinc (v := x_262) (lv' := [(3, .int x_262), (0, .ref b), (1, .ref (ga g 0)), (2, .ref (ga g 81))]) hx hb dL_law_858 hl (k := 3) rfl (by rw [ex_262]; rfl) (by decide) rfl (fun ls hl => ?_)
                                                          refine lv_goto (tgt := 18) hx hb dL_law_861 (by decide) ?_
                                                          exact ih I_259 x_262 h _ _ _ hP hS (lv_sub hl [1, 2, 3, 0] rfl)
                                                        · replace h := ifn c_261 h
                                                          refine lv_iconst (v := (0 : Int32)) hx hb dL_law_661 (by decide +kernel) ?_
                                                          have hv1 := Option.some.inj h
                                                          exact absurd hv1 (by decide)
                                                      · replace h := ifn c_250 h
                                                        by_cases c_263 : x_3 = nI 25
                                                        · replace h := ifp c_263 h
                                                          refine lv_tableIn (off := 631) (tgt := 663) hx hb dL_law_32 (by rw [c_263]; decide +kernel) (by rw [c_263]; decide +kernel) (by rw [c_263]; decide +kernel) (by decide) ?_
                                                          refine lv_aload_n hx hb dL_law_663 rfl (lv_at hl 1 rfl) ?_
                                                          refine lv_aload_n hx hb dL_law_664 rfl (lv_at hl 0 rfl) ?_
                                                          refine lv_iload_n hx hb dL_law_665 rfl (lv_at hl 3 rfl) ?_
                                                          refine lv_iconst (v := (1 : Int32)) hx hb dL_law_666 (by decide +kernel) ?_
                                                          refine lv_iadd hx hb dL_law_667 ?_
                                                          obtain ⟨g_264, h⟩ := gd_e h
                                                          refine va_sld hx hb hX hbl hbA hS g_264 dL_law_668 ?_
                                                          obtain ⟨q_265, I_266, hc_267, h⟩ := clP_e h
                                                          refine r_callV (As := [.int (xs (v3 + (1 : Int32)).toNatClampNeg)]) [] X (c6_greatestLength l g hG N _ _ _ tgl_0 _ _ hc_267) cal_X6_greatestLength (im_X6_greatestLength) (se_X6_greatestLength) k_508 (tag_lt tgl_0 (by decide)) (by rw [lay, tgl_0]; rfl) rfl rfl ⟨rfl, rfl⟩ ⟨Nat.le_of_ble_eq_true rfl, Nat.le_of_ble_eq_true rfl⟩ hP hS hl.1 rfl (Nat.le_of_ble_eq_true rfl) dL_law_669 ⟨Nat.le_of_ble_eq_true rfl, Nat.le_of_ble_eq_true rfl⟩ (fun H locs hP hS => ?_)
                                                          show W p l e room_1 s m #[Value.ref b] below meth c H locs 90 3493 _ (F0 m 672 ls [.int q_265])
                                                          refine lv_aload_n hx hb dL_law_672 rfl (lv_at hl 2 rfl) ?_
                                                          refine lv_aload_n hx hb dL_law_673 rfl (lv_at hl 0 rfl) ?_
                                                          refine lv_iload_n hx hb dL_law_674 rfl (lv_at hl 3 rfl) ?_
                                                          refine lv_iconst (v := (1 : Int32)) hx hb dL_law_675 (by decide +kernel) ?_
                                                          refine lv_iadd hx hb dL_law_676 ?_
                                                          obtain ⟨g_268, h⟩ := gd_e h
                                                          refine va_sld hx hb hX hbl hbA hS g_268 dL_law_677 ?_
                                                          obtain ⟨q_269, I_270, hc_271, h⟩ := clP_e h
                                                          refine r_callV (As := [.int (xs (v3 + (1 : Int32)).toNatClampNeg)]) [.int q_265] X (c7_greatestLength l g hG N _ _ _ tgl_81 _ _ hc_271) cal_X7_greatestLength (im_X7_greatestLength) (se_X7_greatestLength) k_817 (tag_lt tgl_81 (by decide)) (by rw [lay, tgl_81]; rfl) rfl rfl ⟨rfl, rfl⟩ ⟨Nat.le_of_ble_eq_true rfl, Nat.le_of_ble_eq_true rfl⟩ hP hS hl.1 rfl (Nat.le_of_ble_eq_true rfl) dL_law_678 ⟨Nat.le_of_ble_eq_true rfl, Nat.le_of_ble_eq_true rfl⟩ (fun H locs hP hS => ?_)
                                                          show W p l e room_1 s m #[Value.ref b] below meth c H locs 90 3493 _ (F0 m 681 ls [.int q_269, .int q_265])
                                                          refine lv_icmp_eq (tgt := 858) hx hb dL_law_681 (by decide) (fun c_272 => ?_) (fun c_272 => ?_)
                                                          · replace h := ifp c_272 h
                                                            obtain ⟨x_273, ex_273, h⟩ := letM_e h
                                                            refine lv_iinc (v := x_273) (lv' := [(3, .int x_273), (0, .ref b), (1, .ref (ga g 0)), (2, .ref (ga g 81))]) hx hb dL_law_858 hl (k := 3) rfl (by rw [ex_273]; rfl) (by decide) rfl (fun ls hl => ?_)
                                                            refine lv_goto (tgt := 18) hx hb dL_law_861 (by decide) ?_
                                                            exact ih I_270 x_273 h _ _ _ hP hS (lv_sub hl [1, 2, 3, 0] rfl)
                                                          · replace h := ifn c_272 h
                                                            refine lv_iconst (v := (0 : Int32)) hx hb dL_law_684 (by decide +kernel) ?_
                                                            have hv1 := Option.some.inj h
                                                            exact absurd hv1 (by decide)
                                                        · replace h := ifn c_263 h
                                                          by_cases c_274 : x_3 = nI 26
                                                          · replace h := ifp c_274 h
                                                            refine lv_tableIn (off := 654) (tgt := 686) hx hb dL_law_32 (by rw [c_274]; decide +kernel) (by rw [c_274]; decide +kernel) (by rw [c_274]; decide +kernel) (by decide) ?_
                                                            refine lv_aload_n hx hb dL_law_686 rfl (lv_at hl 1 rfl) ?_
                                                            refine lv_aload_n hx hb dL_law_687 rfl (lv_at hl 0 rfl) ?_
                                                            refine lv_iload_n hx hb dL_law_688 rfl (lv_at hl 3 rfl) ?_
                                                            refine lv_iconst (v := (1 : Int32)) hx hb dL_law_689 (by decide +kernel) ?_
                                                            refine lv_iadd hx hb dL_law_690 ?_
                                                            obtain ⟨g_275, h⟩ := gd_e h
                                                            refine va_sld hx hb hX hbl hbA hS g_275 dL_law_691 ?_
                                                            refine lv_aload_n hx hb dL_law_692 rfl (lv_at hl 0 rfl) ?_
                                                            refine lv_iload_n hx hb dL_law_693 rfl (lv_at hl 3 rfl) ?_
                                                            refine lv_iconst (v := (2 : Int32)) hx hb dL_law_694 (by decide +kernel) ?_
                                                            refine lv_iadd hx hb dL_law_695 ?_
                                                            obtain ⟨g_276, h⟩ := gd_e h
                                                            refine va_sld hx hb hX hbl hbA hS g_276 dL_law_696 ?_
                                                            refine lv_i2l (v := (xs (v3 + (2 : Int32)).toNatClampNeg).toInt64) hx hb dL_law_697 (by rfl) ?_
                                                            refine lv_bipush (v := (32 : Int32)) hx hb dL_law_698 (by decide +kernel) ?_
                                                            refine lv_lshl (v := ((xs (v3 + (2 : Int32)).toNatClampNeg).toInt64 <<< (((32 : Int32)).toInt64 &&& 63))) hx hb dL_law_700 rfl ?_
                                                            refine lv_aload_n hx hb dL_law_701 rfl (lv_at hl 0 rfl) ?_
                                                            refine lv_iload_n hx hb dL_law_702 rfl (lv_at hl 3 rfl) ?_
                                                            refine lv_iconst (v := (3 : Int32)) hx hb dL_law_703 (by decide +kernel) ?_
                                                            refine lv_iadd hx hb dL_law_704 ?_
                                                            obtain ⟨g_277, h⟩ := gd_e h
                                                            refine va_sld hx hb hX hbl hbA hS g_277 dL_law_705 ?_
                                                            refine lv_i2l (v := (xs (v3 + (3 : Int32)).toNatClampNeg).toInt64) hx hb dL_law_706 (by rfl) ?_
                                                            refine lv_ldc2 (v := (4294967295 : Int64)) hx hb X.ow (X.hts _ k_849) dL_law_707 ?_
                                                            refine lv_land hx hb dL_law_710 ?_
                                                            refine lv_lor hx hb dL_law_711 ?_
                                                            obtain ⟨q_278, I_279, hc_280, h⟩ := clP_e h
                                                            refine r_callV (As := [.int (xs (v3 + (1 : Int32)).toNatClampNeg), .long (((xs (v3 + (2 : Int32)).toNatClampNeg).toInt64 <<< (((32 : Int32)).toInt64 &&& 63)) ||| ((xs (v3 + (3 : Int32)).toNatClampNeg).toInt64 &&& (4294967295 : Int64)))]) [] X (c6_runScript l g hG N _ _ _ _ tgl_0 _ _ hc_280) cal_X6_runScript (im_X6_runScript) (se_X6_runScript) k_512 (tag_lt tgl_0 (by decide)) (by rw [lay, tgl_0]; rfl) rfl rfl ⟨rfl, rfl⟩ ⟨Nat.le_of_ble_eq_true rfl, Nat.le_of_ble_eq_true rfl⟩ hP hS hl.1 rfl (Nat.le_of_ble_eq_true rfl) dL_law_712 ⟨Nat.le_of_ble_eq_true rfl, Nat.le_of_ble_eq_true rfl⟩ (fun H locs hP hS => ?_)
                                                            show W p l e room_1 s m #[Value.ref b] below meth c H locs 90 3493 _ (F0 m 715 ls [.int q_278])
                                                            refine lv_aload_n hx hb dL_law_715 rfl (lv_at hl 2 rfl) ?_
                                                            refine lv_aload_n hx hb dL_law_716 rfl (lv_at hl 0 rfl) ?_
                                                            refine lv_iload_n hx hb dL_law_717 rfl (lv_at hl 3 rfl) ?_
                                                            refine lv_iconst (v := (1 : Int32)) hx hb dL_law_718 (by decide +kernel) ?_
                                                            refine lv_iadd hx hb dL_law_719 ?_
                                                            obtain ⟨g_281, h⟩ := gd_e h
                                                            refine va_sld hx hb hX hbl hbA hS g_281 dL_law_720 ?_
                                                            refine lv_aload_n hx hb dL_law_721 rfl (lv_at hl 0 rfl) ?_
                                                            refine lv_iload_n hx hb dL_law_722 rfl (lv_at hl 3 rfl) ?_
                                                            refine lv_iconst (v := (2 : Int32)) hx hb dL_law_723 (by decide +kernel) ?_
                                                            refine lv_iadd hx hb dL_law_724 ?_
                                                            obtain ⟨g_282, h⟩ := gd_e h
                                                            refine va_sld hx hb hX hbl hbA hS g_282 dL_law_725 ?_
                                                            refine lv_i2l (v := (xs (v3 + (2 : Int32)).toNatClampNeg).toInt64) hx hb dL_law_726 (by rfl) ?_
                                                            refine lv_bipush (v := (32 : Int32)) hx hb dL_law_727 (by decide +kernel) ?_
                                                            refine lv_lshl (v := ((xs (v3 + (2 : Int32)).toNatClampNeg).toInt64 <<< (((32 : Int32)).toInt64 &&& 63))) hx hb dL_law_729 rfl ?_
                                                            refine lv_aload_n hx hb dL_law_730 rfl (lv_at hl 0 rfl) ?_
                                                            refine lv_iload_n hx hb dL_law_731 rfl (lv_at hl 3 rfl) ?_
                                                            refine lv_iconst (v := (3 : Int32)) hx hb dL_law_732 (by decide +kernel) ?_
                                                            refine lv_iadd hx hb dL_law_733 ?_
                                                            obtain ⟨g_283, h⟩ := gd_e h
                                                            refine va_sld hx hb hX hbl hbA hS g_283 dL_law_734 ?_
                                                            refine lv_i2l (v := (xs (v3 + (3 : Int32)).toNatClampNeg).toInt64) hx hb dL_law_735 (by rfl) ?_
                                                            refine lv_ldc2 (v := (4294967295 : Int64)) hx hb X.ow (X.hts _ k_849) dL_law_736 ?_
                                                            refine lv_land hx hb dL_law_739 ?_
                                                            refine lv_lor hx hb dL_law_740 ?_
                                                            obtain ⟨q_284, I_285, hc_286, h⟩ := clP_e h
                                                            refine r_callV (As := [.int (xs (v3 + (1 : Int32)).toNatClampNeg), .long (((xs (v3 + (2 : Int32)).toNatClampNeg).toInt64 <<< (((32 : Int32)).toInt64 &&& 63)) ||| ((xs (v3 + (3 : Int32)).toNatClampNeg).toInt64 &&& (4294967295 : Int64)))]) [.int q_278] X (c7_runScript l g hG N _ _ _ _ tgl_81 _ _ hc_286) cal_X7_runScript (im_X7_runScript) (se_X7_runScript) k_821 (tag_lt tgl_81 (by decide)) (by rw [lay, tgl_81]; rfl) rfl rfl ⟨rfl, rfl⟩ ⟨Nat.le_of_ble_eq_true rfl, Nat.le_of_ble_eq_true rfl⟩ hP hS hl.1 rfl (Nat.le_of_ble_eq_true rfl) dL_law_741 ⟨Nat.le_of_ble_eq_true rfl, Nat.le_of_ble_eq_true rfl⟩ (fun H locs hP hS => ?_)
                                                            show W p l e room_1 s m #[Value.ref b] below meth c H locs 90 3493 _ (F0 m 744 ls [.int q_284, .int q_278])
                                                            refine lv_icmp_eq (tgt := 858) hx hb dL_law_744 (by decide) (fun c_287 => ?_) (fun c_287 => ?_)
                                                            · replace h := ifp c_287 h
                                                              obtain ⟨x_288, ex_288, h⟩ := letM_e h
                                                              refine lv_iinc (v := x_288) (lv' := [(3, .int x_288), (0, .ref b), (1, .ref (ga g 0)), (2, .ref (ga g 81))]) hx hb dL_law_858 hl (k := 3) rfl (by rw [ex_288]; rfl) (by decide) rfl (fun ls hl => ?_)
                                                              refine lv_goto (tgt := 18) hx hb dL_law_861 (by decide) ?_
                                                              exact ih I_285 x_288 h _ _ _ hP hS (lv_sub hl [1, 2, 3, 0] rfl)
                                                            · replace h := ifn c_287 h
                                                              refine lv_iconst (v := (0 : Int32)) hx hb dL_law_747 (by decide +kernel) ?_
                                                              have hv1 := Option.some.inj h
                                                              exact absurd hv1 (by decide)
                                                          · replace h := ifn c_274 h
                                                            by_cases c_289 : x_3 = nI 27
                                                            · replace h := ifp c_289 h
                                                              refine lv_tableIn (off := 717) (tgt := 749) hx hb dL_law_32 (by rw [c_289]; decide +kernel) (by rw [c_289]; decide +kernel) (by rw [c_289]; decide +kernel) (by decide) ?_
                                                              refine lv_aload_n hx hb dL_law_749 rfl (lv_at hl 1 rfl) ?_
                                                              refine lv_aload_n hx hb dL_law_750 rfl (lv_at hl 0 rfl) ?_
                                                              refine lv_iload_n hx hb dL_law_751 rfl (lv_at hl 3 rfl) ?_
                                                              refine lv_iconst (v := (1 : Int32)) hx hb dL_law_752 (by decide +kernel) ?_
                                                              refine lv_iadd hx hb dL_law_753 ?_
                                                              obtain ⟨g_290, h⟩ := gd_e h
                                                              refine va_sld hx hb hX hbl hbA hS g_290 dL_law_754 ?_
                                                              refine lv_i2l (v := (xs (v3 + (1 : Int32)).toNatClampNeg).toInt64) hx hb dL_law_755 (by rfl) ?_
                                                              refine lv_bipush (v := (32 : Int32)) hx hb dL_law_756 (by decide +kernel) ?_
                                                              refine lv_lshl (v := ((xs (v3 + (1 : Int32)).toNatClampNeg).toInt64 <<< (((32 : Int32)).toInt64 &&& 63))) hx hb dL_law_758 rfl ?_
                                                              refine lv_aload_n hx hb dL_law_759 rfl (lv_at hl 0 rfl) ?_
                                                              refine lv_iload_n hx hb dL_law_760 rfl (lv_at hl 3 rfl) ?_
                                                              refine lv_iconst (v := (2 : Int32)) hx hb dL_law_761 (by decide +kernel) ?_
                                                              refine lv_iadd hx hb dL_law_762 ?_
                                                              obtain ⟨g_291, h⟩ := gd_e h
                                                              refine va_sld hx hb hX hbl hbA hS g_291 dL_law_763 ?_
                                                              refine lv_i2l (v := (xs (v3 + (2 : Int32)).toNatClampNeg).toInt64) hx hb dL_law_764 (by rfl) ?_
                                                              refine lv_ldc2 (v := (4294967295 : Int64)) hx hb X.ow (X.hts _ k_849) dL_law_765 ?_
                                                              refine lv_land hx hb dL_law_768 ?_
                                                              refine lv_lor hx hb dL_law_769 ?_
                                                              refine lv_aload_n hx hb dL_law_770 rfl (lv_at hl 0 rfl) ?_
                                                              refine lv_iload_n hx hb dL_law_771 rfl (lv_at hl 3 rfl) ?_
                                                              refine lv_iconst (v := (3 : Int32)) hx hb dL_law_772 (by decide +kernel) ?_
                                                              refine lv_iadd hx hb dL_law_773 ?_
                                                              obtain ⟨g_292, h⟩ := gd_e h
                                                              refine va_sld hx hb hX hbl hbA hS g_292 dL_law_774 ?_
                                                              obtain ⟨q_293, I_294, hc_295, h⟩ := clP_e h
                                                              refine r_callV (As := [.long (((xs (v3 + (1 : Int32)).toNatClampNeg).toInt64 <<< (((32 : Int32)).toInt64 &&& 63)) ||| ((xs (v3 + (2 : Int32)).toNatClampNeg).toInt64 &&& (4294967295 : Int64))), .int (xs (v3 + (3 : Int32)).toNatClampNeg)]) [] X (c6_randomSpeeds l g hG N _ _ _ _ tgl_0 _ _ hc_295) cal_X6_randomSpeeds (im_X6_randomSpeeds) (se_X6_randomSpeeds) k_524 (tag_lt tgl_0 (by decide)) (by rw [lay, tgl_0]; rfl) rfl rfl ⟨rfl, rfl⟩ ⟨Nat.le_of_ble_eq_true rfl, Nat.le_of_ble_eq_true rfl⟩ hP hS hl.1 rfl (Nat.le_of_ble_eq_true rfl) dL_law_775 ⟨Nat.le_of_ble_eq_true rfl, Nat.le_of_ble_eq_true rfl⟩ (fun H locs hP hS => ?_)
                                                              show W p l e room_1 s m #[Value.ref b] below meth c H locs 90 3493 _ (F0 m 778 ls [.int q_293])
                                                              refine lv_aload_n hx hb dL_law_778 rfl (lv_at hl 2 rfl) ?_
                                                              refine lv_aload_n hx hb dL_law_779 rfl (lv_at hl 0 rfl) ?_
                                                              refine lv_iload_n hx hb dL_law_780 rfl (lv_at hl 3 rfl) ?_
                                                              refine lv_iconst (v := (1 : Int32)) hx hb dL_law_781 (by decide +kernel) ?_
                                                              refine lv_iadd hx hb dL_law_782 ?_
                                                              obtain ⟨g_296, h⟩ := gd_e h
                                                              refine va_sld hx hb hX hbl hbA hS g_296 dL_law_783 ?_
                                                              refine lv_i2l (v := (xs (v3 + (1 : Int32)).toNatClampNeg).toInt64) hx hb dL_law_784 (by rfl) ?_
                                                              refine lv_bipush (v := (32 : Int32)) hx hb dL_law_785 (by decide +kernel) ?_
                                                              refine lv_lshl (v := ((xs (v3 + (1 : Int32)).toNatClampNeg).toInt64 <<< (((32 : Int32)).toInt64 &&& 63))) hx hb dL_law_787 rfl ?_
                                                              refine lv_aload_n hx hb dL_law_788 rfl (lv_at hl 0 rfl) ?_
                                                              refine lv_iload_n hx hb dL_law_789 rfl (lv_at hl 3 rfl) ?_
                                                              refine lv_iconst (v := (2 : Int32)) hx hb dL_law_790 (by decide +kernel) ?_
                                                              refine lv_iadd hx hb dL_law_791 ?_
                                                              obtain ⟨g_297, h⟩ := gd_e h
                                                              refine va_sld hx hb hX hbl hbA hS g_297 dL_law_792 ?_
                                                              refine lv_i2l (v := (xs (v3 + (2 : Int32)).toNatClampNeg).toInt64) hx hb dL_law_793 (by rfl) ?_
                                                              refine lv_ldc2 (v := (4294967295 : Int64)) hx hb X.ow (X.hts _ k_849) dL_law_794 ?_
                                                              refine lv_land hx hb dL_law_797 ?_
                                                              refine lv_lor hx hb dL_law_798 ?_
                                                              refine lv_aload_n hx hb dL_law_799 rfl (lv_at hl 0 rfl) ?_
                                                              refine lv_iload_n hx hb dL_law_800 rfl (lv_at hl 3 rfl) ?_
                                                              refine lv_iconst (v := (3 : Int32)) hx hb dL_law_801 (by decide +kernel) ?_
                                                              refine lv_iadd hx hb dL_law_802 ?_
                                                              obtain ⟨g_298, h⟩ := gd_e h
                                                              refine va_sld hx hb hX hbl hbA hS g_298 dL_law_803 ?_
                                                              obtain ⟨q_299, I_300, hc_301, h⟩ := clP_e h
                                                              refine r_callV (As := [.long (((xs (v3 + (1 : Int32)).toNatClampNeg).toInt64 <<< (((32 : Int32)).toInt64 &&& 63)) ||| ((xs (v3 + (2 : Int32)).toNatClampNeg).toInt64 &&& (4294967295 : Int64))), .int (xs (v3 + (3 : Int32)).toNatClampNeg)]) [.int q_293] X (c7_randomSpeeds l g hG N _ _ _ _ tgl_81 _ _ hc_301) cal_X7_randomSpeeds (im_X7_randomSpeeds) (se_X7_randomSpeeds) k_834 (tag_lt tgl_81 (by decide)) (by rw [lay, tgl_81]; rfl) rfl rfl ⟨rfl, rfl⟩ ⟨Nat.le_of_ble_eq_true rfl, Nat.le_of_ble_eq_true rfl⟩ hP hS hl.1 rfl (Nat.le_of_ble_eq_true rfl) dL_law_804 ⟨Nat.le_of_ble_eq_true rfl, Nat.le_of_ble_eq_true rfl⟩ (fun H locs hP hS => ?_)
                                                              show W p l e room_1 s m #[Value.ref b] below meth c H locs 90 3493 _ (F0 m 807 ls [.int q_299, .int q_293])
                                                              refine lv_icmp_eq (tgt := 858) hx hb dL_law_807 (by decide) (fun c_302 => ?_) (fun c_302 => ?_)
                                                              · replace h := ifp c_302 h
                                                                obtain ⟨x_303, ex_303, h⟩ := letM_e h
                                                                refine lv_iinc (v := x_303) (lv' := [(3, .int x_303), (0, .ref b), (1, .ref (ga g 0)), (2, .ref (ga g 81))]) hx hb dL_law_858 hl (k := 3) rfl (by rw [ex_303]; rfl) (by decide) rfl (fun ls hl => ?_)
                                                                refine lv_goto (tgt := 18) hx hb dL_law_861 (by decide) ?_
                                                                exact ih I_300 x_303 h _ _ _ hP hS (lv_sub hl [1, 2, 3, 0] rfl)
                                                              · replace h := ifn c_302 h
                                                                refine lv_iconst (v := (0 : Int32)) hx hb dL_law_810 (by decide +kernel) ?_
                                                                have hv1 := Option.some.inj h
                                                                exact absurd hv1 (by decide)
                                                            · replace h := ifn c_289 h
                                                              by_cases c_304 : x_3 = nI 28
                                                              · replace h := ifp c_304 h
                                                                refine lv_tableIn (off := 780) (tgt := 812) hx hb dL_law_32 (by rw [c_304]; decide +kernel) (by rw [c_304]; decide +kernel) (by rw [c_304]; decide +kernel) (by decide) ?_
                                                                refine lv_aload_n hx hb dL_law_812 rfl (lv_at hl 1 rfl) ?_
                                                                refine lv_aload_n hx hb dL_law_813 rfl (lv_at hl 0 rfl) ?_
                                                                refine lv_iload_n hx hb dL_law_814 rfl (lv_at hl 3 rfl) ?_
                                                                refine lv_iconst (v := (1 : Int32)) hx hb dL_law_815 (by decide +kernel) ?_
                                                                refine lv_iadd hx hb dL_law_816 ?_
                                                                obtain ⟨g_305, h⟩ := gd_e h
                                                                refine va_sld hx hb hX hbl hbA hS g_305 dL_law_817 ?_
                                                                obtain ⟨q_306, I_307, hc_308, h⟩ := clP_e h
                                                                refine r_callV (As := [.int (xs (v3 + (1 : Int32)).toNatClampNeg)]) [] X (c6_save l g hG N _ _ _ tgl_0 _ _ hc_308) cal_X6_save (im_X6_save) (se_X6_save) k_530 (tag_lt tgl_0 (by decide)) (by rw [lay, tgl_0]; rfl) rfl rfl ⟨rfl, rfl⟩ ⟨Nat.le_of_ble_eq_true rfl, Nat.le_of_ble_eq_true rfl⟩ hP hS hl.1 rfl (Nat.le_of_ble_eq_true rfl) dL_law_818 ⟨Nat.le_of_ble_eq_true rfl, Nat.le_of_ble_eq_true rfl⟩ (fun H locs hP hS => ?_)
                                                                show W p l e room_1 s m #[Value.ref b] below meth c H locs 90 3493 _ (F0 m 821 ls [.int q_306])
                                                                refine lv_aload_n hx hb dL_law_821 rfl (lv_at hl 2 rfl) ?_
                                                                refine lv_aload_n hx hb dL_law_822 rfl (lv_at hl 0 rfl) ?_
                                                                refine lv_iload_n hx hb dL_law_823 rfl (lv_at hl 3 rfl) ?_
                                                                refine lv_iconst (v := (1 : Int32)) hx hb dL_law_824 (by decide +kernel) ?_
                                                                refine lv_iadd hx hb dL_law_825 ?_
                                                                obtain ⟨g_309, h⟩ := gd_e h
                                                                refine va_sld hx hb hX hbl hbA hS g_309 dL_law_826 ?_
                                                                obtain ⟨q_310, I_311, hc_312, h⟩ := clP_e h
                                                                refine r_callV (As := [.int (xs (v3 + (1 : Int32)).toNatClampNeg)]) [.int q_306] X (c7_save l g hG N _ _ _ tgl_81 _ _ hc_312) cal_X7_save (im_X7_save) (se_X7_save) k_841 (tag_lt tgl_81 (by decide)) (by rw [lay, tgl_81]; rfl) rfl rfl ⟨rfl, rfl⟩ ⟨Nat.le_of_ble_eq_true rfl, Nat.le_of_ble_eq_true rfl⟩ hP hS hl.1 rfl (Nat.le_of_ble_eq_true rfl) dL_law_827 ⟨Nat.le_of_ble_eq_true rfl, Nat.le_of_ble_eq_true rfl⟩ (fun H locs hP hS => ?_)
                                                                show W p l e room_1 s m #[Value.ref b] below meth c H locs 90 3493 _ (F0 m 830 ls [.int q_310, .int q_306])
                                                                refine lv_icmp_eq (tgt := 858) hx hb dL_law_830 (by decide) (fun c_313 => ?_) (fun c_313 => ?_)
                                                                · replace h := ifp c_313 h
                                                                  obtain ⟨x_314, ex_314, h⟩ := letM_e h
                                                                  refine lv_iinc (v := x_314) (lv' := [(3, .int x_314), (0, .ref b), (1, .ref (ga g 0)), (2, .ref (ga g 81))]) hx hb dL_law_858 hl (k := 3) rfl (by rw [ex_314]; rfl) (by decide) rfl (fun ls hl => ?_)
                                                                  refine lv_goto (tgt := 18) hx hb dL_law_861 (by decide) ?_
                                                                  exact ih I_311 x_314 h _ _ _ hP hS (lv_sub hl [1, 2, 3, 0] rfl)
                                                                · replace h := ifn c_313 h
                                                                  refine lv_iconst (v := (0 : Int32)) hx hb dL_law_833 (by decide +kernel) ?_
                                                                  have hv1 := Option.some.inj h
                                                                  exact absurd hv1 (by decide)
                                                              · replace h := ifn c_304 h
                                                                by_cases c_315 : x_3 = nI 29
                                                                · replace h := ifp c_315 h
                                                                  refine lv_tableIn (off := 803) (tgt := 835) hx hb dL_law_32 (by rw [c_315]; decide +kernel) (by rw [c_315]; decide +kernel) (by rw [c_315]; decide +kernel) (by decide) ?_
                                                                  refine lv_aload_n hx hb dL_law_835 rfl (lv_at hl 1 rfl) ?_
                                                                  refine lv_aload_n hx hb dL_law_836 rfl (lv_at hl 0 rfl) ?_
                                                                  refine lv_iload_n hx hb dL_law_837 rfl (lv_at hl 3 rfl) ?_
                                                                  refine lv_iconst (v := (1 : Int32)) hx hb dL_law_838 (by decide +kernel) ?_
                                                                  refine lv_iadd hx hb dL_law_839 ?_
                                                                  obtain ⟨g_316, h⟩ := gd_e h
                                                                  refine va_sld hx hb hX hbl hbA hS g_316 dL_law_840 ?_
                                                                  obtain ⟨q_317, I_318, hc_319, h⟩ := clP_e h
                                                                  refine r_callV (As := [.int (xs (v3 + (1 : Int32)).toNatClampNeg)]) [] X (c6_restore l g hG N _ _ _ tgl_0 _ _ hc_319) cal_X6_restore (im_X6_restore) (se_X6_restore) k_541 (tag_lt tgl_0 (by decide)) (by rw [lay, tgl_0]; rfl) rfl rfl ⟨rfl, rfl⟩ ⟨Nat.le_of_ble_eq_true rfl, Nat.le_of_ble_eq_true rfl⟩ hP hS hl.1 rfl (Nat.le_of_ble_eq_true rfl) dL_law_841 ⟨Nat.le_of_ble_eq_true rfl, Nat.le_of_ble_eq_true rfl⟩ (fun H locs hP hS => ?_)
                                                                  show W p l e room_1 s m #[Value.ref b] below meth c H locs 90 3493 _ (F0 m 844 ls [.int q_317])
                                                                  refine lv_aload_n hx hb dL_law_844 rfl (lv_at hl 2 rfl) ?_
                                                                  refine lv_aload_n hx hb dL_law_845 rfl (lv_at hl 0 rfl) ?_
                                                                  refine lv_iload_n hx hb dL_law_846 rfl (lv_at hl 3 rfl) ?_
                                                                  refine lv_iconst (v := (1 : Int32)) hx hb dL_law_847 (by decide +kernel) ?_
                                                                  refine lv_iadd hx hb dL_law_848 ?_
                                                                  obtain ⟨g_320, h⟩ := gd_e h
                                                                  refine va_sld hx hb hX hbl hbA hS g_320 dL_law_849 ?_
                                                                  obtain ⟨q_321, I_322, hc_323, h⟩ := clP_e h
                                                                  refine r_callV (As := [.int (xs (v3 + (1 : Int32)).toNatClampNeg)]) [.int q_317] X (c7_restore l g hG N _ _ _ tgl_81 _ _ hc_323) cal_X7_restore (im_X7_restore) (se_X7_restore) k_845 (tag_lt tgl_81 (by decide)) (by rw [lay, tgl_81]; rfl) rfl rfl ⟨rfl, rfl⟩ ⟨Nat.le_of_ble_eq_true rfl, Nat.le_of_ble_eq_true rfl⟩ hP hS hl.1 rfl (Nat.le_of_ble_eq_true rfl) dL_law_850 ⟨Nat.le_of_ble_eq_true rfl, Nat.le_of_ble_eq_true rfl⟩ (fun H locs hP hS => ?_)
                                                                  show W p l e room_1 s m #[Value.ref b] below meth c H locs 90 3493 _ (F0 m 853 ls [.int q_321, .int q_317])
                                                                  refine lv_icmp_eq (tgt := 858) hx hb dL_law_853 (by decide) (fun c_324 => ?_) (fun c_324 => ?_)
                                                                  · replace h := ifp c_324 h
                                                                    obtain ⟨x_325, ex_325, h⟩ := letM_e h
                                                                    refine lv_iinc (v := x_325) (lv' := [(3, .int x_325), (0, .ref b), (1, .ref (ga g 0)), (2, .ref (ga g 81))]) hx hb dL_law_858 hl (k := 3) rfl (by rw [ex_325]; rfl) (by decide) rfl (fun ls hl => ?_)
                                                                    refine lv_goto (tgt := 18) hx hb dL_law_861 (by decide) ?_
                                                                    exact ih I_322 x_325 h _ _ _ hP hS (lv_sub hl [1, 2, 3, 0] rfl)
                                                                  · replace h := ifn c_324 h
                                                                    refine lv_iconst (v := (0 : Int32)) hx hb dL_law_856 (by decide +kernel) ?_
                                                                    have hv1 := Option.some.inj h
                                                                    exact absurd hv1 (by decide)
                                                                · replace h := ifn c_315 h
                                                                  have hout := tsw_out (x := x_3) 0 30 (fun j hj => by
                                                                    rcases (show j = 0 ∨ j = 1 ∨ j = 2 ∨ j = 3 ∨ j = 4 ∨ j = 5 ∨ j = 6 ∨ j = 7 ∨ j = 8 ∨ j = 9 ∨ j = 10 ∨ j = 11 ∨ j = 12 ∨ j = 13 ∨ j = 14 ∨ j = 15 ∨ j = 16 ∨ j = 17 ∨ j = 18 ∨ j = 19 ∨ j = 20 ∨ j = 21 ∨ j = 22 ∨ j = 23 ∨ j = 24 ∨ j = 25 ∨ j = 26 ∨ j = 27 ∨ j = 28 ∨ j = 29 by omega) with rfl | rfl | rfl | rfl | rfl | rfl | rfl | rfl | rfl | rfl | rfl | rfl | rfl | rfl | rfl | rfl | rfl | rfl | rfl | rfl | rfl | rfl | rfl | rfl | rfl | rfl | rfl | rfl | rfl | rfl <;> assumption) (by decide)
                                                                  refine lv_tableOut (tgt := 858) hx hb dL_law_32 (hout.imp id (fun q => q)) (by decide) ?_
                                                                  obtain ⟨x_326, ex_326, h⟩ := letM_e h
                                                                  refine lv_iinc (v := x_326) (lv' := [(3, .int x_326), (0, .ref b), (1, .ref (ga g 0)), (2, .ref (ga g 81))]) hx hb dL_law_858 hl (k := 3) rfl (by rw [ex_326]; rfl) (by decide) rfl (fun ls hl => ?_)
                                                                  refine lv_goto (tgt := 18) hx hb dL_law_861 (by decide) ?_
                                                                  exact ih I x_326 h _ _ _ hP hS (lv_sub hl [1, 2, 3, 0] rfl)
end LAWWALK
