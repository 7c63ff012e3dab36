section
-- ===== PART A: goes FIRST, ahead of the names: the tables' words, and 'selects' of the private methods out of them =====
/-- a private method of a class that the tables say can be made, by its rows of tables_1 -/
def lw_okq (q : MethodName × Nat) : Prop := (q.1.cls ≠ "java/lang/invoke/MethodHandle" ∧ q.1.cls ≠ "java/lang/invoke/VarHandle") ∧ Cond.instantiable q.1.cls q.2 ∈ tables_1 ∧ Cond.privateMethod q.1 ∈ tables_1 ∧ Cond.instanceMethod q.1 ∈ tables_1
theorem lw_p0 : lw_okq (⟨"StepperPlanner$SetupText", "takeLetter", "(I)V"⟩, 4) := ⟨⟨by decide +kernel, by decide +kernel⟩, List.mem_of_getElem? (i := 19) (by decide +kernel), List.mem_of_getElem? (i := 198) (by decide +kernel), List.mem_of_getElem? (i := 199) (by decide +kernel)⟩
theorem lw_p1 : lw_okq (⟨"StepperPlanner$SetupText", "present", "()I"⟩, 4) := ⟨⟨by decide +kernel, by decide +kernel⟩, List.mem_of_getElem? (i := 19) (by decide +kernel), List.mem_of_getElem? (i := 202) (by decide +kernel), List.mem_of_getElem? (i := 203) (by decide +kernel)⟩
theorem lw_p2 : lw_okq (⟨"StepperPlanner$SetupText", "failAt", "(I)V"⟩, 4) := ⟨⟨by decide +kernel, by decide +kernel⟩, List.mem_of_getElem? (i := 19) (by decide +kernel), List.mem_of_getElem? (i := 206) (by decide +kernel), List.mem_of_getElem? (i := 207) (by decide +kernel)⟩
theorem lw_p3 : lw_okq (⟨"StepperPlanner$SetupText", "takePositive", "(I)I"⟩, 4) := ⟨⟨by decide +kernel, by decide +kernel⟩, List.mem_of_getElem? (i := 19) (by decide +kernel), List.mem_of_getElem? (i := 210) (by decide +kernel), List.mem_of_getElem? (i := 211) (by decide +kernel)⟩
theorem lw_p4 : lw_okq (⟨"StepperPlanner$SetupText", "takeDigits", "(I)I"⟩, 4) := ⟨⟨by decide +kernel, by decide +kernel⟩, List.mem_of_getElem? (i := 19) (by decide +kernel), List.mem_of_getElem? (i := 214) (by decide +kernel), List.mem_of_getElem? (i := 215) (by decide +kernel)⟩
theorem lw_p5 : lw_okq (⟨"StepperPlanner$SetupText", "takeItem", "(LStepperPlanner$State;)V"⟩, 4) := ⟨⟨by decide +kernel, by decide +kernel⟩, List.mem_of_getElem? (i := 19) (by decide +kernel), List.mem_of_getElem? (i := 218) (by decide +kernel), List.mem_of_getElem? (i := 219) (by decide +kernel)⟩
theorem lw_p6 : lw_okq (⟨"StepperPlanner$SetupText", "takeDistance", "()I"⟩, 4) := ⟨⟨by decide +kernel, by decide +kernel⟩, List.mem_of_getElem? (i := 19) (by decide +kernel), List.mem_of_getElem? (i := 231) (by decide +kernel), List.mem_of_getElem? (i := 232) (by decide +kernel)⟩
theorem lw_p7 : lw_okq (⟨"StepperPlanner$State", "lengthOf", "(I)I"⟩, 12) := ⟨⟨by decide +kernel, by decide +kernel⟩, List.mem_of_getElem? (i := 40) (by decide +kernel), List.mem_of_getElem? (i := 288) (by decide +kernel), List.mem_of_getElem? (i := 289) (by decide +kernel)⟩
theorem lw_p8 : lw_okq (⟨"StepperPlanner", "presentRamp", "()LStepperPlanner$Ramp;"⟩, 7) := ⟨⟨by decide +kernel, by decide +kernel⟩, List.mem_of_getElem? (i := 11) (by decide +kernel), List.mem_of_getElem? (i := 307) (by decide +kernel), List.mem_of_getElem? (i := 308) (by decide +kernel)⟩
theorem lw_p9 : lw_okq (⟨"StepperPlanner$Ramp", "fillRoots", "()V"⟩, 5) := ⟨⟨by decide +kernel, by decide +kernel⟩, List.mem_of_getElem? (i := 128) (by decide +kernel), List.mem_of_getElem? (i := 315) (by decide +kernel), List.mem_of_getElem? (i := 316) (by decide +kernel)⟩
theorem lw_p10 : lw_okq (⟨"StepperPlanner$Ramp", "findTop", "()I"⟩, 5) := ⟨⟨by decide +kernel, by decide +kernel⟩, List.mem_of_getElem? (i := 128) (by decide +kernel), List.mem_of_getElem? (i := 331) (by decide +kernel), List.mem_of_getElem? (i := 332) (by decide +kernel)⟩
theorem lw_p11 : lw_okq (⟨"StepperPlanner$Ramp", "rampInterval", "(I)I"⟩, 5) := ⟨⟨by decide +kernel, by decide +kernel⟩, List.mem_of_getElem? (i := 128) (by decide +kernel), List.mem_of_getElem? (i := 342) (by decide +kernel), List.mem_of_getElem? (i := 343) (by decide +kernel)⟩
theorem lw_p12 : lw_okq (⟨"StepperPlanner$History", "at", "(I)LStepperPlanner$State;"⟩, 3) := ⟨⟨by decide +kernel, by decide +kernel⟩, List.mem_of_getElem? (i := 92) (by decide +kernel), List.mem_of_getElem? (i := 377) (by decide +kernel), List.mem_of_getElem? (i := 378) (by decide +kernel)⟩
theorem lw_p13 : lw_okq (⟨"StepperPlanner$State", "passWait", "(II)I"⟩, 12) := ⟨⟨by decide +kernel, by decide +kernel⟩, List.mem_of_getElem? (i := 40) (by decide +kernel), List.mem_of_getElem? (i := 416) (by decide +kernel), List.mem_of_getElem? (i := 417) (by decide +kernel)⟩
theorem lw_p14 : lw_okq (⟨"StepperPlanner$State", "advanceMove", "(LStepperPlanner$Ramp;II)I"⟩, 12) := ⟨⟨by decide +kernel, by decide +kernel⟩, List.mem_of_getElem? (i := 40) (by decide +kernel), List.mem_of_getElem? (i := 424) (by decide +kernel), List.mem_of_getElem? (i := 425) (by decide +kernel)⟩
theorem lw_p15 : lw_okq (⟨"StepperPlanner$State", "passWholeMove", "(LStepperPlanner$Ramp;)V"⟩, 12) := ⟨⟨by decide +kernel, by decide +kernel⟩, List.mem_of_getElem? (i := 40) (by decide +kernel), List.mem_of_getElem? (i := 434) (by decide +kernel), List.mem_of_getElem? (i := 435) (by decide +kernel)⟩
def lw_privs_1 : List (MethodName × Nat) := [(⟨"StepperPlanner$SetupText", "takeLetter", "(I)V"⟩, 4), (⟨"StepperPlanner$SetupText", "present", "()I"⟩, 4), (⟨"StepperPlanner$SetupText", "failAt", "(I)V"⟩, 4), (⟨"StepperPlanner$SetupText", "takePositive", "(I)I"⟩, 4), (⟨"StepperPlanner$SetupText", "takeDigits", "(I)I"⟩, 4), (⟨"StepperPlanner$SetupText", "takeItem", "(LStepperPlanner$State;)V"⟩, 4), (⟨"StepperPlanner$SetupText", "takeDistance", "()I"⟩, 4), (⟨"StepperPlanner$State", "lengthOf", "(I)I"⟩, 12), (⟨"StepperPlanner", "presentRamp", "()LStepperPlanner$Ramp;"⟩, 7), (⟨"StepperPlanner$Ramp", "fillRoots", "()V"⟩, 5), (⟨"StepperPlanner$Ramp", "findTop", "()I"⟩, 5), (⟨"StepperPlanner$Ramp", "rampInterval", "(I)I"⟩, 5), (⟨"StepperPlanner$History", "at", "(I)LStepperPlanner$State;"⟩, 3), (⟨"StepperPlanner$State", "passWait", "(II)I"⟩, 12), (⟨"StepperPlanner$State", "advanceMove", "(LStepperPlanner$Ramp;II)I"⟩, 12), (⟨"StepperPlanner$State", "passWholeMove", "(LStepperPlanner$Ramp;)V"⟩, 12)]
theorem lw_r1 : ∀ q ∈ lw_privs_1, lw_okq q := List.forall_mem_cons.mpr ⟨lw_p0, List.forall_mem_cons.mpr ⟨lw_p1, List.forall_mem_cons.mpr ⟨lw_p2, List.forall_mem_cons.mpr ⟨lw_p3, List.forall_mem_cons.mpr ⟨lw_p4, List.forall_mem_cons.mpr ⟨lw_p5, List.forall_mem_cons.mpr ⟨lw_p6, List.forall_mem_cons.mpr ⟨lw_p7, List.forall_mem_cons.mpr ⟨lw_p8, List.forall_mem_cons.mpr ⟨lw_p9, List.forall_mem_cons.mpr ⟨lw_p10, List.forall_mem_cons.mpr ⟨lw_p11, List.forall_mem_cons.mpr ⟨lw_p12, List.forall_mem_cons.mpr ⟨lw_p13, List.forall_mem_cons.mpr ⟨lw_p14, List.forall_mem_cons.mpr ⟨lw_p15, fun _ h => absurd h List.not_mem_nil⟩⟩⟩⟩⟩⟩⟩⟩⟩⟩⟩⟩⟩⟩⟩⟩
theorem lw_p16 : lw_okq (⟨"StepperPlanner$State", "makeSteps", "(LStepperPlanner$Ramp;II)V"⟩, 12) := ⟨⟨by decide +kernel, by decide +kernel⟩, List.mem_of_getElem? (i := 40) (by decide +kernel), List.mem_of_getElem? (i := 439) (by decide +kernel), List.mem_of_getElem? (i := 440) (by decide +kernel)⟩
theorem lw_p17 : lw_okq (⟨"StepperPlanner$State", "nextIndex", "(I)I"⟩, 12) := ⟨⟨by decide +kernel, by decide +kernel⟩, List.mem_of_getElem? (i := 40) (by decide +kernel), List.mem_of_getElem? (i := 443) (by decide +kernel), List.mem_of_getElem? (i := 444) (by decide +kernel)⟩
theorem lw_p18 : lw_okq (⟨"StepperPlanner$State", "moveAxes", "(I)V"⟩, 12) := ⟨⟨by decide +kernel, by decide +kernel⟩, List.mem_of_getElem? (i := 40) (by decide +kernel), List.mem_of_getElem? (i := 448) (by decide +kernel), List.mem_of_getElem? (i := 449) (by decide +kernel)⟩
theorem lw_p19 : lw_okq (⟨"StepperPlanner", "succeeds", "(I)Z"⟩, 7) := ⟨⟨by decide +kernel, by decide +kernel⟩, List.mem_of_getElem? (i := 11) (by decide +kernel), List.mem_of_getElem? (i := 521) (by decide +kernel), List.mem_of_getElem? (i := 522) (by decide +kernel)⟩
theorem lw_p20 : lw_okq (⟨"StepperPlanner", "slotAt", "(I)LStepperPlanner$SaveSlot;"⟩, 7) := ⟨⟨by decide +kernel, by decide +kernel⟩, List.mem_of_getElem? (i := 11) (by decide +kernel), List.mem_of_getElem? (i := 538) (by decide +kernel), List.mem_of_getElem? (i := 539) (by decide +kernel)⟩
theorem lw_p21 : lw_okq (⟨"StepperPlannerModel", "readText", "()I"⟩, 17) := ⟨⟨by decide +kernel, by decide +kernel⟩, List.mem_of_getElem? (i := 546) (by decide +kernel), List.mem_of_getElem? (i := 621) (by decide +kernel), List.mem_of_getElem? (i := 622) (by decide +kernel)⟩
theorem lw_p22 : lw_okq (⟨"StepperPlannerModel", "takes", "(I)Z"⟩, 17) := ⟨⟨by decide +kernel, by decide +kernel⟩, List.mem_of_getElem? (i := 546) (by decide +kernel), List.mem_of_getElem? (i := 625) (by decide +kernel), List.mem_of_getElem? (i := 626) (by decide +kernel)⟩
theorem lw_p23 : lw_okq (⟨"StepperPlannerModel", "number", "(II)I"⟩, 17) := ⟨⟨by decide +kernel, by decide +kernel⟩, List.mem_of_getElem? (i := 546) (by decide +kernel), List.mem_of_getElem? (i := 629) (by decide +kernel), List.mem_of_getElem? (i := 630) (by decide +kernel)⟩
theorem lw_p24 : lw_okq (⟨"StepperPlannerModel", "readItem", "()Z"⟩, 17) := ⟨⟨by decide +kernel, by decide +kernel⟩, List.mem_of_getElem? (i := 546) (by decide +kernel), List.mem_of_getElem? (i := 634) (by decide +kernel), List.mem_of_getElem? (i := 635) (by decide +kernel)⟩
theorem lw_p25 : lw_okq (⟨"StepperPlannerModel", "signedNumber", "(I)I"⟩, 17) := ⟨⟨by decide +kernel, by decide +kernel⟩, List.mem_of_getElem? (i := 546) (by decide +kernel), List.mem_of_getElem? (i := 638) (by decide +kernel), List.mem_of_getElem? (i := 639) (by decide +kernel)⟩
theorem lw_p26 : lw_okq (⟨"StepperPlannerModel", "fullTop", "(II)I"⟩, 17) := ⟨⟨by decide +kernel, by decide +kernel⟩, List.mem_of_getElem? (i := 546) (by decide +kernel), List.mem_of_getElem? (i := 686) (by decide +kernel), List.mem_of_getElem? (i := 687) (by decide +kernel)⟩
theorem lw_p27 : lw_okq (⟨"StepperPlannerModel", "topOf", "(III)I"⟩, 17) := ⟨⟨by decide +kernel, by decide +kernel⟩, List.mem_of_getElem? (i := 546) (by decide +kernel), List.mem_of_getElem? (i := 690) (by decide +kernel), List.mem_of_getElem? (i := 691) (by decide +kernel)⟩
theorem lw_p28 : lw_okq (⟨"StepperPlannerModel", "rampOf", "(II)I"⟩, 17) := ⟨⟨by decide +kernel, by decide +kernel⟩, List.mem_of_getElem? (i := 546) (by decide +kernel), List.mem_of_getElem? (i := 694) (by decide +kernel), List.mem_of_getElem? (i := 695) (by decide +kernel)⟩
theorem lw_p29 : lw_okq (⟨"StepperPlannerModel", "layRoots", "(II)V"⟩, 17) := ⟨⟨by decide +kernel, by decide +kernel⟩, List.mem_of_getElem? (i := 546) (by decide +kernel), List.mem_of_getElem? (i := 698) (by decide +kernel), List.mem_of_getElem? (i := 699) (by decide +kernel)⟩
theorem lw_p30 : lw_okq (⟨"StepperPlannerModel", "intervalOf", "(III)I"⟩, 17) := ⟨⟨by decide +kernel, by decide +kernel⟩, List.mem_of_getElem? (i := 546) (by decide +kernel), List.mem_of_getElem? (i := 713) (by decide +kernel), List.mem_of_getElem? (i := 714) (by decide +kernel)⟩
theorem lw_p31 : lw_okq (⟨"StepperPlannerModel", "note", "()V"⟩, 17) := ⟨⟨by decide +kernel, by decide +kernel⟩, List.mem_of_getElem? (i := 546) (by decide +kernel), List.mem_of_getElem? (i := 725) (by decide +kernel), List.mem_of_getElem? (i := 726) (by decide +kernel)⟩
def lw_privs_2 : List (MethodName × Nat) := [(⟨"StepperPlanner$State", "makeSteps", "(LStepperPlanner$Ramp;II)V"⟩, 12), (⟨"StepperPlanner$State", "nextIndex", "(I)I"⟩, 12), (⟨"StepperPlanner$State", "moveAxes", "(I)V"⟩, 12), (⟨"StepperPlanner", "succeeds", "(I)Z"⟩, 7), (⟨"StepperPlanner", "slotAt", "(I)LStepperPlanner$SaveSlot;"⟩, 7), (⟨"StepperPlannerModel", "readText", "()I"⟩, 17), (⟨"StepperPlannerModel", "takes", "(I)Z"⟩, 17), (⟨"StepperPlannerModel", "number", "(II)I"⟩, 17), (⟨"StepperPlannerModel", "readItem", "()Z"⟩, 17), (⟨"StepperPlannerModel", "signedNumber", "(I)I"⟩, 17), (⟨"StepperPlannerModel", "fullTop", "(II)I"⟩, 17), (⟨"StepperPlannerModel", "topOf", "(III)I"⟩, 17), (⟨"StepperPlannerModel", "rampOf", "(II)I"⟩, 17), (⟨"StepperPlannerModel", "layRoots", "(II)V"⟩, 17), (⟨"StepperPlannerModel", "intervalOf", "(III)I"⟩, 17), (⟨"StepperPlannerModel", "note", "()V"⟩, 17)]
theorem lw_r2 : ∀ q ∈ lw_privs_2, lw_okq q := List.forall_mem_cons.mpr ⟨lw_p16, List.forall_mem_cons.mpr ⟨lw_p17, List.forall_mem_cons.mpr ⟨lw_p18, List.forall_mem_cons.mpr ⟨lw_p19, List.forall_mem_cons.mpr ⟨lw_p20, List.forall_mem_cons.mpr ⟨lw_p21, List.forall_mem_cons.mpr ⟨lw_p22, List.forall_mem_cons.mpr ⟨lw_p23, List.forall_mem_cons.mpr ⟨lw_p24, List.forall_mem_cons.mpr ⟨lw_p25, List.forall_mem_cons.mpr ⟨lw_p26, List.forall_mem_cons.mpr ⟨lw_p27, List.forall_mem_cons.mpr ⟨lw_p28, List.forall_mem_cons.mpr ⟨lw_p29, List.forall_mem_cons.mpr ⟨lw_p30, List.forall_mem_cons.mpr ⟨lw_p31, fun _ h => absurd h List.not_mem_nil⟩⟩⟩⟩⟩⟩⟩⟩⟩⟩⟩⟩⟩⟩⟩⟩
theorem lw_p32 : lw_okq (⟨"StepperPlannerModel", "addItem", "(III)I"⟩, 17) := ⟨⟨by decide +kernel, by decide +kernel⟩, List.mem_of_getElem? (i := 546) (by decide +kernel), List.mem_of_getElem? (i := 737) (by decide +kernel), List.mem_of_getElem? (i := 738) (by decide +kernel)⟩
theorem lw_p33 : lw_okq (⟨"StepperPlannerModel", "stepIn", "([I)I"⟩, 17) := ⟨⟨by decide +kernel, by decide +kernel⟩, List.mem_of_getElem? (i := 546) (by decide +kernel), List.mem_of_getElem? (i := 750) (by decide +kernel), List.mem_of_getElem? (i := 751) (by decide +kernel)⟩
theorem lw_p34 : lw_okq (⟨"StepperPlannerModel", "nextTicks", "([I)I"⟩, 17) := ⟨⟨by decide +kernel, by decide +kernel⟩, List.mem_of_getElem? (i := 546) (by decide +kernel), List.mem_of_getElem? (i := 754) (by decide +kernel), List.mem_of_getElem? (i := 755) (by decide +kernel)⟩
theorem lw_p35 : lw_okq (⟨"StepperPlannerModel", "nextIndex", "([I)I"⟩, 17) := ⟨⟨by decide +kernel, by decide +kernel⟩, List.mem_of_getElem? (i := 546) (by decide +kernel), List.mem_of_getElem? (i := 758) (by decide +kernel), List.mem_of_getElem? (i := 759) (by decide +kernel)⟩
theorem lw_p36 : lw_okq (⟨"StepperPlannerModel", "runIn", "([II)I"⟩, 17) := ⟨⟨by decide +kernel, by decide +kernel⟩, List.mem_of_getElem? (i := 546) (by decide +kernel), List.mem_of_getElem? (i := 779) (by decide +kernel), List.mem_of_getElem? (i := 780) (by decide +kernel)⟩
theorem lw_p37 : lw_okq (⟨"StepperPlannerModel", "ticksOf", "(III)I"⟩, 17) := ⟨⟨by decide +kernel, by decide +kernel⟩, List.mem_of_getElem? (i := 546) (by decide +kernel), List.mem_of_getElem? (i := 806) (by decide +kernel), List.mem_of_getElem? (i := 807) (by decide +kernel)⟩
theorem lw_p38 : lw_okq (⟨"StepperPlannerModel", "command", "(II)Z"⟩, 17) := ⟨⟨by decide +kernel, by decide +kernel⟩, List.mem_of_getElem? (i := 546) (by decide +kernel), List.mem_of_getElem? (i := 831) (by decide +kernel), List.mem_of_getElem? (i := 832) (by decide +kernel)⟩
def lw_privs_3 : List (MethodName × Nat) := [(⟨"StepperPlannerModel", "addItem", "(III)I"⟩, 17), (⟨"StepperPlannerModel", "stepIn", "([I)I"⟩, 17), (⟨"StepperPlannerModel", "nextTicks", "([I)I"⟩, 17), (⟨"StepperPlannerModel", "nextIndex", "([I)I"⟩, 17), (⟨"StepperPlannerModel", "runIn", "([II)I"⟩, 17), (⟨"StepperPlannerModel", "ticksOf", "(III)I"⟩, 17), (⟨"StepperPlannerModel", "command", "(II)Z"⟩, 17)]
theorem lw_r3 : ∀ q ∈ lw_privs_3, lw_okq q := List.forall_mem_cons.mpr ⟨lw_p32, List.forall_mem_cons.mpr ⟨lw_p33, List.forall_mem_cons.mpr ⟨lw_p34, List.forall_mem_cons.mpr ⟨lw_p35, List.forall_mem_cons.mpr ⟨lw_p36, List.forall_mem_cons.mpr ⟨lw_p37, List.forall_mem_cons.mpr ⟨lw_p38, fun _ h => absurd h List.not_mem_nil⟩⟩⟩⟩⟩⟩⟩
def lw_privs : List (MethodName × Nat) := lw_privs_1 ++ (lw_privs_2 ++ (lw_privs_3))
def lw_tbl : List Cond := k2_sels lw_privs ++ tables_1
theorem lw_privs_ok : ∀ q ∈ lw_privs, lw_okq q := by
  show ∀ q ∈ lw_privs_1 ++ (lw_privs_2 ++ (lw_privs_3)), lw_okq q
  exact List.forall_mem_append.mpr ⟨lw_r1, List.forall_mem_append.mpr ⟨lw_r2, lw_r3⟩⟩

/-! the words that every contract of ours carries: all of the tables that a callee's start keeps -/
def TB : List Cond := lw_tbl.filter goodWord
theorem tb_good : ∀ w ∈ TB, (w.onTables && w.keeps) = true ∨ ∃ ty, w = .arrayClass ty := fun _ h => good_of_word (List.mem_filter.mp h).2
theorem tb_lw : ∀ w ∈ TB, w ∈ lw_tbl := fun _ h => (List.mem_filter.mp h).1
/-- a word of the tables by its place -/
theorem tb_at {w : Cond} (i : Nat) (h : tables_1[i]? = some w) (hg : goodWord w = true) : w ∈ TB := List.mem_filter.mpr ⟨List.mem_append_right _ (List.mem_of_getElem? h), hg⟩
/-- a 'selects' of a private method by its place -/
theorem tb_sel {w : Cond} (i : Nat) (h : (k2_sels lw_privs)[i]? = some w) (hg : goodWord w = true) : w ∈ TB := List.mem_filter.mpr ⟨List.mem_append_left _ (List.mem_of_getElem? h), hg⟩
end
section
def RX0 : String := "StepperPlanner$History"
def TX0 : u_T := fun k => match k with
  | 0 => ("StepperPlanner$History", "ring", "[LStepperPlanner$State;", true)
  | 1 => ("StepperPlanner$History", "end", "I", false)
  | _ => ("StepperPlanner$History", "count", "I", false)
def tyX0 : Nat → FieldType := fun k => match k with
  | 0 => .array (.object "StepperPlanner$State")
  | 1 => .int
  | _ => .int
theorem nmX0 : ∀ a, a < 3 → ∀ b, b < 3 → a ≠ b → (TX0 a).2.1 ≠ (TX0 b).2.1 := by decide +kernel
theorem tyX0_ok : ∀ k, k < 3 → parseFieldDescriptor (TX0 k).2.2.1 = some (tyX0 k) := by decide +kernel
abbrev cX0_init : ByteArray := prog_2_method_1_code
def yX0_init : MethodName := ⟨RX0, "<init>", "()V"⟩
abbrev cX0_at : ByteArray := prog_2_method_2_code
def yX0_at : MethodName := ⟨RX0, "at", "(I)LStepperPlanner$State;"⟩
abbrev cX0_remember : ByteArray := prog_2_method_3_code
def yX0_remember : MethodName := ⟨RX0, "remember", "(LStepperPlanner$State;)V"⟩
abbrev cX0_takeBack : ByteArray := prog_2_method_4_code
def yX0_takeBack : MethodName := ⟨RX0, "takeBack", "(LStepperPlanner$State;)Z"⟩
abbrev cX0_forget : ByteArray := prog_2_method_5_code
def yX0_forget : MethodName := ⟨RX0, "forget", "()V"⟩
def RX1 : String := "StepperPlanner$Profile"
def TX1 : u_T := fun k => match k with
  | _ => ("", "", "", false)
def tyX1 : Nat → FieldType := fun k => match k with
  | _ => .int
theorem nmX1 : ∀ a, a < 0 → ∀ b, b < 0 → a ≠ b → (TX1 a).2.1 ≠ (TX1 b).2.1 := by decide +kernel
theorem tyX1_ok : ∀ k, k < 0 → parseFieldDescriptor (TX1 k).2.2.1 = some (tyX1 k) := by decide +kernel
abbrev cX1_root : ByteArray := prog_3_method_2_code
def yX1_root : MethodName := ⟨RX1, "root", "(III)I"⟩
abbrev cX1_rootAfter : ByteArray := prog_3_method_3_code
def yX1_rootAfter : MethodName := ⟨RX1, "rootAfter", "(III)I"⟩
abbrev cX1_cruiseInterval : ByteArray := prog_3_method_4_code
def yX1_cruiseInterval : MethodName := ⟨RX1, "cruiseInterval", "(I)I"⟩
abbrev cX1_rampAtLeast : ByteArray := prog_3_method_5_code
def yX1_rampAtLeast : MethodName := ⟨RX1, "rampAtLeast", "(III)I"⟩
abbrev cX1_ticksOfMove : ByteArray := prog_3_method_6_code
def yX1_ticksOfMove : MethodName := ⟨RX1, "ticksOfMove", "(III)I"⟩
abbrev cX1_leastCandidate : ByteArray := prog_3_method_7_code
def yX1_leastCandidate : MethodName := ⟨RX1, "leastCandidate", "(III)I"⟩
def RX2 : String := "StepperPlanner$Ramp"
def TX2 : u_T := fun k => match k with
  | 0 => ("StepperPlanner$Ramp", "acceleration", "I", false)
  | 1 => ("StepperPlanner$Ramp", "speedLimit", "I", false)
  | 2 => ("StepperPlanner$Ramp", "cruise", "I", false)
  | 3 => ("StepperPlanner$Ramp", "top", "I", false)
  | _ => ("StepperPlanner$Ramp", "roots", "[I", true)
def tyX2 : Nat → FieldType := fun k => match k with
  | 0 => .int
  | 1 => .int
  | 2 => .int
  | 3 => .int
  | _ => .array .int
theorem nmX2 : ∀ a, a < 5 → ∀ b, b < 5 → a ≠ b → (TX2 a).2.1 ≠ (TX2 b).2.1 := by decide +kernel
theorem tyX2_ok : ∀ k, k < 5 → parseFieldDescriptor (TX2 k).2.2.1 = some (tyX2 k) := by decide +kernel
abbrev cX2_init : ByteArray := prog_4_method_1_code
def yX2_init : MethodName := ⟨RX2, "<init>", "()V"⟩
abbrev cX2_prepare : ByteArray := prog_4_method_2_code
def yX2_prepare : MethodName := ⟨RX2, "prepare", "(II)V"⟩
abbrev cX2_fillRoots : ByteArray := prog_4_method_3_code
def yX2_fillRoots : MethodName := ⟨RX2, "fillRoots", "()V"⟩
abbrev cX2_findTop : ByteArray := prog_4_method_4_code
def yX2_findTop : MethodName := ⟨RX2, "findTop", "()I"⟩
abbrev cX2_rampInterval : ByteArray := prog_4_method_5_code
def yX2_rampInterval : MethodName := ⟨RX2, "rampInterval", "(I)I"⟩
abbrev cX2_intervalOf : ByteArray := prog_4_method_6_code
def yX2_intervalOf : MethodName := ⟨RX2, "intervalOf", "(I)I"⟩
abbrev cX2_ticksOfMove : ByteArray := prog_4_method_7_code
def yX2_ticksOfMove : MethodName := ⟨RX2, "ticksOfMove", "(I)I"⟩
abbrev cX2_approximation : ByteArray := prog_4_method_8_code
def yX2_approximation : MethodName := ⟨RX2, "approximation", "(I)I"⟩
def RX3 : String := "StepperPlanner$SaveSlot"
def TX3 : u_T := fun k => match k with
  | 0 => ("StepperPlanner$SaveSlot", "state", "LStepperPlanner$State;", true)
  | _ => ("StepperPlanner$SaveSlot", "filled", "Z", false)
def tyX3 : Nat → FieldType := fun k => match k with
  | 0 => .object "StepperPlanner$State"
  | _ => .boolean
theorem nmX3 : ∀ a, a < 2 → ∀ b, b < 2 → a ≠ b → (TX3 a).2.1 ≠ (TX3 b).2.1 := by decide +kernel
theorem tyX3_ok : ∀ k, k < 2 → parseFieldDescriptor (TX3 k).2.2.1 = some (tyX3 k) := by decide +kernel
abbrev cX3_init : ByteArray := prog_5_method_1_code
def yX3_init : MethodName := ⟨RX3, "<init>", "()V"⟩
def RX4 : String := "StepperPlanner$SetupText"
def TX4 : u_T := fun k => match k with
  | 0 => ("StepperPlanner$SetupText", "characters", "[I", true)
  | 1 => ("StepperPlanner$SetupText", "length", "I", false)
  | 2 => ("StepperPlanner$SetupText", "at", "I", false)
  | _ => ("StepperPlanner$SetupText", "fault", "I", false)
def tyX4 : Nat → FieldType := fun k => match k with
  | 0 => .array .int
  | 1 => .int
  | 2 => .int
  | _ => .int
theorem nmX4 : ∀ a, a < 4 → ∀ b, b < 4 → a ≠ b → (TX4 a).2.1 ≠ (TX4 b).2.1 := by decide +kernel
theorem tyX4_ok : ∀ k, k < 4 → parseFieldDescriptor (TX4 k).2.2.1 = some (tyX4 k) := by decide +kernel
abbrev cX4_init : ByteArray := prog_6_method_1_code
def yX4_init : MethodName := ⟨RX4, "<init>", "()V"⟩
abbrev cX4_add : ByteArray := prog_6_method_2_code
def yX4_add : MethodName := ⟨RX4, "add", "(I)Z"⟩
abbrev cX4_readInto : ByteArray := prog_6_method_3_code
def yX4_readInto : MethodName := ⟨RX4, "readInto", "(LStepperPlanner$State;)I"⟩
abbrev cX4_takeItem : ByteArray := prog_6_method_4_code
def yX4_takeItem : MethodName := ⟨RX4, "takeItem", "(LStepperPlanner$State;)V"⟩
abbrev cX4_present : ByteArray := prog_6_method_5_code
def yX4_present : MethodName := ⟨RX4, "present", "()I"⟩
abbrev cX4_failAt : ByteArray := prog_6_method_6_code
def yX4_failAt : MethodName := ⟨RX4, "failAt", "(I)V"⟩
abbrev cX4_takeLetter : ByteArray := prog_6_method_7_code
def yX4_takeLetter : MethodName := ⟨RX4, "takeLetter", "(I)V"⟩
abbrev cX4_takeDistance : ByteArray := prog_6_method_8_code
def yX4_takeDistance : MethodName := ⟨RX4, "takeDistance", "()I"⟩
abbrev cX4_takePositive : ByteArray := prog_6_method_9_code
def yX4_takePositive : MethodName := ⟨RX4, "takePositive", "(I)I"⟩
abbrev cX4_takeDigits : ByteArray := prog_6_method_10_code
def yX4_takeDigits : MethodName := ⟨RX4, "takeDigits", "(I)I"⟩
def RX5 : String := "StepperPlanner$State"
def TX5 : u_T := fun k => match k with
  | 0 => ("StepperPlanner$State", "acceleration", "I", false)
  | 1 => ("StepperPlanner$State", "speedLimit", "I", false)
  | 2 => ("StepperPlanner$State", "x", "I", false)
  | 3 => ("StepperPlanner$State", "y", "I", false)
  | 4 => ("StepperPlanner$State", "ticks", "I", false)
  | 5 => ("StepperPlanner$State", "count", "I", false)
  | 6 => ("StepperPlanner$State", "distancesX", "[I", true)
  | 7 => ("StepperPlanner$State", "distancesY", "[I", true)
  | 8 => ("StepperPlanner$State", "waits", "[I", true)
  | 9 => ("StepperPlanner$State", "made", "I", false)
  | 10 => ("StepperPlanner$State", "left", "I", false)
  | _ => ("StepperPlanner$State", "index", "I", false)
def tyX5 : Nat → FieldType := fun k => match k with
  | 0 => .int
  | 1 => .int
  | 2 => .int
  | 3 => .int
  | 4 => .int
  | 5 => .int
  | 6 => .array .int
  | 7 => .array .int
  | 8 => .array .int
  | 9 => .int
  | 10 => .int
  | _ => .int
theorem nmX5 : ∀ a, a < 12 → ∀ b, b < 12 → a ≠ b → (TX5 a).2.1 ≠ (TX5 b).2.1 := by decide +kernel
theorem tyX5_ok : ∀ k, k < 12 → parseFieldDescriptor (TX5 k).2.2.1 = some (tyX5 k) := by decide +kernel
abbrev cX5_init : ByteArray := prog_7_method_1_code
def yX5_init : MethodName := ⟨RX5, "<init>", "()V"⟩
abbrev cX5_become : ByteArray := prog_7_method_2_code
def yX5_become : MethodName := ⟨RX5, "become", "(LStepperPlanner$State;)V"⟩
abbrev cX5_clear : ByteArray := prog_7_method_3_code
def yX5_clear : MethodName := ⟨RX5, "clear", "()V"⟩
abbrev cX5_shownPosition : ByteArray := prog_7_method_4_code
def yX5_shownPosition : MethodName := ⟨RX5, "shownPosition", "(I)I"⟩
abbrev cX5_isFull : ByteArray := prog_7_method_5_code
def yX5_isFull : MethodName := ⟨RX5, "isFull", "()Z"⟩
abbrev cX5_isMoving : ByteArray := prog_7_method_6_code
def yX5_isMoving : MethodName := ⟨RX5, "isMoving", "()Z"⟩
abbrev cX5_hasItem : ByteArray := prog_7_method_7_code
def yX5_hasItem : MethodName := ⟨RX5, "hasItem", "(I)Z"⟩
abbrev cX5_isWait : ByteArray := prog_7_method_8_code
def yX5_isWait : MethodName := ⟨RX5, "isWait", "(I)Z"⟩
abbrev cX5_lengthOf : ByteArray := prog_7_method_9_code
def yX5_lengthOf : MethodName := ⟨RX5, "lengthOf", "(I)I"⟩
abbrev cX5_stepsLeftOf : ByteArray := prog_7_method_10_code
def yX5_stepsLeftOf : MethodName := ⟨RX5, "stepsLeftOf", "(I)I"⟩
abbrev cX5_addItem : ByteArray := prog_7_method_11_code
def yX5_addItem : MethodName := ⟨RX5, "addItem", "(III)V"⟩
abbrev cX5_dropItem : ByteArray := prog_7_method_12_code
def yX5_dropItem : MethodName := ⟨RX5, "dropItem", "(I)V"⟩
abbrev cX5_halt : ByteArray := prog_7_method_13_code
def yX5_halt : MethodName := ⟨RX5, "halt", "()I"⟩
abbrev cX5_advance : ByteArray := prog_7_method_14_code
def yX5_advance : MethodName := ⟨RX5, "advance", "(LStepperPlanner$Ramp;II)I"⟩
abbrev cX5_passWait : ByteArray := prog_7_method_15_code
def yX5_passWait : MethodName := ⟨RX5, "passWait", "(II)I"⟩
abbrev cX5_advanceMove : ByteArray := prog_7_method_16_code
def yX5_advanceMove : MethodName := ⟨RX5, "advanceMove", "(LStepperPlanner$Ramp;II)I"⟩
abbrev cX5_passWholeMove : ByteArray := prog_7_method_17_code
def yX5_passWholeMove : MethodName := ⟨RX5, "passWholeMove", "(LStepperPlanner$Ramp;)V"⟩
abbrev cX5_makeSteps : ByteArray := prog_7_method_18_code
def yX5_makeSteps : MethodName := ⟨RX5, "makeSteps", "(LStepperPlanner$Ramp;II)V"⟩
abbrev cX5_nextIndex : ByteArray := prog_7_method_19_code
def yX5_nextIndex : MethodName := ⟨RX5, "nextIndex", "(I)I"⟩
abbrev cX5_moveAxes : ByteArray := prog_7_method_20_code
def yX5_moveAxes : MethodName := ⟨RX5, "moveAxes", "(I)V"⟩
abbrev cX5_way : ByteArray := prog_7_method_21_code
def yX5_way : MethodName := ⟨RX5, "way", "(III)I"⟩
def RX6 : String := "StepperPlanner"
def TX6 : u_T := fun k => match k with
  | 0 => ("StepperPlanner", "text", "LStepperPlanner$SetupText;", true)
  | 1 => ("StepperPlanner", "state", "LStepperPlanner$State;", true)
  | 2 => ("StepperPlanner", "copy", "LStepperPlanner$State;", true)
  | 3 => ("StepperPlanner", "history", "LStepperPlanner$History;", true)
  | 4 => ("StepperPlanner", "firstSlot", "LStepperPlanner$SaveSlot;", true)
  | 5 => ("StepperPlanner", "secondSlot", "LStepperPlanner$SaveSlot;", true)
  | _ => ("StepperPlanner", "ramp", "LStepperPlanner$Ramp;", true)
def tyX6 : Nat → FieldType := fun k => match k with
  | 0 => .object "StepperPlanner$SetupText"
  | 1 => .object "StepperPlanner$State"
  | 2 => .object "StepperPlanner$State"
  | 3 => .object "StepperPlanner$History"
  | 4 => .object "StepperPlanner$SaveSlot"
  | 5 => .object "StepperPlanner$SaveSlot"
  | _ => .object "StepperPlanner$Ramp"
theorem nmX6 : ∀ a, a < 7 → ∀ b, b < 7 → a ≠ b → (TX6 a).2.1 ≠ (TX6 b).2.1 := by decide +kernel
theorem tyX6_ok : ∀ k, k < 7 → parseFieldDescriptor (TX6 k).2.2.1 = some (tyX6 k) := by decide +kernel
abbrev cX6_init : ByteArray := prog_1_method_1_code
def yX6_init : MethodName := ⟨RX6, "<init>", "()V"⟩
abbrev cX6_append : ByteArray := prog_1_method_2_code
def yX6_append : MethodName := ⟨RX6, "append", "(I)I"⟩
abbrev cX6_clearText : ByteArray := prog_1_method_3_code
def yX6_clearText : MethodName := ⟨RX6, "clearText", "()I"⟩
abbrev cX6_errorPosition : ByteArray := prog_1_method_4_code
def yX6_errorPosition : MethodName := ⟨RX6, "errorPosition", "()I"⟩
abbrev cX6_load : ByteArray := prog_1_method_5_code
def yX6_load : MethodName := ⟨RX6, "load", "()I"⟩
abbrev cX6_position : ByteArray := prog_1_method_6_code
def yX6_position : MethodName := ⟨RX6, "position", "(I)I"⟩
abbrev cX6_clock : ByteArray := prog_1_method_7_code
def yX6_clock : MethodName := ⟨RX6, "clock", "()I"⟩
abbrev cX6_queueLength : ByteArray := prog_1_method_8_code
def yX6_queueLength : MethodName := ⟨RX6, "queueLength", "()I"⟩
abbrev cX6_itemAt : ByteArray := prog_1_method_9_code
def yX6_itemAt : MethodName := ⟨RX6, "itemAt", "(I)I"⟩
abbrev cX6_rampIndex : ByteArray := prog_1_method_10_code
def yX6_rampIndex : MethodName := ⟨RX6, "rampIndex", "()I"⟩
abbrev cX6_topIndex : ByteArray := prog_1_method_11_code
def yX6_topIndex : MethodName := ⟨RX6, "topIndex", "()I"⟩
abbrev cX6_interval : ByteArray := prog_1_method_12_code
def yX6_interval : MethodName := ⟨RX6, "interval", "(I)I"⟩
abbrev cX6_approximateInterval : ByteArray := prog_1_method_13_code
def yX6_approximateInterval : MethodName := ⟨RX6, "approximateInterval", "(I)I"⟩
abbrev cX6_setAcceleration : ByteArray := prog_1_method_14_code
def yX6_setAcceleration : MethodName := ⟨RX6, "setAcceleration", "(I)I"⟩
abbrev cX6_setSpeedLimit : ByteArray := prog_1_method_15_code
def yX6_setSpeedLimit : MethodName := ⟨RX6, "setSpeedLimit", "(I)I"⟩
abbrev cX6_addMove : ByteArray := prog_1_method_16_code
def yX6_addMove : MethodName := ⟨RX6, "addMove", "(II)I"⟩
abbrev cX6_addWait : ByteArray := prog_1_method_17_code
def yX6_addWait : MethodName := ⟨RX6, "addWait", "(I)I"⟩
abbrev cX6_step : ByteArray := prog_1_method_18_code
def yX6_step : MethodName := ⟨RX6, "step", "()I"⟩
abbrev cX6_run : ByteArray := prog_1_method_19_code
def yX6_run : MethodName := ⟨RX6, "run", "(I)I"⟩
abbrev cX6_stop : ByteArray := prog_1_method_20_code
def yX6_stop : MethodName := ⟨RX6, "stop", "()I"⟩
abbrev cX6_removeItem : ByteArray := prog_1_method_21_code
def yX6_removeItem : MethodName := ⟨RX6, "removeItem", "(I)I"⟩
abbrev cX6_undo : ByteArray := prog_1_method_22_code
def yX6_undo : MethodName := ⟨RX6, "undo", "()I"⟩
abbrev cX6_ticksLeft : ByteArray := prog_1_method_23_code
def yX6_ticksLeft : MethodName := ⟨RX6, "ticksLeft", "()I"⟩
abbrev cX6_moveTicks : ByteArray := prog_1_method_24_code
def yX6_moveTicks : MethodName := ⟨RX6, "moveTicks", "(I)I"⟩
abbrev cX6_positionAfter : ByteArray := prog_1_method_25_code
def yX6_positionAfter : MethodName := ⟨RX6, "positionAfter", "(II)I"⟩
abbrev cX6_leastAcceleration : ByteArray := prog_1_method_26_code
def yX6_leastAcceleration : MethodName := ⟨RX6, "leastAcceleration", "(II)I"⟩
abbrev cX6_greatestLength : ByteArray := prog_1_method_27_code
def yX6_greatestLength : MethodName := ⟨RX6, "greatestLength", "(I)I"⟩
abbrev cX6_runScript : ByteArray := prog_1_method_28_code
def yX6_runScript : MethodName := ⟨RX6, "runScript", "(IJ)I"⟩
abbrev cX6_randomSpeeds : ByteArray := prog_1_method_29_code
def yX6_randomSpeeds : MethodName := ⟨RX6, "randomSpeeds", "(JI)I"⟩
abbrev cX6_save : ByteArray := prog_1_method_30_code
def yX6_save : MethodName := ⟨RX6, "save", "(I)I"⟩
abbrev cX6_restore : ByteArray := prog_1_method_31_code
def yX6_restore : MethodName := ⟨RX6, "restore", "(I)I"⟩
abbrev cX6_isAxis : ByteArray := prog_1_method_32_code
def yX6_isAxis : MethodName := ⟨RX6, "isAxis", "(I)Z"⟩
abbrev cX6_isSlot : ByteArray := prog_1_method_33_code
def yX6_isSlot : MethodName := ⟨RX6, "isSlot", "(I)Z"⟩
abbrev cX6_isIndex : ByteArray := prog_1_method_34_code
def yX6_isIndex : MethodName := ⟨RX6, "isIndex", "(I)Z"⟩
abbrev cX6_isPositive : ByteArray := prog_1_method_35_code
def yX6_isPositive : MethodName := ⟨RX6, "isPositive", "(II)Z"⟩
abbrev cX6_isDistance : ByteArray := prog_1_method_36_code
def yX6_isDistance : MethodName := ⟨RX6, "isDistance", "(I)Z"⟩
abbrev cX6_slotAt : ByteArray := prog_1_method_37_code
def yX6_slotAt : MethodName := ⟨RX6, "slotAt", "(I)LStepperPlanner$SaveSlot;"⟩
abbrev cX6_presentRamp : ByteArray := prog_1_method_38_code
def yX6_presentRamp : MethodName := ⟨RX6, "presentRamp", "()LStepperPlanner$Ramp;"⟩
abbrev cX6_succeeds : ByteArray := prog_1_method_39_code
def yX6_succeeds : MethodName := ⟨RX6, "succeeds", "(I)Z"⟩
def RX7 : String := "StepperPlannerModel"
def TX7 : u_T := fun k => match k with
  | 0 => ("StepperPlannerModel", "text", "[I", true)
  | 1 => ("StepperPlannerModel", "length", "I", false)
  | 2 => ("StepperPlannerModel", "place", "I", false)
  | 3 => ("StepperPlannerModel", "now", "[I", true)
  | 4 => ("StepperPlannerModel", "trial", "[I", true)
  | 5 => ("StepperPlannerModel", "read", "[I", true)
  | 6 => ("StepperPlannerModel", "diary", "[I", true)
  | 7 => ("StepperPlannerModel", "acts", "I", false)
  | 8 => ("StepperPlannerModel", "next", "I", false)
  | 9 => ("StepperPlannerModel", "kept", "[I", true)
  | 10 => ("StepperPlannerModel", "isKept", "[Z", true)
  | 11 => ("StepperPlannerModel", "root", "[I", true)
  | 12 => ("StepperPlannerModel", "rootOf", "I", false)
  | 13 => ("StepperPlannerModel", "rootMany", "I", false)
  | 14 => ("StepperPlannerModel", "topAt", "I", false)
  | 15 => ("StepperPlannerModel", "topWith", "I", false)
  | _ => ("StepperPlannerModel", "topWas", "I", false)
def tyX7 : Nat → FieldType := fun k => match k with
  | 0 => .array .int
  | 1 => .int
  | 2 => .int
  | 3 => .array .int
  | 4 => .array .int
  | 5 => .array .int
  | 6 => .array .int
  | 7 => .int
  | 8 => .int
  | 9 => .array .int
  | 10 => .array .boolean
  | 11 => .array .int
  | 12 => .int
  | 13 => .int
  | 14 => .int
  | 15 => .int
  | _ => .int
theorem nmX7 : ∀ a, a < 17 → ∀ b, b < 17 → a ≠ b → (TX7 a).2.1 ≠ (TX7 b).2.1 := by decide +kernel
theorem tyX7_ok : ∀ k, k < 17 → parseFieldDescriptor (TX7 k).2.2.1 = some (tyX7 k) := by decide +kernel
abbrev cX7_init : ByteArray := prog_9_method_1_code
def yX7_init : MethodName := ⟨RX7, "<init>", "()V"⟩
abbrev cX7_in : ByteArray := prog_9_method_3_code
def yX7_in : MethodName := ⟨RX7, "in", "(JJJ)Z"⟩
abbrev cX7_copy : ByteArray := prog_9_method_4_code
def yX7_copy : MethodName := ⟨RX7, "copy", "([I[I)V"⟩
abbrev cX7_abs : ByteArray := prog_9_method_5_code
def yX7_abs : MethodName := ⟨RX7, "abs", "(I)I"⟩
abbrev cX7_squareRoot : ByteArray := prog_9_method_6_code
def yX7_squareRoot : MethodName := ⟨RX7, "squareRoot", "(J)I"⟩
abbrev cX7_layRoots : ByteArray := prog_9_method_7_code
def yX7_layRoots : MethodName := ⟨RX7, "layRoots", "(II)V"⟩
abbrev cX7_rampOf : ByteArray := prog_9_method_8_code
def yX7_rampOf : MethodName := ⟨RX7, "rampOf", "(II)I"⟩
abbrev cX7_cruiseOf : ByteArray := prog_9_method_9_code
def yX7_cruiseOf : MethodName := ⟨RX7, "cruiseOf", "(I)I"⟩
abbrev cX7_topOf : ByteArray := prog_9_method_10_code
def yX7_topOf : MethodName := ⟨RX7, "topOf", "(III)I"⟩
abbrev cX7_fullTop : ByteArray := prog_9_method_11_code
def yX7_fullTop : MethodName := ⟨RX7, "fullTop", "(II)I"⟩
abbrev cX7_intervalOf : ByteArray := prog_9_method_12_code
def yX7_intervalOf : MethodName := ⟨RX7, "intervalOf", "(III)I"⟩
abbrev cX7_indexAfter : ByteArray := prog_9_method_13_code
def yX7_indexAfter : MethodName := ⟨RX7, "indexAfter", "(III)I"⟩
abbrev cX7_ticksOf : ByteArray := prog_9_method_14_code
def yX7_ticksOf : MethodName := ⟨RX7, "ticksOf", "(III)I"⟩
abbrev cX7_append : ByteArray := prog_9_method_15_code
def yX7_append : MethodName := ⟨RX7, "append", "(I)I"⟩
abbrev cX7_clearText : ByteArray := prog_9_method_16_code
def yX7_clearText : MethodName := ⟨RX7, "clearText", "()I"⟩
abbrev cX7_takes : ByteArray := prog_9_method_17_code
def yX7_takes : MethodName := ⟨RX7, "takes", "(I)Z"⟩
abbrev cX7_number : ByteArray := prog_9_method_18_code
def yX7_number : MethodName := ⟨RX7, "number", "(II)I"⟩
abbrev cX7_signedNumber : ByteArray := prog_9_method_19_code
def yX7_signedNumber : MethodName := ⟨RX7, "signedNumber", "(I)I"⟩
abbrev cX7_readItem : ByteArray := prog_9_method_20_code
def yX7_readItem : MethodName := ⟨RX7, "readItem", "()Z"⟩
abbrev cX7_readText : ByteArray := prog_9_method_21_code
def yX7_readText : MethodName := ⟨RX7, "readText", "()I"⟩
abbrev cX7_errorPosition : ByteArray := prog_9_method_22_code
def yX7_errorPosition : MethodName := ⟨RX7, "errorPosition", "()I"⟩
abbrev cX7_load : ByteArray := prog_9_method_23_code
def yX7_load : MethodName := ⟨RX7, "load", "()I"⟩
abbrev cX7_position : ByteArray := prog_9_method_24_code
def yX7_position : MethodName := ⟨RX7, "position", "(I)I"⟩
abbrev cX7_clock : ByteArray := prog_9_method_25_code
def yX7_clock : MethodName := ⟨RX7, "clock", "()I"⟩
abbrev cX7_queueLength : ByteArray := prog_9_method_26_code
def yX7_queueLength : MethodName := ⟨RX7, "queueLength", "()I"⟩
abbrev cX7_lengthOf : ByteArray := prog_9_method_27_code
def yX7_lengthOf : MethodName := ⟨RX7, "lengthOf", "([II)I"⟩
abbrev cX7_isUnderWay : ByteArray := prog_9_method_28_code
def yX7_isUnderWay : MethodName := ⟨RX7, "isUnderWay", "([I)Z"⟩
abbrev cX7_itemAt : ByteArray := prog_9_method_29_code
def yX7_itemAt : MethodName := ⟨RX7, "itemAt", "(I)I"⟩
abbrev cX7_rampIndex : ByteArray := prog_9_method_30_code
def yX7_rampIndex : MethodName := ⟨RX7, "rampIndex", "()I"⟩
abbrev cX7_topIndex : ByteArray := prog_9_method_31_code
def yX7_topIndex : MethodName := ⟨RX7, "topIndex", "()I"⟩
abbrev cX7_interval : ByteArray := prog_9_method_32_code
def yX7_interval : MethodName := ⟨RX7, "interval", "(I)I"⟩
abbrev cX7_approximateInterval : ByteArray := prog_9_method_33_code
def yX7_approximateInterval : MethodName := ⟨RX7, "approximateInterval", "(I)I"⟩
abbrev cX7_note : ByteArray := prog_9_method_34_code
def yX7_note : MethodName := ⟨RX7, "note", "()V"⟩
abbrev cX7_setAcceleration : ByteArray := prog_9_method_35_code
def yX7_setAcceleration : MethodName := ⟨RX7, "setAcceleration", "(I)I"⟩
abbrev cX7_setSpeedLimit : ByteArray := prog_9_method_36_code
def yX7_setSpeedLimit : MethodName := ⟨RX7, "setSpeedLimit", "(I)I"⟩
abbrev cX7_addItem : ByteArray := prog_9_method_37_code
def yX7_addItem : MethodName := ⟨RX7, "addItem", "(III)I"⟩
abbrev cX7_addMove : ByteArray := prog_9_method_38_code
def yX7_addMove : MethodName := ⟨RX7, "addMove", "(II)I"⟩
abbrev cX7_addWait : ByteArray := prog_9_method_39_code
def yX7_addWait : MethodName := ⟨RX7, "addWait", "(I)I"⟩
abbrev cX7_dropItem : ByteArray := prog_9_method_40_code
def yX7_dropItem : MethodName := ⟨RX7, "dropItem", "([II)V"⟩
abbrev cX7_endMove : ByteArray := prog_9_method_41_code
def yX7_endMove : MethodName := ⟨RX7, "endMove", "([I)V"⟩
abbrev cX7_nextIndex : ByteArray := prog_9_method_42_code
def yX7_nextIndex : MethodName := ⟨RX7, "nextIndex", "([I)I"⟩
abbrev cX7_nextTicks : ByteArray := prog_9_method_43_code
def yX7_nextTicks : MethodName := ⟨RX7, "nextTicks", "([I)I"⟩
abbrev cX7_gone : ByteArray := prog_9_method_44_code
def yX7_gone : MethodName := ⟨RX7, "gone", "(III)I"⟩
abbrev cX7_stepIn : ByteArray := prog_9_method_45_code
def yX7_stepIn : MethodName := ⟨RX7, "stepIn", "([I)I"⟩
abbrev cX7_step : ByteArray := prog_9_method_46_code
def yX7_step : MethodName := ⟨RX7, "step", "()I"⟩
abbrev cX7_runIn : ByteArray := prog_9_method_47_code
def yX7_runIn : MethodName := ⟨RX7, "runIn", "([II)I"⟩
abbrev cX7_run : ByteArray := prog_9_method_48_code
def yX7_run : MethodName := ⟨RX7, "run", "(I)I"⟩
abbrev cX7_stopIn : ByteArray := prog_9_method_49_code
def yX7_stopIn : MethodName := ⟨RX7, "stopIn", "([I)I"⟩
abbrev cX7_stop : ByteArray := prog_9_method_50_code
def yX7_stop : MethodName := ⟨RX7, "stop", "()I"⟩
abbrev cX7_removeItem : ByteArray := prog_9_method_51_code
def yX7_removeItem : MethodName := ⟨RX7, "removeItem", "(I)I"⟩
abbrev cX7_undo : ByteArray := prog_9_method_52_code
def yX7_undo : MethodName := ⟨RX7, "undo", "()I"⟩
abbrev cX7_ticksLeft : ByteArray := prog_9_method_53_code
def yX7_ticksLeft : MethodName := ⟨RX7, "ticksLeft", "()I"⟩
abbrev cX7_moveTicks : ByteArray := prog_9_method_54_code
def yX7_moveTicks : MethodName := ⟨RX7, "moveTicks", "(I)I"⟩
abbrev cX7_positionAfter : ByteArray := prog_9_method_55_code
def yX7_positionAfter : MethodName := ⟨RX7, "positionAfter", "(II)I"⟩
abbrev cX7_leastAcceleration : ByteArray := prog_9_method_56_code
def yX7_leastAcceleration : MethodName := ⟨RX7, "leastAcceleration", "(II)I"⟩
abbrev cX7_greatestLength : ByteArray := prog_9_method_57_code
def yX7_greatestLength : MethodName := ⟨RX7, "greatestLength", "(I)I"⟩
abbrev cX7_command : ByteArray := prog_9_method_58_code
def yX7_command : MethodName := ⟨RX7, "command", "(II)Z"⟩
abbrev cX7_tenThousands : ByteArray := prog_9_method_59_code
def yX7_tenThousands : MethodName := ⟨RX7, "tenThousands", "(I)J"⟩
abbrev cX7_runScript : ByteArray := prog_9_method_60_code
def yX7_runScript : MethodName := ⟨RX7, "runScript", "(IJ)I"⟩
abbrev cX7_randomSpeeds : ByteArray := prog_9_method_61_code
def yX7_randomSpeeds : MethodName := ⟨RX7, "randomSpeeds", "(JI)I"⟩
abbrev cX7_save : ByteArray := prog_9_method_62_code
def yX7_save : MethodName := ⟨RX7, "save", "(I)I"⟩
abbrev cX7_restore : ByteArray := prog_9_method_63_code
def yX7_restore : MethodName := ⟨RX7, "restore", "(I)I"⟩
def RJ9 : String := "java/lang/Math"
def TJ9 : u_T := fun k => match k with
  | _ => ("", "", "", false)
def tyJ9 : Nat → FieldType := fun k => match k with
  | _ => .int
theorem nmJ9 : ∀ a, a < 0 → ∀ b, b < 0 → a ≠ b → (TJ9 a).2.1 ≠ (TJ9 b).2.1 := by decide +kernel
theorem tyJ9_ok : ∀ k, k < 0 → parseFieldDescriptor (TJ9 k).2.2.1 = some (tyJ9 k) := by decide +kernel
abbrev cJ9_floorMod_7cf53 : ByteArray := prog_10_method_50_code
def yJ9_floorMod_7cf53 : MethodName := ⟨RJ9, "floorMod", "(II)I"⟩
abbrev cJ9_abs_0f7a4 : ByteArray := prog_10_method_59_code
def yJ9_abs_0f7a4 : MethodName := ⟨RJ9, "abs", "(I)I"⟩
abbrev cJ9_max_7cf53 : ByteArray := prog_10_method_65_code
def yJ9_max_7cf53 : MethodName := ⟨RJ9, "max", "(II)I"⟩
abbrev cJ9_max_f86c9 : ByteArray := prog_10_method_66_code
def yJ9_max_f86c9 : MethodName := ⟨RJ9, "max", "(JJ)J"⟩
abbrev cJ9_min_7cf53 : ByteArray := prog_10_method_69_code
def yJ9_min_7cf53 : MethodName := ⟨RJ9, "min", "(II)I"⟩
abbrev cJ9_min_f86c9 : ByteArray := prog_10_method_70_code
def yJ9_min_f86c9 : MethodName := ⟨RJ9, "min", "(JJ)J"⟩
def RL : String := "StepperPlannerLaw"
abbrev cL_law : ByteArray := code
def yL_law : MethodName := ⟨RL, "law", "([I)Z"⟩
abbrev vwCl : List vw_C := [(RX0, TX0, 3), (RX2, TX2, 5), (RX3, TX3, 2), (RX4, TX4, 4), (RX5, TX5, 12), (RX6, TX6, 7), (RX7, TX7, 17)]
end
section
theorem dX0_init_0 : decode cX0_init 0 = .ok (.aload_n 0, 1) := by decide +kernel
theorem dX0_init_1 : decode cX0_init 1 = .ok (.invokespecial 3, 3) := by decide +kernel
theorem dX0_init_4 : decode cX0_init 4 = .ok (.aload_n 0, 1) := by decide +kernel
theorem dX0_init_5 : decode cX0_init 5 = .ok (.bipush 14, 2) := by decide +kernel
theorem dX0_init_7 : decode cX0_init 7 = .ok (.anewarray 9, 3) := by decide +kernel
theorem dX0_init_10 : decode cX0_init 10 = .ok (.putfield 11, 3) := by decide +kernel
theorem dX0_init_13 : decode cX0_init 13 = .ok (.iconst 0, 1) := by decide +kernel
theorem dX0_init_14 : decode cX0_init 14 = .ok (.istore_n 1, 1) := by decide +kernel
theorem dX0_init_15 : decode cX0_init 15 = .ok (.iload_n 1, 1) := by decide +kernel
theorem dX0_init_16 : decode cX0_init 16 = .ok (.aload_n 0, 1) := by decide +kernel
theorem dX0_init_17 : decode cX0_init 17 = .ok (.getfield 11, 3) := by decide +kernel
theorem dX0_init_20 : decode cX0_init 20 = .ok (.arraylength, 1) := by decide +kernel
theorem dX0_init_21 : decode cX0_init 21 = .ok (.if_icmp .ge 22, 3) := by decide +kernel
theorem dX0_init_24 : decode cX0_init 24 = .ok (.aload_n 0, 1) := by decide +kernel
theorem dX0_init_25 : decode cX0_init 25 = .ok (.getfield 11, 3) := by decide +kernel
theorem dX0_init_28 : decode cX0_init 28 = .ok (.iload_n 1, 1) := by decide +kernel
theorem dX0_init_29 : decode cX0_init 29 = .ok (.new 9, 3) := by decide +kernel
theorem dX0_init_32 : decode cX0_init 32 = .ok (.dup, 1) := by decide +kernel
theorem dX0_init_33 : decode cX0_init 33 = .ok (.invokespecial 17, 3) := by decide +kernel
theorem dX0_init_36 : decode cX0_init 36 = .ok (.aastore, 1) := by decide +kernel
theorem dX0_init_37 : decode cX0_init 37 = .ok (.iinc 1 1, 3) := by decide +kernel
theorem dX0_init_40 : decode cX0_init 40 = .ok (.goto (-25), 3) := by decide +kernel
theorem dX0_init_43 : decode cX0_init 43 = .ok (.return_, 1) := by decide +kernel
theorem dX0_at_0 : decode cX0_at 0 = .ok (.aload_n 0, 1) := by decide +kernel
theorem dX0_at_1 : decode cX0_at 1 = .ok (.getfield 11, 3) := by decide +kernel
theorem dX0_at_4 : decode cX0_at 4 = .ok (.iload_n 1, 1) := by decide +kernel
theorem dX0_at_5 : decode cX0_at 5 = .ok (.bipush 14, 2) := by decide +kernel
theorem dX0_at_7 : decode cX0_at 7 = .ok (.invokestatic 18, 3) := by decide +kernel
theorem dX0_at_10 : decode cX0_at 10 = .ok (.aaload, 1) := by decide +kernel
theorem dX0_at_11 : decode cX0_at 11 = .ok (.areturn, 1) := by decide +kernel
theorem dX0_remember_0 : decode cX0_remember 0 = .ok (.aload_n 0, 1) := by decide +kernel
theorem dX0_remember_1 : decode cX0_remember 1 = .ok (.aload_n 0, 1) := by decide +kernel
theorem dX0_remember_2 : decode cX0_remember 2 = .ok (.getfield 24, 3) := by decide +kernel
theorem dX0_remember_5 : decode cX0_remember 5 = .ok (.invokevirtual 28, 3) := by decide +kernel
theorem dX0_remember_8 : decode cX0_remember 8 = .ok (.aload_n 1, 1) := by decide +kernel
theorem dX0_remember_9 : decode cX0_remember 9 = .ok (.invokevirtual 32, 3) := by decide +kernel
theorem dX0_remember_12 : decode cX0_remember 12 = .ok (.aload_n 0, 1) := by decide +kernel
theorem dX0_remember_13 : decode cX0_remember 13 = .ok (.dup, 1) := by decide +kernel
theorem dX0_remember_14 : decode cX0_remember 14 = .ok (.getfield 24, 3) := by decide +kernel
theorem dX0_remember_17 : decode cX0_remember 17 = .ok (.iconst 1, 1) := by decide +kernel
theorem dX0_remember_18 : decode cX0_remember 18 = .ok (.iadd, 1) := by decide +kernel
theorem dX0_remember_19 : decode cX0_remember 19 = .ok (.putfield 24, 3) := by decide +kernel
theorem dX0_remember_22 : decode cX0_remember 22 = .ok (.aload_n 0, 1) := by decide +kernel
theorem dX0_remember_23 : decode cX0_remember 23 = .ok (.aload_n 0, 1) := by decide +kernel
theorem dX0_remember_24 : decode cX0_remember 24 = .ok (.getfield 36, 3) := by decide +kernel
theorem dX0_remember_27 : decode cX0_remember 27 = .ok (.iconst 1, 1) := by decide +kernel
theorem dX0_remember_28 : decode cX0_remember 28 = .ok (.iadd, 1) := by decide +kernel
theorem dX0_remember_29 : decode cX0_remember 29 = .ok (.bipush 14, 2) := by decide +kernel
theorem dX0_remember_31 : decode cX0_remember 31 = .ok (.invokestatic 39, 3) := by decide +kernel
theorem dX0_remember_34 : decode cX0_remember 34 = .ok (.putfield 36, 3) := by decide +kernel
theorem dX0_remember_37 : decode cX0_remember 37 = .ok (.return_, 1) := by decide +kernel
theorem dX0_takeBack_0 : decode cX0_takeBack 0 = .ok (.aload_n 0, 1) := by decide +kernel
theorem dX0_takeBack_1 : decode cX0_takeBack 1 = .ok (.getfield 36, 3) := by decide +kernel
theorem dX0_takeBack_4 : decode cX0_takeBack 4 = .ok (.ifCond .ne 5, 3) := by decide +kernel
theorem dX0_takeBack_7 : decode cX0_takeBack 7 = .ok (.iconst 0, 1) := by decide +kernel
theorem dX0_takeBack_8 : decode cX0_takeBack 8 = .ok (.ireturn, 1) := by decide +kernel
theorem dX0_takeBack_9 : decode cX0_takeBack 9 = .ok (.aload_n 0, 1) := by decide +kernel
theorem dX0_takeBack_10 : decode cX0_takeBack 10 = .ok (.dup, 1) := by decide +kernel
theorem dX0_takeBack_11 : decode cX0_takeBack 11 = .ok (.getfield 36, 3) := by decide +kernel
theorem dX0_takeBack_14 : decode cX0_takeBack 14 = .ok (.iconst 1, 1) := by decide +kernel
theorem dX0_takeBack_15 : decode cX0_takeBack 15 = .ok (.isub, 1) := by decide +kernel
theorem dX0_takeBack_16 : decode cX0_takeBack 16 = .ok (.putfield 36, 3) := by decide +kernel
theorem dX0_takeBack_19 : decode cX0_takeBack 19 = .ok (.aload_n 0, 1) := by decide +kernel
theorem dX0_takeBack_20 : decode cX0_takeBack 20 = .ok (.dup, 1) := by decide +kernel
theorem dX0_takeBack_21 : decode cX0_takeBack 21 = .ok (.getfield 24, 3) := by decide +kernel
theorem dX0_takeBack_24 : decode cX0_takeBack 24 = .ok (.iconst 1, 1) := by decide +kernel
theorem dX0_takeBack_25 : decode cX0_takeBack 25 = .ok (.isub, 1) := by decide +kernel
theorem dX0_takeBack_26 : decode cX0_takeBack 26 = .ok (.putfield 24, 3) := by decide +kernel
theorem dX0_takeBack_29 : decode cX0_takeBack 29 = .ok (.aload_n 1, 1) := by decide +kernel
theorem dX0_takeBack_30 : decode cX0_takeBack 30 = .ok (.aload_n 0, 1) := by decide +kernel
theorem dX0_takeBack_31 : decode cX0_takeBack 31 = .ok (.aload_n 0, 1) := by decide +kernel
theorem dX0_takeBack_32 : decode cX0_takeBack 32 = .ok (.getfield 24, 3) := by decide +kernel
theorem dX0_takeBack_35 : decode cX0_takeBack 35 = .ok (.invokevirtual 28, 3) := by decide +kernel
theorem dX0_takeBack_38 : decode cX0_takeBack 38 = .ok (.invokevirtual 32, 3) := by decide +kernel
theorem dX0_takeBack_41 : decode cX0_takeBack 41 = .ok (.iconst 1, 1) := by decide +kernel
theorem dX0_takeBack_42 : decode cX0_takeBack 42 = .ok (.ireturn, 1) := by decide +kernel
theorem dX0_forget_0 : decode cX0_forget 0 = .ok (.aload_n 0, 1) := by decide +kernel
theorem dX0_forget_1 : decode cX0_forget 1 = .ok (.iconst 0, 1) := by decide +kernel
theorem dX0_forget_2 : decode cX0_forget 2 = .ok (.putfield 36, 3) := by decide +kernel
theorem dX0_forget_5 : decode cX0_forget 5 = .ok (.return_, 1) := by decide +kernel
theorem dX1_root_0 : decode cX1_root 0 = .ok (.iload_n 0, 1) := by decide +kernel
theorem dX1_root_1 : decode cX1_root 1 = .ok (.iconst 1, 1) := by decide +kernel
theorem dX1_root_2 : decode cX1_root 2 = .ok (.if_icmp .lt 8, 3) := by decide +kernel
theorem dX1_root_5 : decode cX1_root 5 = .ok (.iload_n 1, 1) := by decide +kernel
theorem dX1_root_6 : decode cX1_root 6 = .ok (.iconst 1, 1) := by decide +kernel
theorem dX1_root_7 : decode cX1_root 7 = .ok (.if_icmp .ge 5, 3) := by decide +kernel
theorem dX1_root_10 : decode cX1_root 10 = .ok (.iconst 0, 1) := by decide +kernel
theorem dX1_root_11 : decode cX1_root 11 = .ok (.ireturn, 1) := by decide +kernel
theorem dX1_root_12 : decode cX1_root 12 = .ok (.ldc2_w 11, 3) := by decide +kernel
theorem dX1_root_15 : decode cX1_root 15 = .ok (.iload_n 1, 1) := by decide +kernel
theorem dX1_root_16 : decode cX1_root 16 = .ok (.i2l, 1) := by decide +kernel
theorem dX1_root_17 : decode cX1_root 17 = .ok (.lmul, 1) := by decide +kernel
theorem dX1_root_18 : decode cX1_root 18 = .ok (.iload_n 0, 1) := by decide +kernel
theorem dX1_root_19 : decode cX1_root 19 = .ok (.i2l, 1) := by decide +kernel
theorem dX1_root_20 : decode cX1_root 20 = .ok (.ldiv, 1) := by decide +kernel
theorem dX1_root_21 : decode cX1_root 21 = .ok (.lstore_n 3, 1) := by decide +kernel
theorem dX1_root_22 : decode cX1_root 22 = .ok (.iload_n 2, 1) := by decide +kernel
theorem dX1_root_23 : decode cX1_root 23 = .ok (.i2l, 1) := by decide +kernel
theorem dX1_root_24 : decode cX1_root 24 = .ok (.lstore 5, 2) := by decide +kernel
theorem dX1_root_26 : decode cX1_root 26 = .ok (.iconst 0, 1) := by decide +kernel
theorem dX1_root_27 : decode cX1_root 27 = .ok (.istore 7, 2) := by decide +kernel
theorem dX1_root_29 : decode cX1_root 29 = .ok (.iload 7, 2) := by decide +kernel
theorem dX1_root_31 : decode cX1_root 31 = .ok (.bipush 64, 2) := by decide +kernel
theorem dX1_root_33 : decode cX1_root 33 = .ok (.if_icmp .ge 44, 3) := by decide +kernel
theorem dX1_root_36 : decode cX1_root 36 = .ok (.lload 5, 2) := by decide +kernel
theorem dX1_root_38 : decode cX1_root 38 = .ok (.lconst 0, 1) := by decide +kernel
theorem dX1_root_39 : decode cX1_root 39 = .ok (.lcmp, 1) := by decide +kernel
theorem dX1_root_40 : decode cX1_root 40 = .ok (.ifCond .le 37, 3) := by decide +kernel
theorem dX1_root_43 : decode cX1_root 43 = .ok (.lload 5, 2) := by decide +kernel
theorem dX1_root_45 : decode cX1_root 45 = .ok (.lload_n 3, 1) := by decide +kernel
theorem dX1_root_46 : decode cX1_root 46 = .ok (.lload 5, 2) := by decide +kernel
theorem dX1_root_48 : decode cX1_root 48 = .ok (.ldiv, 1) := by decide +kernel
theorem dX1_root_49 : decode cX1_root 49 = .ok (.ladd, 1) := by decide +kernel
theorem dX1_root_50 : decode cX1_root 50 = .ok (.ldc2_w 13, 3) := by decide +kernel
theorem dX1_root_53 : decode cX1_root 53 = .ok (.ldiv, 1) := by decide +kernel
theorem dX1_root_54 : decode cX1_root 54 = .ok (.lstore 8, 2) := by decide +kernel
theorem dX1_root_56 : decode cX1_root 56 = .ok (.lload 8, 2) := by decide +kernel
theorem dX1_root_58 : decode cX1_root 58 = .ok (.lload 5, 2) := by decide +kernel
theorem dX1_root_60 : decode cX1_root 60 = .ok (.lcmp, 1) := by decide +kernel
theorem dX1_root_61 : decode cX1_root 61 = .ok (.ifCond .lt 6, 3) := by decide +kernel
theorem dX1_root_64 : decode cX1_root 64 = .ok (.goto 13, 3) := by decide +kernel
theorem dX1_root_67 : decode cX1_root 67 = .ok (.lload 8, 2) := by decide +kernel
theorem dX1_root_69 : decode cX1_root 69 = .ok (.lstore 5, 2) := by decide +kernel
theorem dX1_root_71 : decode cX1_root 71 = .ok (.iinc 7 1, 3) := by decide +kernel
theorem dX1_root_74 : decode cX1_root 74 = .ok (.goto (-45), 3) := by decide +kernel
theorem dX1_root_77 : decode cX1_root 77 = .ok (.lload 5, 2) := by decide +kernel
theorem dX1_root_79 : decode cX1_root 79 = .ok (.l2i, 1) := by decide +kernel
theorem dX1_root_80 : decode cX1_root 80 = .ok (.ireturn, 1) := by decide +kernel
theorem dX1_rootAfter_0 : decode cX1_rootAfter 0 = .ok (.iload_n 1, 1) := by decide +kernel
theorem dX1_rootAfter_1 : decode cX1_rootAfter 1 = .ok (.iconst 1, 1) := by decide +kernel
theorem dX1_rootAfter_2 : decode cX1_rootAfter 2 = .ok (.if_icmp .ge 8, 3) := by decide +kernel
theorem dX1_rootAfter_5 : decode cX1_rootAfter 5 = .ok (.ldc 15, 2) := by decide +kernel
theorem dX1_rootAfter_7 : decode cX1_rootAfter 7 = .ok (.goto 14, 3) := by decide +kernel
theorem dX1_rootAfter_10 : decode cX1_rootAfter 10 = .ok (.iload_n 2, 1) := by decide +kernel
theorem dX1_rootAfter_11 : decode cX1_rootAfter 11 = .ok (.iconst 1, 1) := by decide +kernel
theorem dX1_rootAfter_12 : decode cX1_rootAfter 12 = .ok (.iadd, 1) := by decide +kernel
theorem dX1_rootAfter_13 : decode cX1_rootAfter 13 = .ok (.iload_n 2, 1) := by decide +kernel
theorem dX1_rootAfter_14 : decode cX1_rootAfter 14 = .ok (.iconst 1, 1) := by decide +kernel
theorem dX1_rootAfter_15 : decode cX1_rootAfter 15 = .ok (.iadd, 1) := by decide +kernel
theorem dX1_rootAfter_16 : decode cX1_rootAfter 16 = .ok (.iconst 2, 1) := by decide +kernel
theorem dX1_rootAfter_17 : decode cX1_rootAfter 17 = .ok (.iload_n 1, 1) := by decide +kernel
theorem dX1_rootAfter_18 : decode cX1_rootAfter 18 = .ok (.imul, 1) := by decide +kernel
theorem dX1_rootAfter_19 : decode cX1_rootAfter 19 = .ok (.idiv, 1) := by decide +kernel
theorem dX1_rootAfter_20 : decode cX1_rootAfter 20 = .ok (.iadd, 1) := by decide +kernel
theorem dX1_rootAfter_21 : decode cX1_rootAfter 21 = .ok (.istore_n 3, 1) := by decide +kernel
theorem dX1_rootAfter_22 : decode cX1_rootAfter 22 = .ok (.iload_n 0, 1) := by decide +kernel
theorem dX1_rootAfter_23 : decode cX1_rootAfter 23 = .ok (.iload_n 1, 1) := by decide +kernel
theorem dX1_rootAfter_24 : decode cX1_rootAfter 24 = .ok (.iconst 1, 1) := by decide +kernel
theorem dX1_rootAfter_25 : decode cX1_rootAfter 25 = .ok (.iadd, 1) := by decide +kernel
theorem dX1_rootAfter_26 : decode cX1_rootAfter 26 = .ok (.iload_n 3, 1) := by decide +kernel
theorem dX1_rootAfter_27 : decode cX1_rootAfter 27 = .ok (.invokestatic 16, 3) := by decide +kernel
theorem dX1_rootAfter_30 : decode cX1_rootAfter 30 = .ok (.ireturn, 1) := by decide +kernel
theorem dX1_cruiseInterval_0 : decode cX1_cruiseInterval 0 = .ok (.iload_n 0, 1) := by decide +kernel
theorem dX1_cruiseInterval_1 : decode cX1_cruiseInterval 1 = .ok (.iconst 1, 1) := by decide +kernel
theorem dX1_cruiseInterval_2 : decode cX1_cruiseInterval 2 = .ok (.if_icmp .ge 9, 3) := by decide +kernel
theorem dX1_cruiseInterval_5 : decode cX1_cruiseInterval 5 = .ok (.sipush 10000, 3) := by decide +kernel
theorem dX1_cruiseInterval_8 : decode cX1_cruiseInterval 8 = .ok (.goto 12, 3) := by decide +kernel
theorem dX1_cruiseInterval_11 : decode cX1_cruiseInterval 11 = .ok (.sipush 10000, 3) := by decide +kernel
theorem dX1_cruiseInterval_14 : decode cX1_cruiseInterval 14 = .ok (.iload_n 0, 1) := by decide +kernel
theorem dX1_cruiseInterval_15 : decode cX1_cruiseInterval 15 = .ok (.iadd, 1) := by decide +kernel
theorem dX1_cruiseInterval_16 : decode cX1_cruiseInterval 16 = .ok (.iconst 1, 1) := by decide +kernel
theorem dX1_cruiseInterval_17 : decode cX1_cruiseInterval 17 = .ok (.isub, 1) := by decide +kernel
theorem dX1_cruiseInterval_18 : decode cX1_cruiseInterval 18 = .ok (.iload_n 0, 1) := by decide +kernel
theorem dX1_cruiseInterval_19 : decode cX1_cruiseInterval 19 = .ok (.idiv, 1) := by decide +kernel
theorem dX1_cruiseInterval_20 : decode cX1_cruiseInterval 20 = .ok (.ireturn, 1) := by decide +kernel
theorem dX1_rampAtLeast_0 : decode cX1_rampAtLeast 0 = .ok (.ldc2_w 20, 3) := by decide +kernel
theorem dX1_rampAtLeast_3 : decode cX1_rampAtLeast 3 = .ok (.iload_n 0, 1) := by decide +kernel
theorem dX1_rampAtLeast_4 : decode cX1_rampAtLeast 4 = .ok (.i2l, 1) := by decide +kernel
theorem dX1_rampAtLeast_5 : decode cX1_rampAtLeast 5 = .ok (.lmul, 1) := by decide +kernel
theorem dX1_rampAtLeast_6 : decode cX1_rampAtLeast 6 = .ok (.iload_n 1, 1) := by decide +kernel
theorem dX1_rampAtLeast_7 : decode cX1_rampAtLeast 7 = .ok (.iconst 1, 1) := by decide +kernel
theorem dX1_rampAtLeast_8 : decode cX1_rampAtLeast 8 = .ok (.iadd, 1) := by decide +kernel
theorem dX1_rampAtLeast_9 : decode cX1_rampAtLeast 9 = .ok (.i2l, 1) := by decide +kernel
theorem dX1_rampAtLeast_10 : decode cX1_rampAtLeast 10 = .ok (.lmul, 1) := by decide +kernel
theorem dX1_rampAtLeast_11 : decode cX1_rampAtLeast 11 = .ok (.iload_n 1, 1) := by decide +kernel
theorem dX1_rampAtLeast_12 : decode cX1_rampAtLeast 12 = .ok (.iconst 1, 1) := by decide +kernel
theorem dX1_rampAtLeast_13 : decode cX1_rampAtLeast 13 = .ok (.iadd, 1) := by decide +kernel
theorem dX1_rampAtLeast_14 : decode cX1_rampAtLeast 14 = .ok (.i2l, 1) := by decide +kernel
theorem dX1_rampAtLeast_15 : decode cX1_rampAtLeast 15 = .ok (.lmul, 1) := by decide +kernel
theorem dX1_rampAtLeast_16 : decode cX1_rampAtLeast 16 = .ok (.lstore_n 3, 1) := by decide +kernel
theorem dX1_rampAtLeast_17 : decode cX1_rampAtLeast 17 = .ok (.lload_n 3, 1) := by decide +kernel
theorem dX1_rampAtLeast_18 : decode cX1_rampAtLeast 18 = .ok (.lconst 1, 1) := by decide +kernel
theorem dX1_rampAtLeast_19 : decode cX1_rampAtLeast 19 = .ok (.lcmp, 1) := by decide +kernel
theorem dX1_rampAtLeast_20 : decode cX1_rampAtLeast 20 = .ok (.ifCond .ge 7, 3) := by decide +kernel
theorem dX1_rampAtLeast_23 : decode cX1_rampAtLeast 23 = .ok (.iconst 0, 1) := by decide +kernel
theorem dX1_rampAtLeast_24 : decode cX1_rampAtLeast 24 = .ok (.goto 14, 3) := by decide +kernel
theorem dX1_rampAtLeast_27 : decode cX1_rampAtLeast 27 = .ok (.iload_n 2, 1) := by decide +kernel
theorem dX1_rampAtLeast_28 : decode cX1_rampAtLeast 28 = .ok (.i2l, 1) := by decide +kernel
theorem dX1_rampAtLeast_29 : decode cX1_rampAtLeast 29 = .ok (.ldc2_w 11, 3) := by decide +kernel
theorem dX1_rampAtLeast_32 : decode cX1_rampAtLeast 32 = .ok (.lload_n 3, 1) := by decide +kernel
theorem dX1_rampAtLeast_33 : decode cX1_rampAtLeast 33 = .ok (.ldiv, 1) := by decide +kernel
theorem dX1_rampAtLeast_34 : decode cX1_rampAtLeast 34 = .ok (.invokestatic 22, 3) := by decide +kernel
theorem dX1_rampAtLeast_37 : decode cX1_rampAtLeast 37 = .ok (.l2i, 1) := by decide +kernel
theorem dX1_rampAtLeast_38 : decode cX1_rampAtLeast 38 = .ok (.ireturn, 1) := by decide +kernel
theorem dX1_ticksOfMove_0 : decode cX1_ticksOfMove 0 = .ok (.iload_n 2, 1) := by decide +kernel
theorem dX1_ticksOfMove_1 : decode cX1_ticksOfMove 1 = .ok (.iconst 2, 1) := by decide +kernel
theorem dX1_ticksOfMove_2 : decode cX1_ticksOfMove 2 = .ok (.idiv, 1) := by decide +kernel
theorem dX1_ticksOfMove_3 : decode cX1_ticksOfMove 3 = .ok (.istore_n 3, 1) := by decide +kernel
theorem dX1_ticksOfMove_4 : decode cX1_ticksOfMove 4 = .ok (.iload_n 0, 1) := by decide +kernel
theorem dX1_ticksOfMove_5 : decode cX1_ticksOfMove 5 = .ok (.iload_n 1, 1) := by decide +kernel
theorem dX1_ticksOfMove_6 : decode cX1_ticksOfMove 6 = .ok (.iload_n 3, 1) := by decide +kernel
theorem dX1_ticksOfMove_7 : decode cX1_ticksOfMove 7 = .ok (.invokestatic 28, 3) := by decide +kernel
theorem dX1_ticksOfMove_10 : decode cX1_ticksOfMove 10 = .ok (.istore 4, 2) := by decide +kernel
theorem dX1_ticksOfMove_12 : decode cX1_ticksOfMove 12 = .ok (.iload_n 0, 1) := by decide +kernel
theorem dX1_ticksOfMove_13 : decode cX1_ticksOfMove 13 = .ok (.iload 4, 2) := by decide +kernel
theorem dX1_ticksOfMove_15 : decode cX1_ticksOfMove 15 = .ok (.ldc 15, 2) := by decide +kernel
theorem dX1_ticksOfMove_17 : decode cX1_ticksOfMove 17 = .ok (.invokestatic 16, 3) := by decide +kernel
theorem dX1_ticksOfMove_20 : decode cX1_ticksOfMove 20 = .ok (.istore 5, 2) := by decide +kernel
theorem dX1_ticksOfMove_22 : decode cX1_ticksOfMove 22 = .ok (.iload_n 0, 1) := by decide +kernel
theorem dX1_ticksOfMove_23 : decode cX1_ticksOfMove 23 = .ok (.iload 4, 2) := by decide +kernel
theorem dX1_ticksOfMove_25 : decode cX1_ticksOfMove 25 = .ok (.iload 5, 2) := by decide +kernel
theorem dX1_ticksOfMove_27 : decode cX1_ticksOfMove 27 = .ok (.invokestatic 31, 3) := by decide +kernel
theorem dX1_ticksOfMove_30 : decode cX1_ticksOfMove 30 = .ok (.istore 6, 2) := by decide +kernel
theorem dX1_ticksOfMove_32 : decode cX1_ticksOfMove 32 = .ok (.iload 4, 2) := by decide +kernel
theorem dX1_ticksOfMove_34 : decode cX1_ticksOfMove 34 = .ok (.iload_n 3, 1) := by decide +kernel
theorem dX1_ticksOfMove_35 : decode cX1_ticksOfMove 35 = .ok (.if_icmp .ge 32, 3) := by decide +kernel
theorem dX1_ticksOfMove_38 : decode cX1_ticksOfMove 38 = .ok (.iload 6, 2) := by decide +kernel
theorem dX1_ticksOfMove_40 : decode cX1_ticksOfMove 40 = .ok (.iload 5, 2) := by decide +kernel
theorem dX1_ticksOfMove_42 : decode cX1_ticksOfMove 42 = .ok (.isub, 1) := by decide +kernel
theorem dX1_ticksOfMove_43 : decode cX1_ticksOfMove 43 = .ok (.iload_n 1, 1) := by decide +kernel
theorem dX1_ticksOfMove_44 : decode cX1_ticksOfMove 44 = .ok (.if_icmp .le 23, 3) := by decide +kernel
theorem dX1_ticksOfMove_47 : decode cX1_ticksOfMove 47 = .ok (.iinc 4 1, 3) := by decide +kernel
theorem dX1_ticksOfMove_50 : decode cX1_ticksOfMove 50 = .ok (.iload 6, 2) := by decide +kernel
theorem dX1_ticksOfMove_52 : decode cX1_ticksOfMove 52 = .ok (.istore 5, 2) := by decide +kernel
theorem dX1_ticksOfMove_54 : decode cX1_ticksOfMove 54 = .ok (.iload_n 0, 1) := by decide +kernel
theorem dX1_ticksOfMove_55 : decode cX1_ticksOfMove 55 = .ok (.iload 4, 2) := by decide +kernel
theorem dX1_ticksOfMove_57 : decode cX1_ticksOfMove 57 = .ok (.iload 5, 2) := by decide +kernel
theorem dX1_ticksOfMove_59 : decode cX1_ticksOfMove 59 = .ok (.invokestatic 31, 3) := by decide +kernel
theorem dX1_ticksOfMove_62 : decode cX1_ticksOfMove 62 = .ok (.istore 6, 2) := by decide +kernel
theorem dX1_ticksOfMove_64 : decode cX1_ticksOfMove 64 = .ok (.goto (-32), 3) := by decide +kernel
theorem dX1_ticksOfMove_67 : decode cX1_ticksOfMove 67 = .ok (.iconst 2, 1) := by decide +kernel
theorem dX1_ticksOfMove_68 : decode cX1_ticksOfMove 68 = .ok (.iload 5, 2) := by decide +kernel
theorem dX1_ticksOfMove_70 : decode cX1_ticksOfMove 70 = .ok (.imul, 1) := by decide +kernel
theorem dX1_ticksOfMove_71 : decode cX1_ticksOfMove 71 = .ok (.iload_n 2, 1) := by decide +kernel
theorem dX1_ticksOfMove_72 : decode cX1_ticksOfMove 72 = .ok (.iconst 2, 1) := by decide +kernel
theorem dX1_ticksOfMove_73 : decode cX1_ticksOfMove 73 = .ok (.iload 4, 2) := by decide +kernel
theorem dX1_ticksOfMove_75 : decode cX1_ticksOfMove 75 = .ok (.imul, 1) := by decide +kernel
theorem dX1_ticksOfMove_76 : decode cX1_ticksOfMove 76 = .ok (.isub, 1) := by decide +kernel
theorem dX1_ticksOfMove_77 : decode cX1_ticksOfMove 77 = .ok (.iload 6, 2) := by decide +kernel
theorem dX1_ticksOfMove_79 : decode cX1_ticksOfMove 79 = .ok (.iload 5, 2) := by decide +kernel
theorem dX1_ticksOfMove_81 : decode cX1_ticksOfMove 81 = .ok (.isub, 1) := by decide +kernel
theorem dX1_ticksOfMove_82 : decode cX1_ticksOfMove 82 = .ok (.iload_n 1, 1) := by decide +kernel
theorem dX1_ticksOfMove_83 : decode cX1_ticksOfMove 83 = .ok (.invokestatic 34, 3) := by decide +kernel
theorem dX1_ticksOfMove_86 : decode cX1_ticksOfMove 86 = .ok (.imul, 1) := by decide +kernel
theorem dX1_ticksOfMove_87 : decode cX1_ticksOfMove 87 = .ok (.iadd, 1) := by decide +kernel
theorem dX1_ticksOfMove_88 : decode cX1_ticksOfMove 88 = .ok (.ireturn, 1) := by decide +kernel
theorem dX1_leastCandidate_0 : decode cX1_leastCandidate 0 = .ok (.iload_n 0, 1) := by decide +kernel
theorem dX1_leastCandidate_1 : decode cX1_leastCandidate 1 = .ok (.iconst 1, 1) := by decide +kernel
theorem dX1_leastCandidate_2 : decode cX1_leastCandidate 2 = .ok (.if_icmp .ge 5, 3) := by decide +kernel
theorem dX1_leastCandidate_5 : decode cX1_leastCandidate 5 = .ok (.iconst 1, 1) := by decide +kernel
theorem dX1_leastCandidate_6 : decode cX1_leastCandidate 6 = .ok (.ireturn, 1) := by decide +kernel
theorem dX1_leastCandidate_7 : decode cX1_leastCandidate 7 = .ok (.iload_n 2, 1) := by decide +kernel
theorem dX1_leastCandidate_8 : decode cX1_leastCandidate 8 = .ok (.i2l, 1) := by decide +kernel
theorem dX1_leastCandidate_9 : decode cX1_leastCandidate 9 = .ok (.iload_n 0, 1) := by decide +kernel
theorem dX1_leastCandidate_10 : decode cX1_leastCandidate 10 = .ok (.iconst 1, 1) := by decide +kernel
theorem dX1_leastCandidate_11 : decode cX1_leastCandidate 11 = .ok (.iadd, 1) := by decide +kernel
theorem dX1_leastCandidate_12 : decode cX1_leastCandidate 12 = .ok (.i2l, 1) := by decide +kernel
theorem dX1_leastCandidate_13 : decode cX1_leastCandidate 13 = .ok (.lmul, 1) := by decide +kernel
theorem dX1_leastCandidate_14 : decode cX1_leastCandidate 14 = .ok (.iconst 2, 1) := by decide +kernel
theorem dX1_leastCandidate_15 : decode cX1_leastCandidate 15 = .ok (.iload_n 0, 1) := by decide +kernel
theorem dX1_leastCandidate_16 : decode cX1_leastCandidate 16 = .ok (.imul, 1) := by decide +kernel
theorem dX1_leastCandidate_17 : decode cX1_leastCandidate 17 = .ok (.i2l, 1) := by decide +kernel
theorem dX1_leastCandidate_18 : decode cX1_leastCandidate 18 = .ok (.ldiv, 1) := by decide +kernel
theorem dX1_leastCandidate_19 : decode cX1_leastCandidate 19 = .ok (.lconst 1, 1) := by decide +kernel
theorem dX1_leastCandidate_20 : decode cX1_leastCandidate 20 = .ok (.ladd, 1) := by decide +kernel
theorem dX1_leastCandidate_21 : decode cX1_leastCandidate 21 = .ok (.lstore_n 3, 1) := by decide +kernel
theorem dX1_leastCandidate_22 : decode cX1_leastCandidate 22 = .ok (.lload_n 3, 1) := by decide +kernel
theorem dX1_leastCandidate_23 : decode cX1_leastCandidate 23 = .ok (.lload_n 3, 1) := by decide +kernel
theorem dX1_leastCandidate_24 : decode cX1_leastCandidate 24 = .ok (.lmul, 1) := by decide +kernel
theorem dX1_leastCandidate_25 : decode cX1_leastCandidate 25 = .ok (.lstore 5, 2) := by decide +kernel
theorem dX1_leastCandidate_27 : decode cX1_leastCandidate 27 = .ok (.lload 5, 2) := by decide +kernel
theorem dX1_leastCandidate_29 : decode cX1_leastCandidate 29 = .ok (.lconst 1, 1) := by decide +kernel
theorem dX1_leastCandidate_30 : decode cX1_leastCandidate 30 = .ok (.lcmp, 1) := by decide +kernel
theorem dX1_leastCandidate_31 : decode cX1_leastCandidate 31 = .ok (.ifCond .ge 7, 3) := by decide +kernel
theorem dX1_leastCandidate_34 : decode cX1_leastCandidate 34 = .ok (.iconst 1, 1) := by decide +kernel
theorem dX1_leastCandidate_35 : decode cX1_leastCandidate 35 = .ok (.goto 23, 3) := by decide +kernel
theorem dX1_leastCandidate_38 : decode cX1_leastCandidate 38 = .ok (.ldc2_w 38, 3) := by decide +kernel
theorem dX1_leastCandidate_41 : decode cX1_leastCandidate 41 = .ok (.ldc2_w 11, 3) := by decide +kernel
theorem dX1_leastCandidate_44 : decode cX1_leastCandidate 44 = .ok (.iload_n 1, 1) := by decide +kernel
theorem dX1_leastCandidate_45 : decode cX1_leastCandidate 45 = .ok (.iconst 2, 1) := by decide +kernel
theorem dX1_leastCandidate_46 : decode cX1_leastCandidate 46 = .ok (.idiv, 1) := by decide +kernel
theorem dX1_leastCandidate_47 : decode cX1_leastCandidate 47 = .ok (.i2l, 1) := by decide +kernel
theorem dX1_leastCandidate_48 : decode cX1_leastCandidate 48 = .ok (.lmul, 1) := by decide +kernel
theorem dX1_leastCandidate_49 : decode cX1_leastCandidate 49 = .ok (.lload 5, 2) := by decide +kernel
theorem dX1_leastCandidate_51 : decode cX1_leastCandidate 51 = .ok (.ldiv, 1) := by decide +kernel
theorem dX1_leastCandidate_52 : decode cX1_leastCandidate 52 = .ok (.invokestatic 22, 3) := by decide +kernel
theorem dX1_leastCandidate_55 : decode cX1_leastCandidate 55 = .ok (.l2i, 1) := by decide +kernel
theorem dX1_leastCandidate_56 : decode cX1_leastCandidate 56 = .ok (.iconst 1, 1) := by decide +kernel
theorem dX1_leastCandidate_57 : decode cX1_leastCandidate 57 = .ok (.iadd, 1) := by decide +kernel
theorem dX1_leastCandidate_58 : decode cX1_leastCandidate 58 = .ok (.ireturn, 1) := by decide +kernel
theorem dX2_init_0 : decode cX2_init 0 = .ok (.aload_n 0, 1) := by decide +kernel
theorem dX2_init_1 : decode cX2_init 1 = .ok (.invokespecial 3, 3) := by decide +kernel
theorem dX2_init_4 : decode cX2_init 4 = .ok (.aload_n 0, 1) := by decide +kernel
theorem dX2_init_5 : decode cX2_init 5 = .ok (.sipush 1001, 3) := by decide +kernel
theorem dX2_init_8 : decode cX2_init 8 = .ok (.newarray .int, 2) := by decide +kernel
theorem dX2_init_10 : decode cX2_init 10 = .ok (.putfield 9, 3) := by decide +kernel
theorem dX2_init_13 : decode cX2_init 13 = .ok (.return_, 1) := by decide +kernel
theorem dX2_prepare_0 : decode cX2_prepare 0 = .ok (.aload_n 0, 1) := by decide +kernel
theorem dX2_prepare_1 : decode cX2_prepare 1 = .ok (.getfield 15, 3) := by decide +kernel
theorem dX2_prepare_4 : decode cX2_prepare 4 = .ok (.iload_n 1, 1) := by decide +kernel
theorem dX2_prepare_5 : decode cX2_prepare 5 = .ok (.if_icmp .ne 12, 3) := by decide +kernel
theorem dX2_prepare_8 : decode cX2_prepare 8 = .ok (.aload_n 0, 1) := by decide +kernel
theorem dX2_prepare_9 : decode cX2_prepare 9 = .ok (.getfield 19, 3) := by decide +kernel
theorem dX2_prepare_12 : decode cX2_prepare 12 = .ok (.iload_n 2, 1) := by decide +kernel
theorem dX2_prepare_13 : decode cX2_prepare 13 = .ok (.if_icmp .ne 4, 3) := by decide +kernel
theorem dX2_prepare_16 : decode cX2_prepare 16 = .ok (.return_, 1) := by decide +kernel
theorem dX2_prepare_17 : decode cX2_prepare 17 = .ok (.aload_n 0, 1) := by decide +kernel
theorem dX2_prepare_18 : decode cX2_prepare 18 = .ok (.getfield 15, 3) := by decide +kernel
theorem dX2_prepare_21 : decode cX2_prepare 21 = .ok (.iload_n 1, 1) := by decide +kernel
theorem dX2_prepare_22 : decode cX2_prepare 22 = .ok (.if_icmp .eq 12, 3) := by decide +kernel
theorem dX2_prepare_25 : decode cX2_prepare 25 = .ok (.aload_n 0, 1) := by decide +kernel
theorem dX2_prepare_26 : decode cX2_prepare 26 = .ok (.iload_n 1, 1) := by decide +kernel
theorem dX2_prepare_27 : decode cX2_prepare 27 = .ok (.putfield 15, 3) := by decide +kernel
theorem dX2_prepare_30 : decode cX2_prepare 30 = .ok (.aload_n 0, 1) := by decide +kernel
theorem dX2_prepare_31 : decode cX2_prepare 31 = .ok (.invokevirtual 22, 3) := by decide +kernel
theorem dX2_prepare_34 : decode cX2_prepare 34 = .ok (.aload_n 0, 1) := by decide +kernel
theorem dX2_prepare_35 : decode cX2_prepare 35 = .ok (.iload_n 2, 1) := by decide +kernel
theorem dX2_prepare_36 : decode cX2_prepare 36 = .ok (.putfield 19, 3) := by decide +kernel
theorem dX2_prepare_39 : decode cX2_prepare 39 = .ok (.aload_n 0, 1) := by decide +kernel
theorem dX2_prepare_40 : decode cX2_prepare 40 = .ok (.aload_n 0, 1) := by decide +kernel
theorem dX2_prepare_41 : decode cX2_prepare 41 = .ok (.getfield 19, 3) := by decide +kernel
theorem dX2_prepare_44 : decode cX2_prepare 44 = .ok (.invokestatic 25, 3) := by decide +kernel
theorem dX2_prepare_47 : decode cX2_prepare 47 = .ok (.putfield 31, 3) := by decide +kernel
theorem dX2_prepare_50 : decode cX2_prepare 50 = .ok (.aload_n 0, 1) := by decide +kernel
theorem dX2_prepare_51 : decode cX2_prepare 51 = .ok (.aload_n 0, 1) := by decide +kernel
theorem dX2_prepare_52 : decode cX2_prepare 52 = .ok (.invokevirtual 34, 3) := by decide +kernel
theorem dX2_prepare_55 : decode cX2_prepare 55 = .ok (.putfield 38, 3) := by decide +kernel
theorem dX2_prepare_58 : decode cX2_prepare 58 = .ok (.return_, 1) := by decide +kernel
theorem dX2_fillRoots_0 : decode cX2_fillRoots 0 = .ok (.iconst 0, 1) := by decide +kernel
theorem dX2_fillRoots_1 : decode cX2_fillRoots 1 = .ok (.istore_n 1, 1) := by decide +kernel
theorem dX2_fillRoots_2 : decode cX2_fillRoots 2 = .ok (.iload_n 1, 1) := by decide +kernel
theorem dX2_fillRoots_3 : decode cX2_fillRoots 3 = .ok (.iconst 1, 1) := by decide +kernel
theorem dX2_fillRoots_4 : decode cX2_fillRoots 4 = .ok (.iadd, 1) := by decide +kernel
theorem dX2_fillRoots_5 : decode cX2_fillRoots 5 = .ok (.aload_n 0, 1) := by decide +kernel
theorem dX2_fillRoots_6 : decode cX2_fillRoots 6 = .ok (.getfield 9, 3) := by decide +kernel
theorem dX2_fillRoots_9 : decode cX2_fillRoots 9 = .ok (.arraylength, 1) := by decide +kernel
theorem dX2_fillRoots_10 : decode cX2_fillRoots 10 = .ok (.if_icmp .ge 31, 3) := by decide +kernel
theorem dX2_fillRoots_13 : decode cX2_fillRoots 13 = .ok (.aload_n 0, 1) := by decide +kernel
theorem dX2_fillRoots_14 : decode cX2_fillRoots 14 = .ok (.getfield 9, 3) := by decide +kernel
theorem dX2_fillRoots_17 : decode cX2_fillRoots 17 = .ok (.iload_n 1, 1) := by decide +kernel
theorem dX2_fillRoots_18 : decode cX2_fillRoots 18 = .ok (.iconst 1, 1) := by decide +kernel
theorem dX2_fillRoots_19 : decode cX2_fillRoots 19 = .ok (.iadd, 1) := by decide +kernel
theorem dX2_fillRoots_20 : decode cX2_fillRoots 20 = .ok (.aload_n 0, 1) := by decide +kernel
theorem dX2_fillRoots_21 : decode cX2_fillRoots 21 = .ok (.getfield 15, 3) := by decide +kernel
theorem dX2_fillRoots_24 : decode cX2_fillRoots 24 = .ok (.iload_n 1, 1) := by decide +kernel
theorem dX2_fillRoots_25 : decode cX2_fillRoots 25 = .ok (.aload_n 0, 1) := by decide +kernel
theorem dX2_fillRoots_26 : decode cX2_fillRoots 26 = .ok (.getfield 9, 3) := by decide +kernel
theorem dX2_fillRoots_29 : decode cX2_fillRoots 29 = .ok (.iload_n 1, 1) := by decide +kernel
theorem dX2_fillRoots_30 : decode cX2_fillRoots 30 = .ok (.iaload, 1) := by decide +kernel
theorem dX2_fillRoots_31 : decode cX2_fillRoots 31 = .ok (.invokestatic 41, 3) := by decide +kernel
theorem dX2_fillRoots_34 : decode cX2_fillRoots 34 = .ok (.iastore, 1) := by decide +kernel
theorem dX2_fillRoots_35 : decode cX2_fillRoots 35 = .ok (.iinc 1 1, 3) := by decide +kernel
theorem dX2_fillRoots_38 : decode cX2_fillRoots 38 = .ok (.goto (-36), 3) := by decide +kernel
theorem dX2_fillRoots_41 : decode cX2_fillRoots 41 = .ok (.return_, 1) := by decide +kernel
theorem dX2_findTop_0 : decode cX2_findTop 0 = .ok (.aload_n 0, 1) := by decide +kernel
theorem dX2_findTop_1 : decode cX2_findTop 1 = .ok (.getfield 15, 3) := by decide +kernel
theorem dX2_findTop_4 : decode cX2_findTop 4 = .ok (.aload_n 0, 1) := by decide +kernel
theorem dX2_findTop_5 : decode cX2_findTop 5 = .ok (.getfield 31, 3) := by decide +kernel
theorem dX2_findTop_8 : decode cX2_findTop 8 = .ok (.sipush 999, 3) := by decide +kernel
theorem dX2_findTop_11 : decode cX2_findTop 11 = .ok (.invokestatic 45, 3) := by decide +kernel
theorem dX2_findTop_14 : decode cX2_findTop 14 = .ok (.istore_n 1, 1) := by decide +kernel
theorem dX2_findTop_15 : decode cX2_findTop 15 = .ok (.iload_n 1, 1) := by decide +kernel
theorem dX2_findTop_16 : decode cX2_findTop 16 = .ok (.sipush 999, 3) := by decide +kernel
theorem dX2_findTop_19 : decode cX2_findTop 19 = .ok (.if_icmp .ge 21, 3) := by decide +kernel
theorem dX2_findTop_22 : decode cX2_findTop 22 = .ok (.aload_n 0, 1) := by decide +kernel
theorem dX2_findTop_23 : decode cX2_findTop 23 = .ok (.iload_n 1, 1) := by decide +kernel
theorem dX2_findTop_24 : decode cX2_findTop 24 = .ok (.invokevirtual 48, 3) := by decide +kernel
theorem dX2_findTop_27 : decode cX2_findTop 27 = .ok (.aload_n 0, 1) := by decide +kernel
theorem dX2_findTop_28 : decode cX2_findTop 28 = .ok (.getfield 31, 3) := by decide +kernel
theorem dX2_findTop_31 : decode cX2_findTop 31 = .ok (.if_icmp .le 9, 3) := by decide +kernel
theorem dX2_findTop_34 : decode cX2_findTop 34 = .ok (.iinc 1 1, 3) := by decide +kernel
theorem dX2_findTop_37 : decode cX2_findTop 37 = .ok (.goto (-22), 3) := by decide +kernel
theorem dX2_findTop_40 : decode cX2_findTop 40 = .ok (.iload_n 1, 1) := by decide +kernel
theorem dX2_findTop_41 : decode cX2_findTop 41 = .ok (.ireturn, 1) := by decide +kernel
theorem dX2_rampInterval_0 : decode cX2_rampInterval 0 = .ok (.iload_n 1, 1) := by decide +kernel
theorem dX2_rampInterval_1 : decode cX2_rampInterval 1 = .ok (.ifCond .lt 14, 3) := by decide +kernel
theorem dX2_rampInterval_4 : decode cX2_rampInterval 4 = .ok (.iload_n 1, 1) := by decide +kernel
theorem dX2_rampInterval_5 : decode cX2_rampInterval 5 = .ok (.iconst 1, 1) := by decide +kernel
theorem dX2_rampInterval_6 : decode cX2_rampInterval 6 = .ok (.iadd, 1) := by decide +kernel
theorem dX2_rampInterval_7 : decode cX2_rampInterval 7 = .ok (.aload_n 0, 1) := by decide +kernel
theorem dX2_rampInterval_8 : decode cX2_rampInterval 8 = .ok (.getfield 9, 3) := by decide +kernel
theorem dX2_rampInterval_11 : decode cX2_rampInterval 11 = .ok (.arraylength, 1) := by decide +kernel
theorem dX2_rampInterval_12 : decode cX2_rampInterval 12 = .ok (.if_icmp .lt 7, 3) := by decide +kernel
theorem dX2_rampInterval_15 : decode cX2_rampInterval 15 = .ok (.iconst 0, 1) := by decide +kernel
theorem dX2_rampInterval_16 : decode cX2_rampInterval 16 = .ok (.goto 18, 3) := by decide +kernel
theorem dX2_rampInterval_19 : decode cX2_rampInterval 19 = .ok (.aload_n 0, 1) := by decide +kernel
theorem dX2_rampInterval_20 : decode cX2_rampInterval 20 = .ok (.getfield 9, 3) := by decide +kernel
theorem dX2_rampInterval_23 : decode cX2_rampInterval 23 = .ok (.iload_n 1, 1) := by decide +kernel
theorem dX2_rampInterval_24 : decode cX2_rampInterval 24 = .ok (.iconst 1, 1) := by decide +kernel
theorem dX2_rampInterval_25 : decode cX2_rampInterval 25 = .ok (.iadd, 1) := by decide +kernel
theorem dX2_rampInterval_26 : decode cX2_rampInterval 26 = .ok (.iaload, 1) := by decide +kernel
theorem dX2_rampInterval_27 : decode cX2_rampInterval 27 = .ok (.aload_n 0, 1) := by decide +kernel
theorem dX2_rampInterval_28 : decode cX2_rampInterval 28 = .ok (.getfield 9, 3) := by decide +kernel
theorem dX2_rampInterval_31 : decode cX2_rampInterval 31 = .ok (.iload_n 1, 1) := by decide +kernel
theorem dX2_rampInterval_32 : decode cX2_rampInterval 32 = .ok (.iaload, 1) := by decide +kernel
theorem dX2_rampInterval_33 : decode cX2_rampInterval 33 = .ok (.isub, 1) := by decide +kernel
theorem dX2_rampInterval_34 : decode cX2_rampInterval 34 = .ok (.ireturn, 1) := by decide +kernel
theorem dX2_intervalOf_0 : decode cX2_intervalOf 0 = .ok (.aload_n 0, 1) := by decide +kernel
theorem dX2_intervalOf_1 : decode cX2_intervalOf 1 = .ok (.iload_n 1, 1) := by decide +kernel
theorem dX2_intervalOf_2 : decode cX2_intervalOf 2 = .ok (.invokevirtual 48, 3) := by decide +kernel
theorem dX2_intervalOf_5 : decode cX2_intervalOf 5 = .ok (.aload_n 0, 1) := by decide +kernel
theorem dX2_intervalOf_6 : decode cX2_intervalOf 6 = .ok (.getfield 31, 3) := by decide +kernel
theorem dX2_intervalOf_9 : decode cX2_intervalOf 9 = .ok (.invokestatic 51, 3) := by decide +kernel
theorem dX2_intervalOf_12 : decode cX2_intervalOf 12 = .ok (.ireturn, 1) := by decide +kernel
theorem dX2_ticksOfMove_0 : decode cX2_ticksOfMove 0 = .ok (.iload_n 1, 1) := by decide +kernel
theorem dX2_ticksOfMove_1 : decode cX2_ticksOfMove 1 = .ok (.iconst 2, 1) := by decide +kernel
theorem dX2_ticksOfMove_2 : decode cX2_ticksOfMove 2 = .ok (.idiv, 1) := by decide +kernel
theorem dX2_ticksOfMove_3 : decode cX2_ticksOfMove 3 = .ok (.aload_n 0, 1) := by decide +kernel
theorem dX2_ticksOfMove_4 : decode cX2_ticksOfMove 4 = .ok (.getfield 38, 3) := by decide +kernel
theorem dX2_ticksOfMove_7 : decode cX2_ticksOfMove 7 = .ok (.invokestatic 57, 3) := by decide +kernel
theorem dX2_ticksOfMove_10 : decode cX2_ticksOfMove 10 = .ok (.istore_n 2, 1) := by decide +kernel
theorem dX2_ticksOfMove_11 : decode cX2_ticksOfMove 11 = .ok (.iload_n 2, 1) := by decide +kernel
theorem dX2_ticksOfMove_12 : decode cX2_ticksOfMove 12 = .ok (.ifCond .lt 12, 3) := by decide +kernel
theorem dX2_ticksOfMove_15 : decode cX2_ticksOfMove 15 = .ok (.iload_n 2, 1) := by decide +kernel
theorem dX2_ticksOfMove_16 : decode cX2_ticksOfMove 16 = .ok (.aload_n 0, 1) := by decide +kernel
theorem dX2_ticksOfMove_17 : decode cX2_ticksOfMove 17 = .ok (.getfield 9, 3) := by decide +kernel
theorem dX2_ticksOfMove_20 : decode cX2_ticksOfMove 20 = .ok (.arraylength, 1) := by decide +kernel
theorem dX2_ticksOfMove_21 : decode cX2_ticksOfMove 21 = .ok (.if_icmp .lt 5, 3) := by decide +kernel
theorem dX2_ticksOfMove_24 : decode cX2_ticksOfMove 24 = .ok (.iconst 0, 1) := by decide +kernel
theorem dX2_ticksOfMove_25 : decode cX2_ticksOfMove 25 = .ok (.ireturn, 1) := by decide +kernel
theorem dX2_ticksOfMove_26 : decode cX2_ticksOfMove 26 = .ok (.iconst 2, 1) := by decide +kernel
theorem dX2_ticksOfMove_27 : decode cX2_ticksOfMove 27 = .ok (.aload_n 0, 1) := by decide +kernel
theorem dX2_ticksOfMove_28 : decode cX2_ticksOfMove 28 = .ok (.getfield 9, 3) := by decide +kernel
theorem dX2_ticksOfMove_31 : decode cX2_ticksOfMove 31 = .ok (.iload_n 2, 1) := by decide +kernel
theorem dX2_ticksOfMove_32 : decode cX2_ticksOfMove 32 = .ok (.iaload, 1) := by decide +kernel
theorem dX2_ticksOfMove_33 : decode cX2_ticksOfMove 33 = .ok (.imul, 1) := by decide +kernel
theorem dX2_ticksOfMove_34 : decode cX2_ticksOfMove 34 = .ok (.iload_n 1, 1) := by decide +kernel
theorem dX2_ticksOfMove_35 : decode cX2_ticksOfMove 35 = .ok (.iconst 2, 1) := by decide +kernel
theorem dX2_ticksOfMove_36 : decode cX2_ticksOfMove 36 = .ok (.iload_n 2, 1) := by decide +kernel
theorem dX2_ticksOfMove_37 : decode cX2_ticksOfMove 37 = .ok (.imul, 1) := by decide +kernel
theorem dX2_ticksOfMove_38 : decode cX2_ticksOfMove 38 = .ok (.isub, 1) := by decide +kernel
theorem dX2_ticksOfMove_39 : decode cX2_ticksOfMove 39 = .ok (.aload_n 0, 1) := by decide +kernel
theorem dX2_ticksOfMove_40 : decode cX2_ticksOfMove 40 = .ok (.iload_n 2, 1) := by decide +kernel
theorem dX2_ticksOfMove_41 : decode cX2_ticksOfMove 41 = .ok (.invokevirtual 60, 3) := by decide +kernel
theorem dX2_ticksOfMove_44 : decode cX2_ticksOfMove 44 = .ok (.imul, 1) := by decide +kernel
theorem dX2_ticksOfMove_45 : decode cX2_ticksOfMove 45 = .ok (.iadd, 1) := by decide +kernel
theorem dX2_ticksOfMove_46 : decode cX2_ticksOfMove 46 = .ok (.ireturn, 1) := by decide +kernel
theorem dX2_approximation_0 : decode cX2_approximation 0 = .ok (.sipush 676, 3) := by decide +kernel
theorem dX2_approximation_3 : decode cX2_approximation 3 = .ok (.aload_n 0, 1) := by decide +kernel
theorem dX2_approximation_4 : decode cX2_approximation 4 = .ok (.getfield 9, 3) := by decide +kernel
theorem dX2_approximation_7 : decode cX2_approximation 7 = .ok (.iconst 1, 1) := by decide +kernel
theorem dX2_approximation_8 : decode cX2_approximation 8 = .ok (.iaload, 1) := by decide +kernel
theorem dX2_approximation_9 : decode cX2_approximation 9 = .ok (.imul, 1) := by decide +kernel
theorem dX2_approximation_10 : decode cX2_approximation 10 = .ok (.sipush 1000, 3) := by decide +kernel
theorem dX2_approximation_13 : decode cX2_approximation 13 = .ok (.idiv, 1) := by decide +kernel
theorem dX2_approximation_14 : decode cX2_approximation 14 = .ok (.istore_n 2, 1) := by decide +kernel
theorem dX2_approximation_15 : decode cX2_approximation 15 = .ok (.iconst 0, 1) := by decide +kernel
theorem dX2_approximation_16 : decode cX2_approximation 16 = .ok (.istore_n 3, 1) := by decide +kernel
theorem dX2_approximation_17 : decode cX2_approximation 17 = .ok (.iconst 1, 1) := by decide +kernel
theorem dX2_approximation_18 : decode cX2_approximation 18 = .ok (.istore 4, 2) := by decide +kernel
theorem dX2_approximation_20 : decode cX2_approximation 20 = .ok (.iload 4, 2) := by decide +kernel
theorem dX2_approximation_22 : decode cX2_approximation 22 = .ok (.iload_n 1, 1) := by decide +kernel
theorem dX2_approximation_23 : decode cX2_approximation 23 = .ok (.if_icmp .gt 38, 3) := by decide +kernel
theorem dX2_approximation_26 : decode cX2_approximation 26 = .ok (.iconst 2, 1) := by decide +kernel
theorem dX2_approximation_27 : decode cX2_approximation 27 = .ok (.iload_n 2, 1) := by decide +kernel
theorem dX2_approximation_28 : decode cX2_approximation 28 = .ok (.imul, 1) := by decide +kernel
theorem dX2_approximation_29 : decode cX2_approximation 29 = .ok (.iload_n 3, 1) := by decide +kernel
theorem dX2_approximation_30 : decode cX2_approximation 30 = .ok (.iadd, 1) := by decide +kernel
theorem dX2_approximation_31 : decode cX2_approximation 31 = .ok (.istore 5, 2) := by decide +kernel
theorem dX2_approximation_33 : decode cX2_approximation 33 = .ok (.iload_n 2, 1) := by decide +kernel
theorem dX2_approximation_34 : decode cX2_approximation 34 = .ok (.iload 5, 2) := by decide +kernel
theorem dX2_approximation_36 : decode cX2_approximation 36 = .ok (.iconst 4, 1) := by decide +kernel
theorem dX2_approximation_37 : decode cX2_approximation 37 = .ok (.iload 4, 2) := by decide +kernel
theorem dX2_approximation_39 : decode cX2_approximation 39 = .ok (.imul, 1) := by decide +kernel
theorem dX2_approximation_40 : decode cX2_approximation 40 = .ok (.iconst 1, 1) := by decide +kernel
theorem dX2_approximation_41 : decode cX2_approximation 41 = .ok (.iadd, 1) := by decide +kernel
theorem dX2_approximation_42 : decode cX2_approximation 42 = .ok (.idiv, 1) := by decide +kernel
theorem dX2_approximation_43 : decode cX2_approximation 43 = .ok (.isub, 1) := by decide +kernel
theorem dX2_approximation_44 : decode cX2_approximation 44 = .ok (.istore_n 2, 1) := by decide +kernel
theorem dX2_approximation_45 : decode cX2_approximation 45 = .ok (.iload 5, 2) := by decide +kernel
theorem dX2_approximation_47 : decode cX2_approximation 47 = .ok (.iconst 4, 1) := by decide +kernel
theorem dX2_approximation_48 : decode cX2_approximation 48 = .ok (.iload 4, 2) := by decide +kernel
theorem dX2_approximation_50 : decode cX2_approximation 50 = .ok (.imul, 1) := by decide +kernel
theorem dX2_approximation_51 : decode cX2_approximation 51 = .ok (.iconst 1, 1) := by decide +kernel
theorem dX2_approximation_52 : decode cX2_approximation 52 = .ok (.iadd, 1) := by decide +kernel
theorem dX2_approximation_53 : decode cX2_approximation 53 = .ok (.irem, 1) := by decide +kernel
theorem dX2_approximation_54 : decode cX2_approximation 54 = .ok (.istore_n 3, 1) := by decide +kernel
theorem dX2_approximation_55 : decode cX2_approximation 55 = .ok (.iinc 4 1, 3) := by decide +kernel
theorem dX2_approximation_58 : decode cX2_approximation 58 = .ok (.goto (-38), 3) := by decide +kernel
theorem dX2_approximation_61 : decode cX2_approximation 61 = .ok (.iload_n 2, 1) := by decide +kernel
theorem dX2_approximation_62 : decode cX2_approximation 62 = .ok (.ireturn, 1) := by decide +kernel
theorem dX3_init_0 : decode cX3_init 0 = .ok (.aload_n 0, 1) := by decide +kernel
theorem dX3_init_1 : decode cX3_init 1 = .ok (.invokespecial 1, 3) := by decide +kernel
theorem dX3_init_4 : decode cX3_init 4 = .ok (.aload_n 0, 1) := by decide +kernel
theorem dX3_init_5 : decode cX3_init 5 = .ok (.new 7, 3) := by decide +kernel
theorem dX3_init_8 : decode cX3_init 8 = .ok (.dup, 1) := by decide +kernel
theorem dX3_init_9 : decode cX3_init 9 = .ok (.invokespecial 9, 3) := by decide +kernel
theorem dX3_init_12 : decode cX3_init 12 = .ok (.putfield 10, 3) := by decide +kernel
theorem dX3_init_15 : decode cX3_init 15 = .ok (.return_, 1) := by decide +kernel
theorem dX4_init_0 : decode cX4_init 0 = .ok (.aload_n 0, 1) := by decide +kernel
theorem dX4_init_1 : decode cX4_init 1 = .ok (.invokespecial 3, 3) := by decide +kernel
theorem dX4_init_4 : decode cX4_init 4 = .ok (.aload_n 0, 1) := by decide +kernel
theorem dX4_init_5 : decode cX4_init 5 = .ok (.bipush 80, 2) := by decide +kernel
theorem dX4_init_7 : decode cX4_init 7 = .ok (.newarray .int, 2) := by decide +kernel
theorem dX4_init_9 : decode cX4_init 9 = .ok (.putfield 9, 3) := by decide +kernel
theorem dX4_init_12 : decode cX4_init 12 = .ok (.return_, 1) := by decide +kernel
theorem dX4_add_0 : decode cX4_add 0 = .ok (.aload_n 0, 1) := by decide +kernel
theorem dX4_add_1 : decode cX4_add 1 = .ok (.getfield 15, 3) := by decide +kernel
theorem dX4_add_4 : decode cX4_add 4 = .ok (.ifCond .lt 15, 3) := by decide +kernel
theorem dX4_add_7 : decode cX4_add 7 = .ok (.aload_n 0, 1) := by decide +kernel
theorem dX4_add_8 : decode cX4_add 8 = .ok (.getfield 15, 3) := by decide +kernel
theorem dX4_add_11 : decode cX4_add 11 = .ok (.aload_n 0, 1) := by decide +kernel
theorem dX4_add_12 : decode cX4_add 12 = .ok (.getfield 9, 3) := by decide +kernel
theorem dX4_add_15 : decode cX4_add 15 = .ok (.arraylength, 1) := by decide +kernel
theorem dX4_add_16 : decode cX4_add 16 = .ok (.if_icmp .lt 5, 3) := by decide +kernel
theorem dX4_add_19 : decode cX4_add 19 = .ok (.iconst 0, 1) := by decide +kernel
theorem dX4_add_20 : decode cX4_add 20 = .ok (.ireturn, 1) := by decide +kernel
theorem dX4_add_21 : decode cX4_add 21 = .ok (.aload_n 0, 1) := by decide +kernel
theorem dX4_add_22 : decode cX4_add 22 = .ok (.getfield 9, 3) := by decide +kernel
theorem dX4_add_25 : decode cX4_add 25 = .ok (.aload_n 0, 1) := by decide +kernel
theorem dX4_add_26 : decode cX4_add 26 = .ok (.getfield 15, 3) := by decide +kernel
theorem dX4_add_29 : decode cX4_add 29 = .ok (.iload_n 1, 1) := by decide +kernel
theorem dX4_add_30 : decode cX4_add 30 = .ok (.iastore, 1) := by decide +kernel
theorem dX4_add_31 : decode cX4_add 31 = .ok (.aload_n 0, 1) := by decide +kernel
theorem dX4_add_32 : decode cX4_add 32 = .ok (.dup, 1) := by decide +kernel
theorem dX4_add_33 : decode cX4_add 33 = .ok (.getfield 15, 3) := by decide +kernel
theorem dX4_add_36 : decode cX4_add 36 = .ok (.iconst 1, 1) := by decide +kernel
theorem dX4_add_37 : decode cX4_add 37 = .ok (.iadd, 1) := by decide +kernel
theorem dX4_add_38 : decode cX4_add 38 = .ok (.putfield 15, 3) := by decide +kernel
theorem dX4_add_41 : decode cX4_add 41 = .ok (.iconst 1, 1) := by decide +kernel
theorem dX4_add_42 : decode cX4_add 42 = .ok (.ireturn, 1) := by decide +kernel
theorem dX4_readInto_0 : decode cX4_readInto 0 = .ok (.aload_n 0, 1) := by decide +kernel
theorem dX4_readInto_1 : decode cX4_readInto 1 = .ok (.iconst 0, 1) := by decide +kernel
theorem dX4_readInto_2 : decode cX4_readInto 2 = .ok (.putfield 19, 3) := by decide +kernel
theorem dX4_readInto_5 : decode cX4_readInto 5 = .ok (.aload_n 0, 1) := by decide +kernel
theorem dX4_readInto_6 : decode cX4_readInto 6 = .ok (.bipush (-9), 2) := by decide +kernel
theorem dX4_readInto_8 : decode cX4_readInto 8 = .ok (.putfield 22, 3) := by decide +kernel
theorem dX4_readInto_11 : decode cX4_readInto 11 = .ok (.aload_n 1, 1) := by decide +kernel
theorem dX4_readInto_12 : decode cX4_readInto 12 = .ok (.invokevirtual 25, 3) := by decide +kernel
theorem dX4_readInto_15 : decode cX4_readInto 15 = .ok (.aload_n 0, 1) := by decide +kernel
theorem dX4_readInto_16 : decode cX4_readInto 16 = .ok (.bipush 97, 2) := by decide +kernel
theorem dX4_readInto_18 : decode cX4_readInto 18 = .ok (.invokevirtual 30, 3) := by decide +kernel
theorem dX4_readInto_21 : decode cX4_readInto 21 = .ok (.aload_n 1, 1) := by decide +kernel
theorem dX4_readInto_22 : decode cX4_readInto 22 = .ok (.aload_n 0, 1) := by decide +kernel
theorem dX4_readInto_23 : decode cX4_readInto 23 = .ok (.iconst 3, 1) := by decide +kernel
theorem dX4_readInto_24 : decode cX4_readInto 24 = .ok (.invokevirtual 34, 3) := by decide +kernel
theorem dX4_readInto_27 : decode cX4_readInto 27 = .ok (.putfield 38, 3) := by decide +kernel
theorem dX4_readInto_30 : decode cX4_readInto 30 = .ok (.aload_n 0, 1) := by decide +kernel
theorem dX4_readInto_31 : decode cX4_readInto 31 = .ok (.bipush 118, 2) := by decide +kernel
theorem dX4_readInto_33 : decode cX4_readInto 33 = .ok (.invokevirtual 30, 3) := by decide +kernel
theorem dX4_readInto_36 : decode cX4_readInto 36 = .ok (.aload_n 1, 1) := by decide +kernel
theorem dX4_readInto_37 : decode cX4_readInto 37 = .ok (.aload_n 0, 1) := by decide +kernel
theorem dX4_readInto_38 : decode cX4_readInto 38 = .ok (.iconst 3, 1) := by decide +kernel
theorem dX4_readInto_39 : decode cX4_readInto 39 = .ok (.invokevirtual 34, 3) := by decide +kernel
theorem dX4_readInto_42 : decode cX4_readInto 42 = .ok (.putfield 41, 3) := by decide +kernel
theorem dX4_readInto_45 : decode cX4_readInto 45 = .ok (.iconst 0, 1) := by decide +kernel
theorem dX4_readInto_46 : decode cX4_readInto 46 = .ok (.istore_n 2, 1) := by decide +kernel
theorem dX4_readInto_47 : decode cX4_readInto 47 = .ok (.iload_n 2, 1) := by decide +kernel
theorem dX4_readInto_48 : decode cX4_readInto 48 = .ok (.bipush 8, 2) := by decide +kernel
theorem dX4_readInto_50 : decode cX4_readInto 50 = .ok (.if_icmp .gt 34, 3) := by decide +kernel
theorem dX4_readInto_53 : decode cX4_readInto 53 = .ok (.aload_n 0, 1) := by decide +kernel
theorem dX4_readInto_54 : decode cX4_readInto 54 = .ok (.getfield 22, 3) := by decide +kernel
theorem dX4_readInto_57 : decode cX4_readInto 57 = .ok (.bipush (-9), 2) := by decide +kernel
theorem dX4_readInto_59 : decode cX4_readInto 59 = .ok (.if_icmp .ne 25, 3) := by decide +kernel
theorem dX4_readInto_62 : decode cX4_readInto 62 = .ok (.aload_n 0, 1) := by decide +kernel
theorem dX4_readInto_63 : decode cX4_readInto 63 = .ok (.getfield 19, 3) := by decide +kernel
theorem dX4_readInto_66 : decode cX4_readInto 66 = .ok (.aload_n 0, 1) := by decide +kernel
theorem dX4_readInto_67 : decode cX4_readInto 67 = .ok (.getfield 15, 3) := by decide +kernel
theorem dX4_readInto_70 : decode cX4_readInto 70 = .ok (.if_icmp .ge 14, 3) := by decide +kernel
theorem dX4_readInto_73 : decode cX4_readInto 73 = .ok (.aload_n 0, 1) := by decide +kernel
theorem dX4_readInto_74 : decode cX4_readInto 74 = .ok (.aload_n 1, 1) := by decide +kernel
theorem dX4_readInto_75 : decode cX4_readInto 75 = .ok (.invokevirtual 44, 3) := by decide +kernel
theorem dX4_readInto_78 : decode cX4_readInto 78 = .ok (.iinc 2 1, 3) := by decide +kernel
theorem dX4_readInto_81 : decode cX4_readInto 81 = .ok (.goto (-34), 3) := by decide +kernel
theorem dX4_readInto_84 : decode cX4_readInto 84 = .ok (.aload_n 0, 1) := by decide +kernel
theorem dX4_readInto_85 : decode cX4_readInto 85 = .ok (.getfield 22, 3) := by decide +kernel
theorem dX4_readInto_88 : decode cX4_readInto 88 = .ok (.ireturn, 1) := by decide +kernel
theorem dX4_takeItem_0 : decode cX4_takeItem 0 = .ok (.aload_n 0, 1) := by decide +kernel
theorem dX4_takeItem_1 : decode cX4_takeItem 1 = .ok (.invokevirtual 48, 3) := by decide +kernel
theorem dX4_takeItem_4 : decode cX4_takeItem 4 = .ok (.istore_n 2, 1) := by decide +kernel
theorem dX4_takeItem_5 : decode cX4_takeItem 5 = .ok (.aload_n 1, 1) := by decide +kernel
theorem dX4_takeItem_6 : decode cX4_takeItem 6 = .ok (.invokevirtual 52, 3) := by decide +kernel
theorem dX4_takeItem_9 : decode cX4_takeItem 9 = .ok (.ifCond .ne 15, 3) := by decide +kernel
theorem dX4_takeItem_12 : decode cX4_takeItem 12 = .ok (.iload_n 2, 1) := by decide +kernel
theorem dX4_takeItem_13 : decode cX4_takeItem 13 = .ok (.bipush 109, 2) := by decide +kernel
theorem dX4_takeItem_15 : decode cX4_takeItem 15 = .ok (.if_icmp .eq 18, 3) := by decide +kernel
theorem dX4_takeItem_18 : decode cX4_takeItem 18 = .ok (.iload_n 2, 1) := by decide +kernel
theorem dX4_takeItem_19 : decode cX4_takeItem 19 = .ok (.bipush 119, 2) := by decide +kernel
theorem dX4_takeItem_21 : decode cX4_takeItem 21 = .ok (.if_icmp .eq 12, 3) := by decide +kernel
theorem dX4_takeItem_24 : decode cX4_takeItem 24 = .ok (.aload_n 0, 1) := by decide +kernel
theorem dX4_takeItem_25 : decode cX4_takeItem 25 = .ok (.aload_n 0, 1) := by decide +kernel
theorem dX4_takeItem_26 : decode cX4_takeItem 26 = .ok (.getfield 19, 3) := by decide +kernel
theorem dX4_takeItem_29 : decode cX4_takeItem 29 = .ok (.invokevirtual 56, 3) := by decide +kernel
theorem dX4_takeItem_32 : decode cX4_takeItem 32 = .ok (.return_, 1) := by decide +kernel
theorem dX4_takeItem_33 : decode cX4_takeItem 33 = .ok (.aload_n 0, 1) := by decide +kernel
theorem dX4_takeItem_34 : decode cX4_takeItem 34 = .ok (.dup, 1) := by decide +kernel
theorem dX4_takeItem_35 : decode cX4_takeItem 35 = .ok (.getfield 19, 3) := by decide +kernel
theorem dX4_takeItem_38 : decode cX4_takeItem 38 = .ok (.iconst 1, 1) := by decide +kernel
theorem dX4_takeItem_39 : decode cX4_takeItem 39 = .ok (.iadd, 1) := by decide +kernel
theorem dX4_takeItem_40 : decode cX4_takeItem 40 = .ok (.putfield 19, 3) := by decide +kernel
theorem dX4_takeItem_43 : decode cX4_takeItem 43 = .ok (.iload_n 2, 1) := by decide +kernel
theorem dX4_takeItem_44 : decode cX4_takeItem 44 = .ok (.bipush 119, 2) := by decide +kernel
theorem dX4_takeItem_46 : decode cX4_takeItem 46 = .ok (.if_icmp .ne 15, 3) := by decide +kernel
theorem dX4_takeItem_49 : decode cX4_takeItem 49 = .ok (.aload_n 1, 1) := by decide +kernel
theorem dX4_takeItem_50 : decode cX4_takeItem 50 = .ok (.iconst 0, 1) := by decide +kernel
theorem dX4_takeItem_51 : decode cX4_takeItem 51 = .ok (.iconst 0, 1) := by decide +kernel
theorem dX4_takeItem_52 : decode cX4_takeItem 52 = .ok (.aload_n 0, 1) := by decide +kernel
theorem dX4_takeItem_53 : decode cX4_takeItem 53 = .ok (.iconst 4, 1) := by decide +kernel
theorem dX4_takeItem_54 : decode cX4_takeItem 54 = .ok (.invokevirtual 34, 3) := by decide +kernel
theorem dX4_takeItem_57 : decode cX4_takeItem 57 = .ok (.invokevirtual 59, 3) := by decide +kernel
theorem dX4_takeItem_60 : decode cX4_takeItem 60 = .ok (.return_, 1) := by decide +kernel
theorem dX4_takeItem_61 : decode cX4_takeItem 61 = .ok (.aload_n 0, 1) := by decide +kernel
theorem dX4_takeItem_62 : decode cX4_takeItem 62 = .ok (.invokevirtual 63, 3) := by decide +kernel
theorem dX4_takeItem_65 : decode cX4_takeItem 65 = .ok (.istore_n 3, 1) := by decide +kernel
theorem dX4_takeItem_66 : decode cX4_takeItem 66 = .ok (.aload_n 0, 1) := by decide +kernel
theorem dX4_takeItem_67 : decode cX4_takeItem 67 = .ok (.invokevirtual 63, 3) := by decide +kernel
theorem dX4_takeItem_70 : decode cX4_takeItem 70 = .ok (.istore 4, 2) := by decide +kernel
theorem dX4_takeItem_72 : decode cX4_takeItem 72 = .ok (.iload_n 3, 1) := by decide +kernel
theorem dX4_takeItem_73 : decode cX4_takeItem 73 = .ok (.ifCond .ne 18, 3) := by decide +kernel
theorem dX4_takeItem_76 : decode cX4_takeItem 76 = .ok (.iload 4, 2) := by decide +kernel
theorem dX4_takeItem_78 : decode cX4_takeItem 78 = .ok (.ifCond .ne 13, 3) := by decide +kernel
theorem dX4_takeItem_81 : decode cX4_takeItem 81 = .ok (.aload_n 0, 1) := by decide +kernel
theorem dX4_takeItem_82 : decode cX4_takeItem 82 = .ok (.aload_n 0, 1) := by decide +kernel
theorem dX4_takeItem_83 : decode cX4_takeItem 83 = .ok (.getfield 19, 3) := by decide +kernel
theorem dX4_takeItem_86 : decode cX4_takeItem 86 = .ok (.iconst 1, 1) := by decide +kernel
theorem dX4_takeItem_87 : decode cX4_takeItem 87 = .ok (.isub, 1) := by decide +kernel
theorem dX4_takeItem_88 : decode cX4_takeItem 88 = .ok (.invokevirtual 56, 3) := by decide +kernel
theorem dX4_takeItem_91 : decode cX4_takeItem 91 = .ok (.aload_n 1, 1) := by decide +kernel
theorem dX4_takeItem_92 : decode cX4_takeItem 92 = .ok (.iload_n 3, 1) := by decide +kernel
theorem dX4_takeItem_93 : decode cX4_takeItem 93 = .ok (.iload 4, 2) := by decide +kernel
theorem dX4_takeItem_95 : decode cX4_takeItem 95 = .ok (.iconst 0, 1) := by decide +kernel
theorem dX4_takeItem_96 : decode cX4_takeItem 96 = .ok (.invokevirtual 59, 3) := by decide +kernel
theorem dX4_takeItem_99 : decode cX4_takeItem 99 = .ok (.return_, 1) := by decide +kernel
theorem dX4_present_0 : decode cX4_present 0 = .ok (.aload_n 0, 1) := by decide +kernel
theorem dX4_present_1 : decode cX4_present 1 = .ok (.getfield 19, 3) := by decide +kernel
theorem dX4_present_4 : decode cX4_present 4 = .ok (.ifCond .lt 38, 3) := by decide +kernel
theorem dX4_present_7 : decode cX4_present 7 = .ok (.aload_n 0, 1) := by decide +kernel
theorem dX4_present_8 : decode cX4_present 8 = .ok (.getfield 19, 3) := by decide +kernel
theorem dX4_present_11 : decode cX4_present 11 = .ok (.aload_n 0, 1) := by decide +kernel
theorem dX4_present_12 : decode cX4_present 12 = .ok (.getfield 15, 3) := by decide +kernel
theorem dX4_present_15 : decode cX4_present 15 = .ok (.if_icmp .ge 27, 3) := by decide +kernel
theorem dX4_present_18 : decode cX4_present 18 = .ok (.aload_n 0, 1) := by decide +kernel
theorem dX4_present_19 : decode cX4_present 19 = .ok (.getfield 19, 3) := by decide +kernel
theorem dX4_present_22 : decode cX4_present 22 = .ok (.aload_n 0, 1) := by decide +kernel
theorem dX4_present_23 : decode cX4_present 23 = .ok (.getfield 9, 3) := by decide +kernel
theorem dX4_present_26 : decode cX4_present 26 = .ok (.arraylength, 1) := by decide +kernel
theorem dX4_present_27 : decode cX4_present 27 = .ok (.if_icmp .ge 15, 3) := by decide +kernel
theorem dX4_present_30 : decode cX4_present 30 = .ok (.aload_n 0, 1) := by decide +kernel
theorem dX4_present_31 : decode cX4_present 31 = .ok (.getfield 9, 3) := by decide +kernel
theorem dX4_present_34 : decode cX4_present 34 = .ok (.aload_n 0, 1) := by decide +kernel
theorem dX4_present_35 : decode cX4_present 35 = .ok (.getfield 19, 3) := by decide +kernel
theorem dX4_present_38 : decode cX4_present 38 = .ok (.iaload, 1) := by decide +kernel
theorem dX4_present_39 : decode cX4_present 39 = .ok (.goto 5, 3) := by decide +kernel
theorem dX4_present_42 : decode cX4_present 42 = .ok (.bipush (-9), 2) := by decide +kernel
theorem dX4_present_44 : decode cX4_present 44 = .ok (.ireturn, 1) := by decide +kernel
theorem dX4_failAt_0 : decode cX4_failAt 0 = .ok (.aload_n 0, 1) := by decide +kernel
theorem dX4_failAt_1 : decode cX4_failAt 1 = .ok (.getfield 22, 3) := by decide +kernel
theorem dX4_failAt_4 : decode cX4_failAt 4 = .ok (.bipush (-9), 2) := by decide +kernel
theorem dX4_failAt_6 : decode cX4_failAt 6 = .ok (.if_icmp .ne 8, 3) := by decide +kernel
theorem dX4_failAt_9 : decode cX4_failAt 9 = .ok (.aload_n 0, 1) := by decide +kernel
theorem dX4_failAt_10 : decode cX4_failAt 10 = .ok (.iload_n 1, 1) := by decide +kernel
theorem dX4_failAt_11 : decode cX4_failAt 11 = .ok (.putfield 22, 3) := by decide +kernel
theorem dX4_failAt_14 : decode cX4_failAt 14 = .ok (.return_, 1) := by decide +kernel
theorem dX4_takeLetter_0 : decode cX4_takeLetter 0 = .ok (.aload_n 0, 1) := by decide +kernel
theorem dX4_takeLetter_1 : decode cX4_takeLetter 1 = .ok (.invokevirtual 48, 3) := by decide +kernel
theorem dX4_takeLetter_4 : decode cX4_takeLetter 4 = .ok (.iload_n 1, 1) := by decide +kernel
theorem dX4_takeLetter_5 : decode cX4_takeLetter 5 = .ok (.if_icmp .ne 16, 3) := by decide +kernel
theorem dX4_takeLetter_8 : decode cX4_takeLetter 8 = .ok (.aload_n 0, 1) := by decide +kernel
theorem dX4_takeLetter_9 : decode cX4_takeLetter 9 = .ok (.dup, 1) := by decide +kernel
theorem dX4_takeLetter_10 : decode cX4_takeLetter 10 = .ok (.getfield 19, 3) := by decide +kernel
theorem dX4_takeLetter_13 : decode cX4_takeLetter 13 = .ok (.iconst 1, 1) := by decide +kernel
theorem dX4_takeLetter_14 : decode cX4_takeLetter 14 = .ok (.iadd, 1) := by decide +kernel
theorem dX4_takeLetter_15 : decode cX4_takeLetter 15 = .ok (.putfield 19, 3) := by decide +kernel
theorem dX4_takeLetter_18 : decode cX4_takeLetter 18 = .ok (.goto 11, 3) := by decide +kernel
theorem dX4_takeLetter_21 : decode cX4_takeLetter 21 = .ok (.aload_n 0, 1) := by decide +kernel
theorem dX4_takeLetter_22 : decode cX4_takeLetter 22 = .ok (.aload_n 0, 1) := by decide +kernel
theorem dX4_takeLetter_23 : decode cX4_takeLetter 23 = .ok (.getfield 19, 3) := by decide +kernel
theorem dX4_takeLetter_26 : decode cX4_takeLetter 26 = .ok (.invokevirtual 56, 3) := by decide +kernel
theorem dX4_takeLetter_29 : decode cX4_takeLetter 29 = .ok (.return_, 1) := by decide +kernel
theorem dX4_takeDistance_0 : decode cX4_takeDistance 0 = .ok (.aload_n 0, 1) := by decide +kernel
theorem dX4_takeDistance_1 : decode cX4_takeDistance 1 = .ok (.invokevirtual 48, 3) := by decide +kernel
theorem dX4_takeDistance_4 : decode cX4_takeDistance 4 = .ok (.istore_n 1, 1) := by decide +kernel
theorem dX4_takeDistance_5 : decode cX4_takeDistance 5 = .ok (.iload_n 1, 1) := by decide +kernel
theorem dX4_takeDistance_6 : decode cX4_takeDistance 6 = .ok (.bipush 43, 2) := by decide +kernel
theorem dX4_takeDistance_8 : decode cX4_takeDistance 8 = .ok (.if_icmp .eq 19, 3) := by decide +kernel
theorem dX4_takeDistance_11 : decode cX4_takeDistance 11 = .ok (.iload_n 1, 1) := by decide +kernel
theorem dX4_takeDistance_12 : decode cX4_takeDistance 12 = .ok (.bipush 45, 2) := by decide +kernel
theorem dX4_takeDistance_14 : decode cX4_takeDistance 14 = .ok (.if_icmp .eq 13, 3) := by decide +kernel
theorem dX4_takeDistance_17 : decode cX4_takeDistance 17 = .ok (.aload_n 0, 1) := by decide +kernel
theorem dX4_takeDistance_18 : decode cX4_takeDistance 18 = .ok (.aload_n 0, 1) := by decide +kernel
theorem dX4_takeDistance_19 : decode cX4_takeDistance 19 = .ok (.getfield 19, 3) := by decide +kernel
theorem dX4_takeDistance_22 : decode cX4_takeDistance 22 = .ok (.invokevirtual 56, 3) := by decide +kernel
theorem dX4_takeDistance_25 : decode cX4_takeDistance 25 = .ok (.iconst 0, 1) := by decide +kernel
theorem dX4_takeDistance_26 : decode cX4_takeDistance 26 = .ok (.ireturn, 1) := by decide +kernel
theorem dX4_takeDistance_27 : decode cX4_takeDistance 27 = .ok (.aload_n 0, 1) := by decide +kernel
theorem dX4_takeDistance_28 : decode cX4_takeDistance 28 = .ok (.dup, 1) := by decide +kernel
theorem dX4_takeDistance_29 : decode cX4_takeDistance 29 = .ok (.getfield 19, 3) := by decide +kernel
theorem dX4_takeDistance_32 : decode cX4_takeDistance 32 = .ok (.iconst 1, 1) := by decide +kernel
theorem dX4_takeDistance_33 : decode cX4_takeDistance 33 = .ok (.iadd, 1) := by decide +kernel
theorem dX4_takeDistance_34 : decode cX4_takeDistance 34 = .ok (.putfield 19, 3) := by decide +kernel
theorem dX4_takeDistance_37 : decode cX4_takeDistance 37 = .ok (.aload_n 0, 1) := by decide +kernel
theorem dX4_takeDistance_38 : decode cX4_takeDistance 38 = .ok (.iconst 3, 1) := by decide +kernel
theorem dX4_takeDistance_39 : decode cX4_takeDistance 39 = .ok (.invokevirtual 66, 3) := by decide +kernel
theorem dX4_takeDistance_42 : decode cX4_takeDistance 42 = .ok (.istore_n 2, 1) := by decide +kernel
theorem dX4_takeDistance_43 : decode cX4_takeDistance 43 = .ok (.iload_n 1, 1) := by decide +kernel
theorem dX4_takeDistance_44 : decode cX4_takeDistance 44 = .ok (.bipush 45, 2) := by decide +kernel
theorem dX4_takeDistance_46 : decode cX4_takeDistance 46 = .ok (.if_icmp .ne 8, 3) := by decide +kernel
theorem dX4_takeDistance_49 : decode cX4_takeDistance 49 = .ok (.iload_n 2, 1) := by decide +kernel
theorem dX4_takeDistance_50 : decode cX4_takeDistance 50 = .ok (.ineg, 1) := by decide +kernel
theorem dX4_takeDistance_51 : decode cX4_takeDistance 51 = .ok (.goto 4, 3) := by decide +kernel
theorem dX4_takeDistance_54 : decode cX4_takeDistance 54 = .ok (.iload_n 2, 1) := by decide +kernel
theorem dX4_takeDistance_55 : decode cX4_takeDistance 55 = .ok (.ireturn, 1) := by decide +kernel
theorem dX4_takePositive_0 : decode cX4_takePositive 0 = .ok (.aload_n 0, 1) := by decide +kernel
theorem dX4_takePositive_1 : decode cX4_takePositive 1 = .ok (.iload_n 1, 1) := by decide +kernel
theorem dX4_takePositive_2 : decode cX4_takePositive 2 = .ok (.invokevirtual 66, 3) := by decide +kernel
theorem dX4_takePositive_5 : decode cX4_takePositive 5 = .ok (.istore_n 2, 1) := by decide +kernel
theorem dX4_takePositive_6 : decode cX4_takePositive 6 = .ok (.iload_n 2, 1) := by decide +kernel
theorem dX4_takePositive_7 : decode cX4_takePositive 7 = .ok (.ifCond .ne 13, 3) := by decide +kernel
theorem dX4_takePositive_10 : decode cX4_takePositive 10 = .ok (.aload_n 0, 1) := by decide +kernel
theorem dX4_takePositive_11 : decode cX4_takePositive 11 = .ok (.aload_n 0, 1) := by decide +kernel
theorem dX4_takePositive_12 : decode cX4_takePositive 12 = .ok (.getfield 19, 3) := by decide +kernel
theorem dX4_takePositive_15 : decode cX4_takePositive 15 = .ok (.iconst 1, 1) := by decide +kernel
theorem dX4_takePositive_16 : decode cX4_takePositive 16 = .ok (.isub, 1) := by decide +kernel
theorem dX4_takePositive_17 : decode cX4_takePositive 17 = .ok (.invokevirtual 56, 3) := by decide +kernel
theorem dX4_takePositive_20 : decode cX4_takePositive 20 = .ok (.iload_n 2, 1) := by decide +kernel
theorem dX4_takePositive_21 : decode cX4_takePositive 21 = .ok (.ireturn, 1) := by decide +kernel
theorem dX4_takeDigits_0 : decode cX4_takeDigits 0 = .ok (.iconst 0, 1) := by decide +kernel
theorem dX4_takeDigits_1 : decode cX4_takeDigits 1 = .ok (.istore_n 2, 1) := by decide +kernel
theorem dX4_takeDigits_2 : decode cX4_takeDigits 2 = .ok (.iconst 0, 1) := by decide +kernel
theorem dX4_takeDigits_3 : decode cX4_takeDigits 3 = .ok (.istore_n 3, 1) := by decide +kernel
theorem dX4_takeDigits_4 : decode cX4_takeDigits 4 = .ok (.iload_n 3, 1) := by decide +kernel
theorem dX4_takeDigits_5 : decode cX4_takeDigits 5 = .ok (.iload_n 1, 1) := by decide +kernel
theorem dX4_takeDigits_6 : decode cX4_takeDigits 6 = .ok (.if_icmp .ge 60, 3) := by decide +kernel
theorem dX4_takeDigits_9 : decode cX4_takeDigits 9 = .ok (.aload_n 0, 1) := by decide +kernel
theorem dX4_takeDigits_10 : decode cX4_takeDigits 10 = .ok (.invokevirtual 48, 3) := by decide +kernel
theorem dX4_takeDigits_13 : decode cX4_takeDigits 13 = .ok (.istore 4, 2) := by decide +kernel
theorem dX4_takeDigits_15 : decode cX4_takeDigits 15 = .ok (.iload 4, 2) := by decide +kernel
theorem dX4_takeDigits_17 : decode cX4_takeDigits 17 = .ok (.bipush 48, 2) := by decide +kernel
theorem dX4_takeDigits_19 : decode cX4_takeDigits 19 = .ok (.if_icmp .lt 10, 3) := by decide +kernel
theorem dX4_takeDigits_22 : decode cX4_takeDigits 22 = .ok (.iload 4, 2) := by decide +kernel
theorem dX4_takeDigits_24 : decode cX4_takeDigits 24 = .ok (.bipush 57, 2) := by decide +kernel
theorem dX4_takeDigits_26 : decode cX4_takeDigits 26 = .ok (.if_icmp .le 13, 3) := by decide +kernel
theorem dX4_takeDigits_29 : decode cX4_takeDigits 29 = .ok (.aload_n 0, 1) := by decide +kernel
theorem dX4_takeDigits_30 : decode cX4_takeDigits 30 = .ok (.aload_n 0, 1) := by decide +kernel
theorem dX4_takeDigits_31 : decode cX4_takeDigits 31 = .ok (.getfield 19, 3) := by decide +kernel
theorem dX4_takeDigits_34 : decode cX4_takeDigits 34 = .ok (.invokevirtual 56, 3) := by decide +kernel
theorem dX4_takeDigits_37 : decode cX4_takeDigits 37 = .ok (.iconst 0, 1) := by decide +kernel
theorem dX4_takeDigits_38 : decode cX4_takeDigits 38 = .ok (.ireturn, 1) := by decide +kernel
theorem dX4_takeDigits_39 : decode cX4_takeDigits 39 = .ok (.iload_n 2, 1) := by decide +kernel
theorem dX4_takeDigits_40 : decode cX4_takeDigits 40 = .ok (.bipush 10, 2) := by decide +kernel
theorem dX4_takeDigits_42 : decode cX4_takeDigits 42 = .ok (.imul, 1) := by decide +kernel
theorem dX4_takeDigits_43 : decode cX4_takeDigits 43 = .ok (.iload 4, 2) := by decide +kernel
theorem dX4_takeDigits_45 : decode cX4_takeDigits 45 = .ok (.bipush 48, 2) := by decide +kernel
theorem dX4_takeDigits_47 : decode cX4_takeDigits 47 = .ok (.isub, 1) := by decide +kernel
theorem dX4_takeDigits_48 : decode cX4_takeDigits 48 = .ok (.iadd, 1) := by decide +kernel
theorem dX4_takeDigits_49 : decode cX4_takeDigits 49 = .ok (.istore_n 2, 1) := by decide +kernel
theorem dX4_takeDigits_50 : decode cX4_takeDigits 50 = .ok (.aload_n 0, 1) := by decide +kernel
theorem dX4_takeDigits_51 : decode cX4_takeDigits 51 = .ok (.dup, 1) := by decide +kernel
theorem dX4_takeDigits_52 : decode cX4_takeDigits 52 = .ok (.getfield 19, 3) := by decide +kernel
theorem dX4_takeDigits_55 : decode cX4_takeDigits 55 = .ok (.iconst 1, 1) := by decide +kernel
theorem dX4_takeDigits_56 : decode cX4_takeDigits 56 = .ok (.iadd, 1) := by decide +kernel
theorem dX4_takeDigits_57 : decode cX4_takeDigits 57 = .ok (.putfield 19, 3) := by decide +kernel
theorem dX4_takeDigits_60 : decode cX4_takeDigits 60 = .ok (.iinc 3 1, 3) := by decide +kernel
theorem dX4_takeDigits_63 : decode cX4_takeDigits 63 = .ok (.goto (-59), 3) := by decide +kernel
theorem dX4_takeDigits_66 : decode cX4_takeDigits 66 = .ok (.iload_n 2, 1) := by decide +kernel
theorem dX4_takeDigits_67 : decode cX4_takeDigits 67 = .ok (.ireturn, 1) := by decide +kernel
theorem dX5_init_0 : decode cX5_init 0 = .ok (.aload_n 0, 1) := by decide +kernel
theorem dX5_init_1 : decode cX5_init 1 = .ok (.invokespecial 3, 3) := by decide +kernel
theorem dX5_init_4 : decode cX5_init 4 = .ok (.aload_n 0, 1) := by decide +kernel
theorem dX5_init_5 : decode cX5_init 5 = .ok (.bipush 100, 2) := by decide +kernel
theorem dX5_init_7 : decode cX5_init 7 = .ok (.putfield 9, 3) := by decide +kernel
theorem dX5_init_10 : decode cX5_init 10 = .ok (.aload_n 0, 1) := by decide +kernel
theorem dX5_init_11 : decode cX5_init 11 = .ok (.sipush 200, 3) := by decide +kernel
theorem dX5_init_14 : decode cX5_init 14 = .ok (.putfield 15, 3) := by decide +kernel
theorem dX5_init_17 : decode cX5_init 17 = .ok (.aload_n 0, 1) := by decide +kernel
theorem dX5_init_18 : decode cX5_init 18 = .ok (.bipush 8, 2) := by decide +kernel
theorem dX5_init_20 : decode cX5_init 20 = .ok (.newarray .int, 2) := by decide +kernel
theorem dX5_init_22 : decode cX5_init 22 = .ok (.putfield 18, 3) := by decide +kernel
theorem dX5_init_25 : decode cX5_init 25 = .ok (.aload_n 0, 1) := by decide +kernel
theorem dX5_init_26 : decode cX5_init 26 = .ok (.bipush 8, 2) := by decide +kernel
theorem dX5_init_28 : decode cX5_init 28 = .ok (.newarray .int, 2) := by decide +kernel
theorem dX5_init_30 : decode cX5_init 30 = .ok (.putfield 22, 3) := by decide +kernel
theorem dX5_init_33 : decode cX5_init 33 = .ok (.aload_n 0, 1) := by decide +kernel
theorem dX5_init_34 : decode cX5_init 34 = .ok (.bipush 8, 2) := by decide +kernel
theorem dX5_init_36 : decode cX5_init 36 = .ok (.newarray .int, 2) := by decide +kernel
theorem dX5_init_38 : decode cX5_init 38 = .ok (.putfield 25, 3) := by decide +kernel
theorem dX5_init_41 : decode cX5_init 41 = .ok (.return_, 1) := by decide +kernel
theorem dX5_become_0 : decode cX5_become 0 = .ok (.aload_n 0, 1) := by decide +kernel
theorem dX5_become_1 : decode cX5_become 1 = .ok (.aload_n 1, 1) := by decide +kernel
theorem dX5_become_2 : decode cX5_become 2 = .ok (.getfield 9, 3) := by decide +kernel
theorem dX5_become_5 : decode cX5_become 5 = .ok (.putfield 9, 3) := by decide +kernel
theorem dX5_become_8 : decode cX5_become 8 = .ok (.aload_n 0, 1) := by decide +kernel
theorem dX5_become_9 : decode cX5_become 9 = .ok (.aload_n 1, 1) := by decide +kernel
theorem dX5_become_10 : decode cX5_become 10 = .ok (.getfield 15, 3) := by decide +kernel
theorem dX5_become_13 : decode cX5_become 13 = .ok (.putfield 15, 3) := by decide +kernel
theorem dX5_become_16 : decode cX5_become 16 = .ok (.aload_n 0, 1) := by decide +kernel
theorem dX5_become_17 : decode cX5_become 17 = .ok (.aload_n 1, 1) := by decide +kernel
theorem dX5_become_18 : decode cX5_become 18 = .ok (.getfield 28, 3) := by decide +kernel
theorem dX5_become_21 : decode cX5_become 21 = .ok (.putfield 28, 3) := by decide +kernel
theorem dX5_become_24 : decode cX5_become 24 = .ok (.aload_n 0, 1) := by decide +kernel
theorem dX5_become_25 : decode cX5_become 25 = .ok (.aload_n 1, 1) := by decide +kernel
theorem dX5_become_26 : decode cX5_become 26 = .ok (.getfield 31, 3) := by decide +kernel
theorem dX5_become_29 : decode cX5_become 29 = .ok (.putfield 31, 3) := by decide +kernel
theorem dX5_become_32 : decode cX5_become 32 = .ok (.aload_n 0, 1) := by decide +kernel
theorem dX5_become_33 : decode cX5_become 33 = .ok (.aload_n 1, 1) := by decide +kernel
theorem dX5_become_34 : decode cX5_become 34 = .ok (.getfield 34, 3) := by decide +kernel
theorem dX5_become_37 : decode cX5_become 37 = .ok (.putfield 34, 3) := by decide +kernel
theorem dX5_become_40 : decode cX5_become 40 = .ok (.aload_n 0, 1) := by decide +kernel
theorem dX5_become_41 : decode cX5_become 41 = .ok (.aload_n 1, 1) := by decide +kernel
theorem dX5_become_42 : decode cX5_become 42 = .ok (.getfield 37, 3) := by decide +kernel
theorem dX5_become_45 : decode cX5_become 45 = .ok (.putfield 37, 3) := by decide +kernel
theorem dX5_become_48 : decode cX5_become 48 = .ok (.aload_n 0, 1) := by decide +kernel
theorem dX5_become_49 : decode cX5_become 49 = .ok (.aload_n 1, 1) := by decide +kernel
theorem dX5_become_50 : decode cX5_become 50 = .ok (.getfield 40, 3) := by decide +kernel
theorem dX5_become_53 : decode cX5_become 53 = .ok (.putfield 40, 3) := by decide +kernel
theorem dX5_become_56 : decode cX5_become 56 = .ok (.aload_n 0, 1) := by decide +kernel
theorem dX5_become_57 : decode cX5_become 57 = .ok (.aload_n 1, 1) := by decide +kernel
theorem dX5_become_58 : decode cX5_become 58 = .ok (.getfield 43, 3) := by decide +kernel
theorem dX5_become_61 : decode cX5_become 61 = .ok (.putfield 43, 3) := by decide +kernel
theorem dX5_become_64 : decode cX5_become 64 = .ok (.aload_n 0, 1) := by decide +kernel
theorem dX5_become_65 : decode cX5_become 65 = .ok (.aload_n 1, 1) := by decide +kernel
theorem dX5_become_66 : decode cX5_become 66 = .ok (.getfield 46, 3) := by decide +kernel
theorem dX5_become_69 : decode cX5_become 69 = .ok (.putfield 46, 3) := by decide +kernel
theorem dX5_become_72 : decode cX5_become 72 = .ok (.iconst 0, 1) := by decide +kernel
theorem dX5_become_73 : decode cX5_become 73 = .ok (.istore_n 2, 1) := by decide +kernel
theorem dX5_become_74 : decode cX5_become 74 = .ok (.iload_n 2, 1) := by decide +kernel
theorem dX5_become_75 : decode cX5_become 75 = .ok (.aload_n 0, 1) := by decide +kernel
theorem dX5_become_76 : decode cX5_become 76 = .ok (.getfield 37, 3) := by decide +kernel
theorem dX5_become_79 : decode cX5_become 79 = .ok (.if_icmp .ge 51, 3) := by decide +kernel
theorem dX5_become_82 : decode cX5_become 82 = .ok (.iload_n 2, 1) := by decide +kernel
theorem dX5_become_83 : decode cX5_become 83 = .ok (.bipush 8, 2) := by decide +kernel
theorem dX5_become_85 : decode cX5_become 85 = .ok (.if_icmp .ge 45, 3) := by decide +kernel
theorem dX5_become_88 : decode cX5_become 88 = .ok (.aload_n 0, 1) := by decide +kernel
theorem dX5_become_89 : decode cX5_become 89 = .ok (.getfield 18, 3) := by decide +kernel
theorem dX5_become_92 : decode cX5_become 92 = .ok (.iload_n 2, 1) := by decide +kernel
theorem dX5_become_93 : decode cX5_become 93 = .ok (.aload_n 1, 1) := by decide +kernel
theorem dX5_become_94 : decode cX5_become 94 = .ok (.getfield 18, 3) := by decide +kernel
theorem dX5_become_97 : decode cX5_become 97 = .ok (.iload_n 2, 1) := by decide +kernel
theorem dX5_become_98 : decode cX5_become 98 = .ok (.iaload, 1) := by decide +kernel
theorem dX5_become_99 : decode cX5_become 99 = .ok (.iastore, 1) := by decide +kernel
theorem dX5_become_100 : decode cX5_become 100 = .ok (.aload_n 0, 1) := by decide +kernel
theorem dX5_become_101 : decode cX5_become 101 = .ok (.getfield 22, 3) := by decide +kernel
theorem dX5_become_104 : decode cX5_become 104 = .ok (.iload_n 2, 1) := by decide +kernel
theorem dX5_become_105 : decode cX5_become 105 = .ok (.aload_n 1, 1) := by decide +kernel
theorem dX5_become_106 : decode cX5_become 106 = .ok (.getfield 22, 3) := by decide +kernel
theorem dX5_become_109 : decode cX5_become 109 = .ok (.iload_n 2, 1) := by decide +kernel
theorem dX5_become_110 : decode cX5_become 110 = .ok (.iaload, 1) := by decide +kernel
theorem dX5_become_111 : decode cX5_become 111 = .ok (.iastore, 1) := by decide +kernel
theorem dX5_become_112 : decode cX5_become 112 = .ok (.aload_n 0, 1) := by decide +kernel
theorem dX5_become_113 : decode cX5_become 113 = .ok (.getfield 25, 3) := by decide +kernel
theorem dX5_become_116 : decode cX5_become 116 = .ok (.iload_n 2, 1) := by decide +kernel
theorem dX5_become_117 : decode cX5_become 117 = .ok (.aload_n 1, 1) := by decide +kernel
theorem dX5_become_118 : decode cX5_become 118 = .ok (.getfield 25, 3) := by decide +kernel
theorem dX5_become_121 : decode cX5_become 121 = .ok (.iload_n 2, 1) := by decide +kernel
theorem dX5_become_122 : decode cX5_become 122 = .ok (.iaload, 1) := by decide +kernel
theorem dX5_become_123 : decode cX5_become 123 = .ok (.iastore, 1) := by decide +kernel
theorem dX5_become_124 : decode cX5_become 124 = .ok (.iinc 2 1, 3) := by decide +kernel
theorem dX5_become_127 : decode cX5_become 127 = .ok (.goto (-53), 3) := by decide +kernel
theorem dX5_become_130 : decode cX5_become 130 = .ok (.return_, 1) := by decide +kernel
theorem dX5_clear_0 : decode cX5_clear 0 = .ok (.aload_n 0, 1) := by decide +kernel
theorem dX5_clear_1 : decode cX5_clear 1 = .ok (.iconst 0, 1) := by decide +kernel
theorem dX5_clear_2 : decode cX5_clear 2 = .ok (.putfield 28, 3) := by decide +kernel
theorem dX5_clear_5 : decode cX5_clear 5 = .ok (.aload_n 0, 1) := by decide +kernel
theorem dX5_clear_6 : decode cX5_clear 6 = .ok (.iconst 0, 1) := by decide +kernel
theorem dX5_clear_7 : decode cX5_clear 7 = .ok (.putfield 31, 3) := by decide +kernel
theorem dX5_clear_10 : decode cX5_clear 10 = .ok (.aload_n 0, 1) := by decide +kernel
theorem dX5_clear_11 : decode cX5_clear 11 = .ok (.iconst 0, 1) := by decide +kernel
theorem dX5_clear_12 : decode cX5_clear 12 = .ok (.putfield 34, 3) := by decide +kernel
theorem dX5_clear_15 : decode cX5_clear 15 = .ok (.aload_n 0, 1) := by decide +kernel
theorem dX5_clear_16 : decode cX5_clear 16 = .ok (.iconst 0, 1) := by decide +kernel
theorem dX5_clear_17 : decode cX5_clear 17 = .ok (.putfield 37, 3) := by decide +kernel
theorem dX5_clear_20 : decode cX5_clear 20 = .ok (.aload_n 0, 1) := by decide +kernel
theorem dX5_clear_21 : decode cX5_clear 21 = .ok (.iconst 0, 1) := by decide +kernel
theorem dX5_clear_22 : decode cX5_clear 22 = .ok (.putfield 40, 3) := by decide +kernel
theorem dX5_clear_25 : decode cX5_clear 25 = .ok (.return_, 1) := by decide +kernel
theorem dX5_shownPosition_0 : decode cX5_shownPosition 0 = .ok (.iload_n 1, 1) := by decide +kernel
theorem dX5_shownPosition_1 : decode cX5_shownPosition 1 = .ok (.ifCond .ne 10, 3) := by decide +kernel
theorem dX5_shownPosition_4 : decode cX5_shownPosition 4 = .ok (.aload_n 0, 1) := by decide +kernel
theorem dX5_shownPosition_5 : decode cX5_shownPosition 5 = .ok (.getfield 28, 3) := by decide +kernel
theorem dX5_shownPosition_8 : decode cX5_shownPosition 8 = .ok (.goto 7, 3) := by decide +kernel
theorem dX5_shownPosition_11 : decode cX5_shownPosition 11 = .ok (.aload_n 0, 1) := by decide +kernel
theorem dX5_shownPosition_12 : decode cX5_shownPosition 12 = .ok (.getfield 31, 3) := by decide +kernel
theorem dX5_shownPosition_15 : decode cX5_shownPosition 15 = .ok (.ldc 49, 2) := by decide +kernel
theorem dX5_shownPosition_17 : decode cX5_shownPosition 17 = .ok (.iadd, 1) := by decide +kernel
theorem dX5_shownPosition_18 : decode cX5_shownPosition 18 = .ok (.ireturn, 1) := by decide +kernel
theorem dX5_isFull_0 : decode cX5_isFull 0 = .ok (.aload_n 0, 1) := by decide +kernel
theorem dX5_isFull_1 : decode cX5_isFull 1 = .ok (.getfield 37, 3) := by decide +kernel
theorem dX5_isFull_4 : decode cX5_isFull 4 = .ok (.bipush 8, 2) := by decide +kernel
theorem dX5_isFull_6 : decode cX5_isFull 6 = .ok (.if_icmp .lt 7, 3) := by decide +kernel
theorem dX5_isFull_9 : decode cX5_isFull 9 = .ok (.iconst 1, 1) := by decide +kernel
theorem dX5_isFull_10 : decode cX5_isFull 10 = .ok (.goto 4, 3) := by decide +kernel
theorem dX5_isFull_13 : decode cX5_isFull 13 = .ok (.iconst 0, 1) := by decide +kernel
theorem dX5_isFull_14 : decode cX5_isFull 14 = .ok (.ireturn, 1) := by decide +kernel
theorem dX5_isMoving_0 : decode cX5_isMoving 0 = .ok (.aload_n 0, 1) := by decide +kernel
theorem dX5_isMoving_1 : decode cX5_isMoving 1 = .ok (.getfield 40, 3) := by decide +kernel
theorem dX5_isMoving_4 : decode cX5_isMoving 4 = .ok (.ifCond .le 7, 3) := by decide +kernel
theorem dX5_isMoving_7 : decode cX5_isMoving 7 = .ok (.iconst 1, 1) := by decide +kernel
theorem dX5_isMoving_8 : decode cX5_isMoving 8 = .ok (.goto 4, 3) := by decide +kernel
theorem dX5_isMoving_11 : decode cX5_isMoving 11 = .ok (.iconst 0, 1) := by decide +kernel
theorem dX5_isMoving_12 : decode cX5_isMoving 12 = .ok (.ireturn, 1) := by decide +kernel
theorem dX5_hasItem_0 : decode cX5_hasItem 0 = .ok (.iload_n 1, 1) := by decide +kernel
theorem dX5_hasItem_1 : decode cX5_hasItem 1 = .ok (.ifCond .lt 21, 3) := by decide +kernel
theorem dX5_hasItem_4 : decode cX5_hasItem 4 = .ok (.iload_n 1, 1) := by decide +kernel
theorem dX5_hasItem_5 : decode cX5_hasItem 5 = .ok (.aload_n 0, 1) := by decide +kernel
theorem dX5_hasItem_6 : decode cX5_hasItem 6 = .ok (.getfield 37, 3) := by decide +kernel
theorem dX5_hasItem_9 : decode cX5_hasItem 9 = .ok (.if_icmp .ge 13, 3) := by decide +kernel
theorem dX5_hasItem_12 : decode cX5_hasItem 12 = .ok (.iload_n 1, 1) := by decide +kernel
theorem dX5_hasItem_13 : decode cX5_hasItem 13 = .ok (.bipush 8, 2) := by decide +kernel
theorem dX5_hasItem_15 : decode cX5_hasItem 15 = .ok (.if_icmp .ge 7, 3) := by decide +kernel
theorem dX5_hasItem_18 : decode cX5_hasItem 18 = .ok (.iconst 1, 1) := by decide +kernel
theorem dX5_hasItem_19 : decode cX5_hasItem 19 = .ok (.goto 4, 3) := by decide +kernel
theorem dX5_hasItem_22 : decode cX5_hasItem 22 = .ok (.iconst 0, 1) := by decide +kernel
theorem dX5_hasItem_23 : decode cX5_hasItem 23 = .ok (.ireturn, 1) := by decide +kernel
theorem dX5_isWait_0 : decode cX5_isWait 0 = .ok (.aload_n 0, 1) := by decide +kernel
theorem dX5_isWait_1 : decode cX5_isWait 1 = .ok (.iload_n 1, 1) := by decide +kernel
theorem dX5_isWait_2 : decode cX5_isWait 2 = .ok (.invokevirtual 50, 3) := by decide +kernel
theorem dX5_isWait_5 : decode cX5_isWait 5 = .ok (.ifCond .eq 16, 3) := by decide +kernel
theorem dX5_isWait_8 : decode cX5_isWait 8 = .ok (.aload_n 0, 1) := by decide +kernel
theorem dX5_isWait_9 : decode cX5_isWait 9 = .ok (.getfield 25, 3) := by decide +kernel
theorem dX5_isWait_12 : decode cX5_isWait 12 = .ok (.iload_n 1, 1) := by decide +kernel
theorem dX5_isWait_13 : decode cX5_isWait 13 = .ok (.iaload, 1) := by decide +kernel
theorem dX5_isWait_14 : decode cX5_isWait 14 = .ok (.ifCond .le 7, 3) := by decide +kernel
theorem dX5_isWait_17 : decode cX5_isWait 17 = .ok (.iconst 1, 1) := by decide +kernel
theorem dX5_isWait_18 : decode cX5_isWait 18 = .ok (.goto 4, 3) := by decide +kernel
theorem dX5_isWait_21 : decode cX5_isWait 21 = .ok (.iconst 0, 1) := by decide +kernel
theorem dX5_isWait_22 : decode cX5_isWait 22 = .ok (.ireturn, 1) := by decide +kernel
theorem dX5_lengthOf_0 : decode cX5_lengthOf 0 = .ok (.aload_n 0, 1) := by decide +kernel
theorem dX5_lengthOf_1 : decode cX5_lengthOf 1 = .ok (.iload_n 1, 1) := by decide +kernel
theorem dX5_lengthOf_2 : decode cX5_lengthOf 2 = .ok (.invokevirtual 50, 3) := by decide +kernel
theorem dX5_lengthOf_5 : decode cX5_lengthOf 5 = .ok (.ifCond .eq 27, 3) := by decide +kernel
theorem dX5_lengthOf_8 : decode cX5_lengthOf 8 = .ok (.aload_n 0, 1) := by decide +kernel
theorem dX5_lengthOf_9 : decode cX5_lengthOf 9 = .ok (.getfield 18, 3) := by decide +kernel
theorem dX5_lengthOf_12 : decode cX5_lengthOf 12 = .ok (.iload_n 1, 1) := by decide +kernel
theorem dX5_lengthOf_13 : decode cX5_lengthOf 13 = .ok (.iaload, 1) := by decide +kernel
theorem dX5_lengthOf_14 : decode cX5_lengthOf 14 = .ok (.invokestatic 54, 3) := by decide +kernel
theorem dX5_lengthOf_17 : decode cX5_lengthOf 17 = .ok (.aload_n 0, 1) := by decide +kernel
theorem dX5_lengthOf_18 : decode cX5_lengthOf 18 = .ok (.getfield 22, 3) := by decide +kernel
theorem dX5_lengthOf_21 : decode cX5_lengthOf 21 = .ok (.iload_n 1, 1) := by decide +kernel
theorem dX5_lengthOf_22 : decode cX5_lengthOf 22 = .ok (.iaload, 1) := by decide +kernel
theorem dX5_lengthOf_23 : decode cX5_lengthOf 23 = .ok (.invokestatic 54, 3) := by decide +kernel
theorem dX5_lengthOf_26 : decode cX5_lengthOf 26 = .ok (.invokestatic 60, 3) := by decide +kernel
theorem dX5_lengthOf_29 : decode cX5_lengthOf 29 = .ok (.goto 4, 3) := by decide +kernel
theorem dX5_lengthOf_32 : decode cX5_lengthOf 32 = .ok (.iconst 0, 1) := by decide +kernel
theorem dX5_lengthOf_33 : decode cX5_lengthOf 33 = .ok (.ireturn, 1) := by decide +kernel
theorem dX5_stepsLeftOf_0 : decode cX5_stepsLeftOf 0 = .ok (.iload_n 1, 1) := by decide +kernel
theorem dX5_stepsLeftOf_1 : decode cX5_stepsLeftOf 1 = .ok (.ifCond .ne 17, 3) := by decide +kernel
theorem dX5_stepsLeftOf_4 : decode cX5_stepsLeftOf 4 = .ok (.aload_n 0, 1) := by decide +kernel
theorem dX5_stepsLeftOf_5 : decode cX5_stepsLeftOf 5 = .ok (.invokevirtual 64, 3) := by decide +kernel
theorem dX5_stepsLeftOf_8 : decode cX5_stepsLeftOf 8 = .ok (.ifCond .eq 10, 3) := by decide +kernel
theorem dX5_stepsLeftOf_11 : decode cX5_stepsLeftOf 11 = .ok (.aload_n 0, 1) := by decide +kernel
theorem dX5_stepsLeftOf_12 : decode cX5_stepsLeftOf 12 = .ok (.getfield 43, 3) := by decide +kernel
theorem dX5_stepsLeftOf_15 : decode cX5_stepsLeftOf 15 = .ok (.goto 8, 3) := by decide +kernel
theorem dX5_stepsLeftOf_18 : decode cX5_stepsLeftOf 18 = .ok (.aload_n 0, 1) := by decide +kernel
theorem dX5_stepsLeftOf_19 : decode cX5_stepsLeftOf 19 = .ok (.iload_n 1, 1) := by decide +kernel
theorem dX5_stepsLeftOf_20 : decode cX5_stepsLeftOf 20 = .ok (.invokevirtual 68, 3) := by decide +kernel
theorem dX5_stepsLeftOf_23 : decode cX5_stepsLeftOf 23 = .ok (.ireturn, 1) := by decide +kernel
theorem dX5_addItem_0 : decode cX5_addItem 0 = .ok (.aload_n 0, 1) := by decide +kernel
theorem dX5_addItem_1 : decode cX5_addItem 1 = .ok (.invokevirtual 71, 3) := by decide +kernel
theorem dX5_addItem_4 : decode cX5_addItem 4 = .ok (.ifCond .ne 10, 3) := by decide +kernel
theorem dX5_addItem_7 : decode cX5_addItem 7 = .ok (.aload_n 0, 1) := by decide +kernel
theorem dX5_addItem_8 : decode cX5_addItem 8 = .ok (.getfield 37, 3) := by decide +kernel
theorem dX5_addItem_11 : decode cX5_addItem 11 = .ok (.ifCond .ge 4, 3) := by decide +kernel
theorem dX5_addItem_14 : decode cX5_addItem 14 = .ok (.return_, 1) := by decide +kernel
theorem dX5_addItem_15 : decode cX5_addItem 15 = .ok (.aload_n 0, 1) := by decide +kernel
theorem dX5_addItem_16 : decode cX5_addItem 16 = .ok (.getfield 18, 3) := by decide +kernel
theorem dX5_addItem_19 : decode cX5_addItem 19 = .ok (.aload_n 0, 1) := by decide +kernel
theorem dX5_addItem_20 : decode cX5_addItem 20 = .ok (.getfield 37, 3) := by decide +kernel
theorem dX5_addItem_23 : decode cX5_addItem 23 = .ok (.iload_n 1, 1) := by decide +kernel
theorem dX5_addItem_24 : decode cX5_addItem 24 = .ok (.iastore, 1) := by decide +kernel
theorem dX5_addItem_25 : decode cX5_addItem 25 = .ok (.aload_n 0, 1) := by decide +kernel
theorem dX5_addItem_26 : decode cX5_addItem 26 = .ok (.getfield 22, 3) := by decide +kernel
theorem dX5_addItem_29 : decode cX5_addItem 29 = .ok (.aload_n 0, 1) := by decide +kernel
theorem dX5_addItem_30 : decode cX5_addItem 30 = .ok (.getfield 37, 3) := by decide +kernel
theorem dX5_addItem_33 : decode cX5_addItem 33 = .ok (.iload_n 2, 1) := by decide +kernel
theorem dX5_addItem_34 : decode cX5_addItem 34 = .ok (.iastore, 1) := by decide +kernel
theorem dX5_addItem_35 : decode cX5_addItem 35 = .ok (.aload_n 0, 1) := by decide +kernel
theorem dX5_addItem_36 : decode cX5_addItem 36 = .ok (.getfield 25, 3) := by decide +kernel
theorem dX5_addItem_39 : decode cX5_addItem 39 = .ok (.aload_n 0, 1) := by decide +kernel
theorem dX5_addItem_40 : decode cX5_addItem 40 = .ok (.getfield 37, 3) := by decide +kernel
theorem dX5_addItem_43 : decode cX5_addItem 43 = .ok (.iload_n 3, 1) := by decide +kernel
theorem dX5_addItem_44 : decode cX5_addItem 44 = .ok (.iastore, 1) := by decide +kernel
theorem dX5_addItem_45 : decode cX5_addItem 45 = .ok (.aload_n 0, 1) := by decide +kernel
theorem dX5_addItem_46 : decode cX5_addItem 46 = .ok (.dup, 1) := by decide +kernel
theorem dX5_addItem_47 : decode cX5_addItem 47 = .ok (.getfield 37, 3) := by decide +kernel
theorem dX5_addItem_50 : decode cX5_addItem 50 = .ok (.iconst 1, 1) := by decide +kernel
theorem dX5_addItem_51 : decode cX5_addItem 51 = .ok (.iadd, 1) := by decide +kernel
theorem dX5_addItem_52 : decode cX5_addItem 52 = .ok (.putfield 37, 3) := by decide +kernel
theorem dX5_addItem_55 : decode cX5_addItem 55 = .ok (.return_, 1) := by decide +kernel
theorem dX5_dropItem_0 : decode cX5_dropItem 0 = .ok (.aload_n 0, 1) := by decide +kernel
theorem dX5_dropItem_1 : decode cX5_dropItem 1 = .ok (.iload_n 1, 1) := by decide +kernel
theorem dX5_dropItem_2 : decode cX5_dropItem 2 = .ok (.invokevirtual 50, 3) := by decide +kernel
theorem dX5_dropItem_5 : decode cX5_dropItem 5 = .ok (.ifCond .ne 4, 3) := by decide +kernel
theorem dX5_dropItem_8 : decode cX5_dropItem 8 = .ok (.return_, 1) := by decide +kernel
theorem dX5_dropItem_9 : decode cX5_dropItem 9 = .ok (.iload_n 1, 1) := by decide +kernel
theorem dX5_dropItem_10 : decode cX5_dropItem 10 = .ok (.ifCond .ne 8, 3) := by decide +kernel
theorem dX5_dropItem_13 : decode cX5_dropItem 13 = .ok (.aload_n 0, 1) := by decide +kernel
theorem dX5_dropItem_14 : decode cX5_dropItem 14 = .ok (.iconst 0, 1) := by decide +kernel
theorem dX5_dropItem_15 : decode cX5_dropItem 15 = .ok (.putfield 40, 3) := by decide +kernel
theorem dX5_dropItem_18 : decode cX5_dropItem 18 = .ok (.aload_n 0, 1) := by decide +kernel
theorem dX5_dropItem_19 : decode cX5_dropItem 19 = .ok (.dup, 1) := by decide +kernel
theorem dX5_dropItem_20 : decode cX5_dropItem 20 = .ok (.getfield 37, 3) := by decide +kernel
theorem dX5_dropItem_23 : decode cX5_dropItem 23 = .ok (.iconst 1, 1) := by decide +kernel
theorem dX5_dropItem_24 : decode cX5_dropItem 24 = .ok (.isub, 1) := by decide +kernel
theorem dX5_dropItem_25 : decode cX5_dropItem 25 = .ok (.putfield 37, 3) := by decide +kernel
theorem dX5_dropItem_28 : decode cX5_dropItem 28 = .ok (.iload_n 1, 1) := by decide +kernel
theorem dX5_dropItem_29 : decode cX5_dropItem 29 = .ok (.istore_n 2, 1) := by decide +kernel
theorem dX5_dropItem_30 : decode cX5_dropItem 30 = .ok (.iload_n 2, 1) := by decide +kernel
theorem dX5_dropItem_31 : decode cX5_dropItem 31 = .ok (.aload_n 0, 1) := by decide +kernel
theorem dX5_dropItem_32 : decode cX5_dropItem 32 = .ok (.getfield 37, 3) := by decide +kernel
theorem dX5_dropItem_35 : decode cX5_dropItem 35 = .ok (.if_icmp .ge 59, 3) := by decide +kernel
theorem dX5_dropItem_38 : decode cX5_dropItem 38 = .ok (.iload_n 2, 1) := by decide +kernel
theorem dX5_dropItem_39 : decode cX5_dropItem 39 = .ok (.iconst 1, 1) := by decide +kernel
theorem dX5_dropItem_40 : decode cX5_dropItem 40 = .ok (.iadd, 1) := by decide +kernel
theorem dX5_dropItem_41 : decode cX5_dropItem 41 = .ok (.bipush 8, 2) := by decide +kernel
theorem dX5_dropItem_43 : decode cX5_dropItem 43 = .ok (.if_icmp .ge 51, 3) := by decide +kernel
theorem dX5_dropItem_46 : decode cX5_dropItem 46 = .ok (.aload_n 0, 1) := by decide +kernel
theorem dX5_dropItem_47 : decode cX5_dropItem 47 = .ok (.getfield 18, 3) := by decide +kernel
theorem dX5_dropItem_50 : decode cX5_dropItem 50 = .ok (.iload_n 2, 1) := by decide +kernel
theorem dX5_dropItem_51 : decode cX5_dropItem 51 = .ok (.aload_n 0, 1) := by decide +kernel
theorem dX5_dropItem_52 : decode cX5_dropItem 52 = .ok (.getfield 18, 3) := by decide +kernel
theorem dX5_dropItem_55 : decode cX5_dropItem 55 = .ok (.iload_n 2, 1) := by decide +kernel
theorem dX5_dropItem_56 : decode cX5_dropItem 56 = .ok (.iconst 1, 1) := by decide +kernel
theorem dX5_dropItem_57 : decode cX5_dropItem 57 = .ok (.iadd, 1) := by decide +kernel
theorem dX5_dropItem_58 : decode cX5_dropItem 58 = .ok (.iaload, 1) := by decide +kernel
theorem dX5_dropItem_59 : decode cX5_dropItem 59 = .ok (.iastore, 1) := by decide +kernel
theorem dX5_dropItem_60 : decode cX5_dropItem 60 = .ok (.aload_n 0, 1) := by decide +kernel
theorem dX5_dropItem_61 : decode cX5_dropItem 61 = .ok (.getfield 22, 3) := by decide +kernel
theorem dX5_dropItem_64 : decode cX5_dropItem 64 = .ok (.iload_n 2, 1) := by decide +kernel
theorem dX5_dropItem_65 : decode cX5_dropItem 65 = .ok (.aload_n 0, 1) := by decide +kernel
theorem dX5_dropItem_66 : decode cX5_dropItem 66 = .ok (.getfield 22, 3) := by decide +kernel
theorem dX5_dropItem_69 : decode cX5_dropItem 69 = .ok (.iload_n 2, 1) := by decide +kernel
theorem dX5_dropItem_70 : decode cX5_dropItem 70 = .ok (.iconst 1, 1) := by decide +kernel
theorem dX5_dropItem_71 : decode cX5_dropItem 71 = .ok (.iadd, 1) := by decide +kernel
theorem dX5_dropItem_72 : decode cX5_dropItem 72 = .ok (.iaload, 1) := by decide +kernel
theorem dX5_dropItem_73 : decode cX5_dropItem 73 = .ok (.iastore, 1) := by decide +kernel
theorem dX5_dropItem_74 : decode cX5_dropItem 74 = .ok (.aload_n 0, 1) := by decide +kernel
theorem dX5_dropItem_75 : decode cX5_dropItem 75 = .ok (.getfield 25, 3) := by decide +kernel
theorem dX5_dropItem_78 : decode cX5_dropItem 78 = .ok (.iload_n 2, 1) := by decide +kernel
theorem dX5_dropItem_79 : decode cX5_dropItem 79 = .ok (.aload_n 0, 1) := by decide +kernel
theorem dX5_dropItem_80 : decode cX5_dropItem 80 = .ok (.getfield 25, 3) := by decide +kernel
theorem dX5_dropItem_83 : decode cX5_dropItem 83 = .ok (.iload_n 2, 1) := by decide +kernel
theorem dX5_dropItem_84 : decode cX5_dropItem 84 = .ok (.iconst 1, 1) := by decide +kernel
theorem dX5_dropItem_85 : decode cX5_dropItem 85 = .ok (.iadd, 1) := by decide +kernel
theorem dX5_dropItem_86 : decode cX5_dropItem 86 = .ok (.iaload, 1) := by decide +kernel
theorem dX5_dropItem_87 : decode cX5_dropItem 87 = .ok (.iastore, 1) := by decide +kernel
theorem dX5_dropItem_88 : decode cX5_dropItem 88 = .ok (.iinc 2 1, 3) := by decide +kernel
theorem dX5_dropItem_91 : decode cX5_dropItem 91 = .ok (.goto (-61), 3) := by decide +kernel
theorem dX5_dropItem_94 : decode cX5_dropItem 94 = .ok (.return_, 1) := by decide +kernel
theorem dX5_halt_0 : decode cX5_halt 0 = .ok (.aload_n 0, 1) := by decide +kernel
theorem dX5_halt_1 : decode cX5_halt 1 = .ok (.iconst 1, 1) := by decide +kernel
theorem dX5_halt_2 : decode cX5_halt 2 = .ok (.putfield 37, 3) := by decide +kernel
theorem dX5_halt_5 : decode cX5_halt 5 = .ok (.aload_n 0, 1) := by decide +kernel
theorem dX5_halt_6 : decode cX5_halt 6 = .ok (.aload_n 0, 1) := by decide +kernel
theorem dX5_halt_7 : decode cX5_halt 7 = .ok (.getfield 46, 3) := by decide +kernel
theorem dX5_halt_10 : decode cX5_halt 10 = .ok (.putfield 43, 3) := by decide +kernel
theorem dX5_halt_13 : decode cX5_halt 13 = .ok (.aload_n 0, 1) := by decide +kernel
theorem dX5_halt_14 : decode cX5_halt 14 = .ok (.getfield 43, 3) := by decide +kernel
theorem dX5_halt_17 : decode cX5_halt 17 = .ok (.ifCond .ne 8, 3) := by decide +kernel
theorem dX5_halt_20 : decode cX5_halt 20 = .ok (.aload_n 0, 1) := by decide +kernel
theorem dX5_halt_21 : decode cX5_halt 21 = .ok (.iconst 0, 1) := by decide +kernel
theorem dX5_halt_22 : decode cX5_halt 22 = .ok (.invokevirtual 74, 3) := by decide +kernel
theorem dX5_halt_25 : decode cX5_halt 25 = .ok (.aload_n 0, 1) := by decide +kernel
theorem dX5_halt_26 : decode cX5_halt 26 = .ok (.getfield 46, 3) := by decide +kernel
theorem dX5_halt_29 : decode cX5_halt 29 = .ok (.ireturn, 1) := by decide +kernel
theorem dX5_advance_0 : decode cX5_advance 0 = .ok (.aload_n 1, 1) := by decide +kernel
theorem dX5_advance_1 : decode cX5_advance 1 = .ok (.aload_n 0, 1) := by decide +kernel
theorem dX5_advance_2 : decode cX5_advance 2 = .ok (.getfield 9, 3) := by decide +kernel
theorem dX5_advance_5 : decode cX5_advance 5 = .ok (.aload_n 0, 1) := by decide +kernel
theorem dX5_advance_6 : decode cX5_advance 6 = .ok (.getfield 15, 3) := by decide +kernel
theorem dX5_advance_9 : decode cX5_advance 9 = .ok (.invokevirtual 78, 3) := by decide +kernel
theorem dX5_advance_12 : decode cX5_advance 12 = .ok (.aload_n 0, 1) := by decide +kernel
theorem dX5_advance_13 : decode cX5_advance 13 = .ok (.getfield 34, 3) := by decide +kernel
theorem dX5_advance_16 : decode cX5_advance 16 = .ok (.istore 4, 2) := by decide +kernel
theorem dX5_advance_18 : decode cX5_advance 18 = .ok (.iconst 0, 1) := by decide +kernel
theorem dX5_advance_19 : decode cX5_advance 19 = .ok (.istore 5, 2) := by decide +kernel
theorem dX5_advance_21 : decode cX5_advance 21 = .ok (.iconst 0, 1) := by decide +kernel
theorem dX5_advance_22 : decode cX5_advance 22 = .ok (.istore 6, 2) := by decide +kernel
theorem dX5_advance_24 : decode cX5_advance 24 = .ok (.iload 6, 2) := by decide +kernel
theorem dX5_advance_26 : decode cX5_advance 26 = .ok (.bipush 8, 2) := by decide +kernel
theorem dX5_advance_28 : decode cX5_advance 28 = .ok (.if_icmp .ge 76, 3) := by decide +kernel
theorem dX5_advance_31 : decode cX5_advance 31 = .ok (.aload_n 0, 1) := by decide +kernel
theorem dX5_advance_32 : decode cX5_advance 32 = .ok (.getfield 37, 3) := by decide +kernel
theorem dX5_advance_35 : decode cX5_advance 35 = .ok (.ifCond .le 69, 3) := by decide +kernel
theorem dX5_advance_38 : decode cX5_advance 38 = .ok (.iload_n 3, 1) := by decide +kernel
theorem dX5_advance_39 : decode cX5_advance 39 = .ok (.aload_n 0, 1) := by decide +kernel
theorem dX5_advance_40 : decode cX5_advance 40 = .ok (.getfield 34, 3) := by decide +kernel
theorem dX5_advance_43 : decode cX5_advance 43 = .ok (.iload 4, 2) := by decide +kernel
theorem dX5_advance_45 : decode cX5_advance 45 = .ok (.isub, 1) := by decide +kernel
theorem dX5_advance_46 : decode cX5_advance 46 = .ok (.isub, 1) := by decide +kernel
theorem dX5_advance_47 : decode cX5_advance 47 = .ok (.istore 7, 2) := by decide +kernel
theorem dX5_advance_49 : decode cX5_advance 49 = .ok (.aload_n 0, 1) := by decide +kernel
theorem dX5_advance_50 : decode cX5_advance 50 = .ok (.iconst 0, 1) := by decide +kernel
theorem dX5_advance_51 : decode cX5_advance 51 = .ok (.invokevirtual 84, 3) := by decide +kernel
theorem dX5_advance_54 : decode cX5_advance 54 = .ok (.ifCond .eq 16, 3) := by decide +kernel
theorem dX5_advance_57 : decode cX5_advance 57 = .ok (.aload_n 0, 1) := by decide +kernel
theorem dX5_advance_58 : decode cX5_advance 58 = .ok (.iload_n 2, 1) := by decide +kernel
theorem dX5_advance_59 : decode cX5_advance 59 = .ok (.iload 5, 2) := by decide +kernel
theorem dX5_advance_61 : decode cX5_advance 61 = .ok (.isub, 1) := by decide +kernel
theorem dX5_advance_62 : decode cX5_advance 62 = .ok (.iload 7, 2) := by decide +kernel
theorem dX5_advance_64 : decode cX5_advance 64 = .ok (.invokevirtual 87, 3) := by decide +kernel
theorem dX5_advance_67 : decode cX5_advance 67 = .ok (.goto 14, 3) := by decide +kernel
theorem dX5_advance_70 : decode cX5_advance 70 = .ok (.aload_n 0, 1) := by decide +kernel
theorem dX5_advance_71 : decode cX5_advance 71 = .ok (.aload_n 1, 1) := by decide +kernel
theorem dX5_advance_72 : decode cX5_advance 72 = .ok (.iload_n 2, 1) := by decide +kernel
theorem dX5_advance_73 : decode cX5_advance 73 = .ok (.iload 5, 2) := by decide +kernel
theorem dX5_advance_75 : decode cX5_advance 75 = .ok (.isub, 1) := by decide +kernel
theorem dX5_advance_76 : decode cX5_advance 76 = .ok (.iload 7, 2) := by decide +kernel
theorem dX5_advance_78 : decode cX5_advance 78 = .ok (.invokevirtual 90, 3) := by decide +kernel
theorem dX5_advance_81 : decode cX5_advance 81 = .ok (.istore 8, 2) := by decide +kernel
theorem dX5_advance_83 : decode cX5_advance 83 = .ok (.iload 8, 2) := by decide +kernel
theorem dX5_advance_85 : decode cX5_advance 85 = .ok (.ifCond .ne 6, 3) := by decide +kernel
theorem dX5_advance_88 : decode cX5_advance 88 = .ok (.goto 16, 3) := by decide +kernel
theorem dX5_advance_91 : decode cX5_advance 91 = .ok (.iload 5, 2) := by decide +kernel
theorem dX5_advance_93 : decode cX5_advance 93 = .ok (.iload 8, 2) := by decide +kernel
theorem dX5_advance_95 : decode cX5_advance 95 = .ok (.iadd, 1) := by decide +kernel
theorem dX5_advance_96 : decode cX5_advance 96 = .ok (.istore 5, 2) := by decide +kernel
theorem dX5_advance_98 : decode cX5_advance 98 = .ok (.iinc 6 1, 3) := by decide +kernel
theorem dX5_advance_101 : decode cX5_advance 101 = .ok (.goto (-77), 3) := by decide +kernel
theorem dX5_advance_104 : decode cX5_advance 104 = .ok (.iload 5, 2) := by decide +kernel
theorem dX5_advance_106 : decode cX5_advance 106 = .ok (.ireturn, 1) := by decide +kernel
theorem dX5_passWait_0 : decode cX5_passWait 0 = .ok (.iload_n 1, 1) := by decide +kernel
theorem dX5_passWait_1 : decode cX5_passWait 1 = .ok (.iconst 1, 1) := by decide +kernel
theorem dX5_passWait_2 : decode cX5_passWait 2 = .ok (.if_icmp .lt 13, 3) := by decide +kernel
theorem dX5_passWait_5 : decode cX5_passWait 5 = .ok (.aload_n 0, 1) := by decide +kernel
theorem dX5_passWait_6 : decode cX5_passWait 6 = .ok (.getfield 25, 3) := by decide +kernel
theorem dX5_passWait_9 : decode cX5_passWait 9 = .ok (.iconst 0, 1) := by decide +kernel
theorem dX5_passWait_10 : decode cX5_passWait 10 = .ok (.iaload, 1) := by decide +kernel
theorem dX5_passWait_11 : decode cX5_passWait 11 = .ok (.iload_n 2, 1) := by decide +kernel
theorem dX5_passWait_12 : decode cX5_passWait 12 = .ok (.if_icmp .le 5, 3) := by decide +kernel
theorem dX5_passWait_15 : decode cX5_passWait 15 = .ok (.iconst 0, 1) := by decide +kernel
theorem dX5_passWait_16 : decode cX5_passWait 16 = .ok (.ireturn, 1) := by decide +kernel
theorem dX5_passWait_17 : decode cX5_passWait 17 = .ok (.aload_n 0, 1) := by decide +kernel
theorem dX5_passWait_18 : decode cX5_passWait 18 = .ok (.dup, 1) := by decide +kernel
theorem dX5_passWait_19 : decode cX5_passWait 19 = .ok (.getfield 34, 3) := by decide +kernel
theorem dX5_passWait_22 : decode cX5_passWait 22 = .ok (.aload_n 0, 1) := by decide +kernel
theorem dX5_passWait_23 : decode cX5_passWait 23 = .ok (.getfield 25, 3) := by decide +kernel
theorem dX5_passWait_26 : decode cX5_passWait 26 = .ok (.iconst 0, 1) := by decide +kernel
theorem dX5_passWait_27 : decode cX5_passWait 27 = .ok (.iaload, 1) := by decide +kernel
theorem dX5_passWait_28 : decode cX5_passWait 28 = .ok (.iadd, 1) := by decide +kernel
theorem dX5_passWait_29 : decode cX5_passWait 29 = .ok (.putfield 34, 3) := by decide +kernel
theorem dX5_passWait_32 : decode cX5_passWait 32 = .ok (.aload_n 0, 1) := by decide +kernel
theorem dX5_passWait_33 : decode cX5_passWait 33 = .ok (.iconst 0, 1) := by decide +kernel
theorem dX5_passWait_34 : decode cX5_passWait 34 = .ok (.invokevirtual 74, 3) := by decide +kernel
theorem dX5_passWait_37 : decode cX5_passWait 37 = .ok (.iconst 1, 1) := by decide +kernel
theorem dX5_passWait_38 : decode cX5_passWait 38 = .ok (.ireturn, 1) := by decide +kernel
theorem dX5_advanceMove_0 : decode cX5_advanceMove 0 = .ok (.aload_n 0, 1) := by decide +kernel
theorem dX5_advanceMove_1 : decode cX5_advanceMove 1 = .ok (.getfield 40, 3) := by decide +kernel
theorem dX5_advanceMove_4 : decode cX5_advanceMove 4 = .ok (.istore 4, 2) := by decide +kernel
theorem dX5_advanceMove_6 : decode cX5_advanceMove 6 = .ok (.iload 4, 2) := by decide +kernel
theorem dX5_advanceMove_8 : decode cX5_advanceMove 8 = .ok (.ifCond .ne 12, 3) := by decide +kernel
theorem dX5_advanceMove_11 : decode cX5_advanceMove 11 = .ok (.aload_n 0, 1) := by decide +kernel
theorem dX5_advanceMove_12 : decode cX5_advanceMove 12 = .ok (.aload_n 0, 1) := by decide +kernel
theorem dX5_advanceMove_13 : decode cX5_advanceMove 13 = .ok (.iconst 0, 1) := by decide +kernel
theorem dX5_advanceMove_14 : decode cX5_advanceMove 14 = .ok (.invokevirtual 68, 3) := by decide +kernel
theorem dX5_advanceMove_17 : decode cX5_advanceMove 17 = .ok (.putfield 43, 3) := by decide +kernel
theorem dX5_advanceMove_20 : decode cX5_advanceMove 20 = .ok (.iload 4, 2) := by decide +kernel
theorem dX5_advanceMove_22 : decode cX5_advanceMove 22 = .ok (.ifCond .ne 31, 3) := by decide +kernel
theorem dX5_advanceMove_25 : decode cX5_advanceMove 25 = .ok (.aload_n 0, 1) := by decide +kernel
theorem dX5_advanceMove_26 : decode cX5_advanceMove 26 = .ok (.getfield 43, 3) := by decide +kernel
theorem dX5_advanceMove_29 : decode cX5_advanceMove 29 = .ok (.iload_n 2, 1) := by decide +kernel
theorem dX5_advanceMove_30 : decode cX5_advanceMove 30 = .ok (.if_icmp .gt 23, 3) := by decide +kernel
theorem dX5_advanceMove_33 : decode cX5_advanceMove 33 = .ok (.aload_n 1, 1) := by decide +kernel
theorem dX5_advanceMove_34 : decode cX5_advanceMove 34 = .ok (.aload_n 0, 1) := by decide +kernel
theorem dX5_advanceMove_35 : decode cX5_advanceMove 35 = .ok (.getfield 43, 3) := by decide +kernel
theorem dX5_advanceMove_38 : decode cX5_advanceMove 38 = .ok (.invokevirtual 94, 3) := by decide +kernel
theorem dX5_advanceMove_41 : decode cX5_advanceMove 41 = .ok (.iload_n 3, 1) := by decide +kernel
theorem dX5_advanceMove_42 : decode cX5_advanceMove 42 = .ok (.if_icmp .gt 11, 3) := by decide +kernel
theorem dX5_advanceMove_45 : decode cX5_advanceMove 45 = .ok (.aload_n 0, 1) := by decide +kernel
theorem dX5_advanceMove_46 : decode cX5_advanceMove 46 = .ok (.aload_n 1, 1) := by decide +kernel
theorem dX5_advanceMove_47 : decode cX5_advanceMove 47 = .ok (.invokevirtual 97, 3) := by decide +kernel
theorem dX5_advanceMove_50 : decode cX5_advanceMove 50 = .ok (.goto 17, 3) := by decide +kernel
theorem dX5_advanceMove_53 : decode cX5_advanceMove 53 = .ok (.aload_n 0, 1) := by decide +kernel
theorem dX5_advanceMove_54 : decode cX5_advanceMove 54 = .ok (.aload_n 1, 1) := by decide +kernel
theorem dX5_advanceMove_55 : decode cX5_advanceMove 55 = .ok (.iload_n 2, 1) := by decide +kernel
theorem dX5_advanceMove_56 : decode cX5_advanceMove 56 = .ok (.aload_n 0, 1) := by decide +kernel
theorem dX5_advanceMove_57 : decode cX5_advanceMove 57 = .ok (.getfield 43, 3) := by decide +kernel
theorem dX5_advanceMove_60 : decode cX5_advanceMove 60 = .ok (.invokestatic 101, 3) := by decide +kernel
theorem dX5_advanceMove_63 : decode cX5_advanceMove 63 = .ok (.iload_n 3, 1) := by decide +kernel
theorem dX5_advanceMove_64 : decode cX5_advanceMove 64 = .ok (.invokevirtual 104, 3) := by decide +kernel
theorem dX5_advanceMove_67 : decode cX5_advanceMove 67 = .ok (.aload_n 0, 1) := by decide +kernel
theorem dX5_advanceMove_68 : decode cX5_advanceMove 68 = .ok (.getfield 40, 3) := by decide +kernel
theorem dX5_advanceMove_71 : decode cX5_advanceMove 71 = .ok (.iload 4, 2) := by decide +kernel
theorem dX5_advanceMove_73 : decode cX5_advanceMove 73 = .ok (.isub, 1) := by decide +kernel
theorem dX5_advanceMove_74 : decode cX5_advanceMove 74 = .ok (.istore 5, 2) := by decide +kernel
theorem dX5_advanceMove_76 : decode cX5_advanceMove 76 = .ok (.aload_n 0, 1) := by decide +kernel
theorem dX5_advanceMove_77 : decode cX5_advanceMove 77 = .ok (.iload 4, 2) := by decide +kernel
theorem dX5_advanceMove_79 : decode cX5_advanceMove 79 = .ok (.invokevirtual 108, 3) := by decide +kernel
theorem dX5_advanceMove_82 : decode cX5_advanceMove 82 = .ok (.aload_n 0, 1) := by decide +kernel
theorem dX5_advanceMove_83 : decode cX5_advanceMove 83 = .ok (.getfield 43, 3) := by decide +kernel
theorem dX5_advanceMove_86 : decode cX5_advanceMove 86 = .ok (.ifCond .ne 8, 3) := by decide +kernel
theorem dX5_advanceMove_89 : decode cX5_advanceMove 89 = .ok (.aload_n 0, 1) := by decide +kernel
theorem dX5_advanceMove_90 : decode cX5_advanceMove 90 = .ok (.iconst 0, 1) := by decide +kernel
theorem dX5_advanceMove_91 : decode cX5_advanceMove 91 = .ok (.invokevirtual 74, 3) := by decide +kernel
theorem dX5_advanceMove_94 : decode cX5_advanceMove 94 = .ok (.iload 5, 2) := by decide +kernel
theorem dX5_advanceMove_96 : decode cX5_advanceMove 96 = .ok (.ireturn, 1) := by decide +kernel
theorem dX5_passWholeMove_0 : decode cX5_passWholeMove 0 = .ok (.aload_n 0, 1) := by decide +kernel
theorem dX5_passWholeMove_1 : decode cX5_passWholeMove 1 = .ok (.dup, 1) := by decide +kernel
theorem dX5_passWholeMove_2 : decode cX5_passWholeMove 2 = .ok (.getfield 34, 3) := by decide +kernel
theorem dX5_passWholeMove_5 : decode cX5_passWholeMove 5 = .ok (.aload_n 1, 1) := by decide +kernel
theorem dX5_passWholeMove_6 : decode cX5_passWholeMove 6 = .ok (.aload_n 0, 1) := by decide +kernel
theorem dX5_passWholeMove_7 : decode cX5_passWholeMove 7 = .ok (.getfield 43, 3) := by decide +kernel
theorem dX5_passWholeMove_10 : decode cX5_passWholeMove 10 = .ok (.invokevirtual 94, 3) := by decide +kernel
theorem dX5_passWholeMove_13 : decode cX5_passWholeMove 13 = .ok (.iadd, 1) := by decide +kernel
theorem dX5_passWholeMove_14 : decode cX5_passWholeMove 14 = .ok (.putfield 34, 3) := by decide +kernel
theorem dX5_passWholeMove_17 : decode cX5_passWholeMove 17 = .ok (.aload_n 0, 1) := by decide +kernel
theorem dX5_passWholeMove_18 : decode cX5_passWholeMove 18 = .ok (.aload_n 0, 1) := by decide +kernel
theorem dX5_passWholeMove_19 : decode cX5_passWholeMove 19 = .ok (.getfield 43, 3) := by decide +kernel
theorem dX5_passWholeMove_22 : decode cX5_passWholeMove 22 = .ok (.putfield 40, 3) := by decide +kernel
theorem dX5_passWholeMove_25 : decode cX5_passWholeMove 25 = .ok (.aload_n 0, 1) := by decide +kernel
theorem dX5_passWholeMove_26 : decode cX5_passWholeMove 26 = .ok (.iconst 0, 1) := by decide +kernel
theorem dX5_passWholeMove_27 : decode cX5_passWholeMove 27 = .ok (.putfield 43, 3) := by decide +kernel
theorem dX5_passWholeMove_30 : decode cX5_passWholeMove 30 = .ok (.return_, 1) := by decide +kernel
theorem dX5_makeSteps_0 : decode cX5_makeSteps 0 = .ok (.iload_n 3, 1) := by decide +kernel
theorem dX5_makeSteps_1 : decode cX5_makeSteps 1 = .ok (.istore 4, 2) := by decide +kernel
theorem dX5_makeSteps_3 : decode cX5_makeSteps 3 = .ok (.iconst 0, 1) := by decide +kernel
theorem dX5_makeSteps_4 : decode cX5_makeSteps 4 = .ok (.istore 5, 2) := by decide +kernel
theorem dX5_makeSteps_6 : decode cX5_makeSteps 6 = .ok (.iload 5, 2) := by decide +kernel
theorem dX5_makeSteps_8 : decode cX5_makeSteps 8 = .ok (.iload_n 2, 1) := by decide +kernel
theorem dX5_makeSteps_9 : decode cX5_makeSteps 9 = .ok (.if_icmp .ge 70, 3) := by decide +kernel
theorem dX5_makeSteps_12 : decode cX5_makeSteps 12 = .ok (.aload_n 0, 1) := by decide +kernel
theorem dX5_makeSteps_13 : decode cX5_makeSteps 13 = .ok (.aload_n 1, 1) := by decide +kernel
theorem dX5_makeSteps_14 : decode cX5_makeSteps 14 = .ok (.getfield 111, 3) := by decide +kernel
theorem dX5_makeSteps_17 : decode cX5_makeSteps 17 = .ok (.invokevirtual 114, 3) := by decide +kernel
theorem dX5_makeSteps_20 : decode cX5_makeSteps 20 = .ok (.istore 6, 2) := by decide +kernel
theorem dX5_makeSteps_22 : decode cX5_makeSteps 22 = .ok (.aload_n 1, 1) := by decide +kernel
theorem dX5_makeSteps_23 : decode cX5_makeSteps 23 = .ok (.iload 6, 2) := by decide +kernel
theorem dX5_makeSteps_25 : decode cX5_makeSteps 25 = .ok (.invokevirtual 117, 3) := by decide +kernel
theorem dX5_makeSteps_28 : decode cX5_makeSteps 28 = .ok (.istore 7, 2) := by decide +kernel
theorem dX5_makeSteps_30 : decode cX5_makeSteps 30 = .ok (.iload 7, 2) := by decide +kernel
theorem dX5_makeSteps_32 : decode cX5_makeSteps 32 = .ok (.iload 4, 2) := by decide +kernel
theorem dX5_makeSteps_34 : decode cX5_makeSteps 34 = .ok (.if_icmp .le 6, 3) := by decide +kernel
theorem dX5_makeSteps_37 : decode cX5_makeSteps 37 = .ok (.goto 42, 3) := by decide +kernel
theorem dX5_makeSteps_40 : decode cX5_makeSteps 40 = .ok (.iload 4, 2) := by decide +kernel
theorem dX5_makeSteps_42 : decode cX5_makeSteps 42 = .ok (.iload 7, 2) := by decide +kernel
theorem dX5_makeSteps_44 : decode cX5_makeSteps 44 = .ok (.isub, 1) := by decide +kernel
theorem dX5_makeSteps_45 : decode cX5_makeSteps 45 = .ok (.istore 4, 2) := by decide +kernel
theorem dX5_makeSteps_47 : decode cX5_makeSteps 47 = .ok (.aload_n 0, 1) := by decide +kernel
theorem dX5_makeSteps_48 : decode cX5_makeSteps 48 = .ok (.iload 6, 2) := by decide +kernel
theorem dX5_makeSteps_50 : decode cX5_makeSteps 50 = .ok (.putfield 46, 3) := by decide +kernel
theorem dX5_makeSteps_53 : decode cX5_makeSteps 53 = .ok (.aload_n 0, 1) := by decide +kernel
theorem dX5_makeSteps_54 : decode cX5_makeSteps 54 = .ok (.dup, 1) := by decide +kernel
theorem dX5_makeSteps_55 : decode cX5_makeSteps 55 = .ok (.getfield 40, 3) := by decide +kernel
theorem dX5_makeSteps_58 : decode cX5_makeSteps 58 = .ok (.iconst 1, 1) := by decide +kernel
theorem dX5_makeSteps_59 : decode cX5_makeSteps 59 = .ok (.iadd, 1) := by decide +kernel
theorem dX5_makeSteps_60 : decode cX5_makeSteps 60 = .ok (.putfield 40, 3) := by decide +kernel
theorem dX5_makeSteps_63 : decode cX5_makeSteps 63 = .ok (.aload_n 0, 1) := by decide +kernel
theorem dX5_makeSteps_64 : decode cX5_makeSteps 64 = .ok (.dup, 1) := by decide +kernel
theorem dX5_makeSteps_65 : decode cX5_makeSteps 65 = .ok (.getfield 43, 3) := by decide +kernel
theorem dX5_makeSteps_68 : decode cX5_makeSteps 68 = .ok (.iconst 1, 1) := by decide +kernel
theorem dX5_makeSteps_69 : decode cX5_makeSteps 69 = .ok (.isub, 1) := by decide +kernel
theorem dX5_makeSteps_70 : decode cX5_makeSteps 70 = .ok (.putfield 43, 3) := by decide +kernel
theorem dX5_makeSteps_73 : decode cX5_makeSteps 73 = .ok (.iinc 5 1, 3) := by decide +kernel
theorem dX5_makeSteps_76 : decode cX5_makeSteps 76 = .ok (.goto (-70), 3) := by decide +kernel
theorem dX5_makeSteps_79 : decode cX5_makeSteps 79 = .ok (.aload_n 0, 1) := by decide +kernel
theorem dX5_makeSteps_80 : decode cX5_makeSteps 80 = .ok (.dup, 1) := by decide +kernel
theorem dX5_makeSteps_81 : decode cX5_makeSteps 81 = .ok (.getfield 34, 3) := by decide +kernel
theorem dX5_makeSteps_84 : decode cX5_makeSteps 84 = .ok (.iload_n 3, 1) := by decide +kernel
theorem dX5_makeSteps_85 : decode cX5_makeSteps 85 = .ok (.iload 4, 2) := by decide +kernel
theorem dX5_makeSteps_87 : decode cX5_makeSteps 87 = .ok (.isub, 1) := by decide +kernel
theorem dX5_makeSteps_88 : decode cX5_makeSteps 88 = .ok (.iadd, 1) := by decide +kernel
theorem dX5_makeSteps_89 : decode cX5_makeSteps 89 = .ok (.putfield 34, 3) := by decide +kernel
theorem dX5_makeSteps_92 : decode cX5_makeSteps 92 = .ok (.return_, 1) := by decide +kernel
theorem dX5_nextIndex_0 : decode cX5_nextIndex 0 = .ok (.aload_n 0, 1) := by decide +kernel
theorem dX5_nextIndex_1 : decode cX5_nextIndex 1 = .ok (.getfield 40, 3) := by decide +kernel
theorem dX5_nextIndex_4 : decode cX5_nextIndex 4 = .ok (.ifCond .ne 5, 3) := by decide +kernel
theorem dX5_nextIndex_7 : decode cX5_nextIndex 7 = .ok (.iconst 0, 1) := by decide +kernel
theorem dX5_nextIndex_8 : decode cX5_nextIndex 8 = .ok (.ireturn, 1) := by decide +kernel
theorem dX5_nextIndex_9 : decode cX5_nextIndex 9 = .ok (.aload_n 0, 1) := by decide +kernel
theorem dX5_nextIndex_10 : decode cX5_nextIndex 10 = .ok (.getfield 43, 3) := by decide +kernel
theorem dX5_nextIndex_13 : decode cX5_nextIndex 13 = .ok (.iconst 1, 1) := by decide +kernel
theorem dX5_nextIndex_14 : decode cX5_nextIndex 14 = .ok (.isub, 1) := by decide +kernel
theorem dX5_nextIndex_15 : decode cX5_nextIndex 15 = .ok (.iload_n 1, 1) := by decide +kernel
theorem dX5_nextIndex_16 : decode cX5_nextIndex 16 = .ok (.invokestatic 101, 3) := by decide +kernel
theorem dX5_nextIndex_19 : decode cX5_nextIndex 19 = .ok (.istore_n 2, 1) := by decide +kernel
theorem dX5_nextIndex_20 : decode cX5_nextIndex 20 = .ok (.aload_n 0, 1) := by decide +kernel
theorem dX5_nextIndex_21 : decode cX5_nextIndex 21 = .ok (.getfield 46, 3) := by decide +kernel
theorem dX5_nextIndex_24 : decode cX5_nextIndex 24 = .ok (.iconst 1, 1) := by decide +kernel
theorem dX5_nextIndex_25 : decode cX5_nextIndex 25 = .ok (.iadd, 1) := by decide +kernel
theorem dX5_nextIndex_26 : decode cX5_nextIndex 26 = .ok (.iload_n 2, 1) := by decide +kernel
theorem dX5_nextIndex_27 : decode cX5_nextIndex 27 = .ok (.if_icmp .gt 10, 3) := by decide +kernel
theorem dX5_nextIndex_30 : decode cX5_nextIndex 30 = .ok (.aload_n 0, 1) := by decide +kernel
theorem dX5_nextIndex_31 : decode cX5_nextIndex 31 = .ok (.getfield 46, 3) := by decide +kernel
theorem dX5_nextIndex_34 : decode cX5_nextIndex 34 = .ok (.iconst 1, 1) := by decide +kernel
theorem dX5_nextIndex_35 : decode cX5_nextIndex 35 = .ok (.iadd, 1) := by decide +kernel
theorem dX5_nextIndex_36 : decode cX5_nextIndex 36 = .ok (.ireturn, 1) := by decide +kernel
theorem dX5_nextIndex_37 : decode cX5_nextIndex 37 = .ok (.aload_n 0, 1) := by decide +kernel
theorem dX5_nextIndex_38 : decode cX5_nextIndex 38 = .ok (.getfield 46, 3) := by decide +kernel
theorem dX5_nextIndex_41 : decode cX5_nextIndex 41 = .ok (.iload_n 2, 1) := by decide +kernel
theorem dX5_nextIndex_42 : decode cX5_nextIndex 42 = .ok (.if_icmp .gt 10, 3) := by decide +kernel
theorem dX5_nextIndex_45 : decode cX5_nextIndex 45 = .ok (.aload_n 0, 1) := by decide +kernel
theorem dX5_nextIndex_46 : decode cX5_nextIndex 46 = .ok (.getfield 46, 3) := by decide +kernel
theorem dX5_nextIndex_49 : decode cX5_nextIndex 49 = .ok (.goto 9, 3) := by decide +kernel
theorem dX5_nextIndex_52 : decode cX5_nextIndex 52 = .ok (.aload_n 0, 1) := by decide +kernel
theorem dX5_nextIndex_53 : decode cX5_nextIndex 53 = .ok (.getfield 46, 3) := by decide +kernel
theorem dX5_nextIndex_56 : decode cX5_nextIndex 56 = .ok (.iconst 1, 1) := by decide +kernel
theorem dX5_nextIndex_57 : decode cX5_nextIndex 57 = .ok (.isub, 1) := by decide +kernel
theorem dX5_nextIndex_58 : decode cX5_nextIndex 58 = .ok (.ireturn, 1) := by decide +kernel
theorem dX5_moveAxes_0 : decode cX5_moveAxes 0 = .ok (.aload_n 0, 1) := by decide +kernel
theorem dX5_moveAxes_1 : decode cX5_moveAxes 1 = .ok (.iconst 0, 1) := by decide +kernel
theorem dX5_moveAxes_2 : decode cX5_moveAxes 2 = .ok (.invokevirtual 68, 3) := by decide +kernel
theorem dX5_moveAxes_5 : decode cX5_moveAxes 5 = .ok (.istore_n 2, 1) := by decide +kernel
theorem dX5_moveAxes_6 : decode cX5_moveAxes 6 = .ok (.aload_n 0, 1) := by decide +kernel
theorem dX5_moveAxes_7 : decode cX5_moveAxes 7 = .ok (.dup, 1) := by decide +kernel
theorem dX5_moveAxes_8 : decode cX5_moveAxes 8 = .ok (.getfield 28, 3) := by decide +kernel
theorem dX5_moveAxes_11 : decode cX5_moveAxes 11 = .ok (.aload_n 0, 1) := by decide +kernel
theorem dX5_moveAxes_12 : decode cX5_moveAxes 12 = .ok (.getfield 18, 3) := by decide +kernel
theorem dX5_moveAxes_15 : decode cX5_moveAxes 15 = .ok (.iconst 0, 1) := by decide +kernel
theorem dX5_moveAxes_16 : decode cX5_moveAxes 16 = .ok (.iaload, 1) := by decide +kernel
theorem dX5_moveAxes_17 : decode cX5_moveAxes 17 = .ok (.iload_n 2, 1) := by decide +kernel
theorem dX5_moveAxes_18 : decode cX5_moveAxes 18 = .ok (.aload_n 0, 1) := by decide +kernel
theorem dX5_moveAxes_19 : decode cX5_moveAxes 19 = .ok (.getfield 40, 3) := by decide +kernel
theorem dX5_moveAxes_22 : decode cX5_moveAxes 22 = .ok (.invokestatic 120, 3) := by decide +kernel
theorem dX5_moveAxes_25 : decode cX5_moveAxes 25 = .ok (.aload_n 0, 1) := by decide +kernel
theorem dX5_moveAxes_26 : decode cX5_moveAxes 26 = .ok (.getfield 18, 3) := by decide +kernel
theorem dX5_moveAxes_29 : decode cX5_moveAxes 29 = .ok (.iconst 0, 1) := by decide +kernel
theorem dX5_moveAxes_30 : decode cX5_moveAxes 30 = .ok (.iaload, 1) := by decide +kernel
theorem dX5_moveAxes_31 : decode cX5_moveAxes 31 = .ok (.iload_n 2, 1) := by decide +kernel
theorem dX5_moveAxes_32 : decode cX5_moveAxes 32 = .ok (.iload_n 1, 1) := by decide +kernel
theorem dX5_moveAxes_33 : decode cX5_moveAxes 33 = .ok (.invokestatic 120, 3) := by decide +kernel
theorem dX5_moveAxes_36 : decode cX5_moveAxes 36 = .ok (.isub, 1) := by decide +kernel
theorem dX5_moveAxes_37 : decode cX5_moveAxes 37 = .ok (.iadd, 1) := by decide +kernel
theorem dX5_moveAxes_38 : decode cX5_moveAxes 38 = .ok (.putfield 28, 3) := by decide +kernel
theorem dX5_moveAxes_41 : decode cX5_moveAxes 41 = .ok (.aload_n 0, 1) := by decide +kernel
theorem dX5_moveAxes_42 : decode cX5_moveAxes 42 = .ok (.dup, 1) := by decide +kernel
theorem dX5_moveAxes_43 : decode cX5_moveAxes 43 = .ok (.getfield 31, 3) := by decide +kernel
theorem dX5_moveAxes_46 : decode cX5_moveAxes 46 = .ok (.aload_n 0, 1) := by decide +kernel
theorem dX5_moveAxes_47 : decode cX5_moveAxes 47 = .ok (.getfield 22, 3) := by decide +kernel
theorem dX5_moveAxes_50 : decode cX5_moveAxes 50 = .ok (.iconst 0, 1) := by decide +kernel
theorem dX5_moveAxes_51 : decode cX5_moveAxes 51 = .ok (.iaload, 1) := by decide +kernel
theorem dX5_moveAxes_52 : decode cX5_moveAxes 52 = .ok (.iload_n 2, 1) := by decide +kernel
theorem dX5_moveAxes_53 : decode cX5_moveAxes 53 = .ok (.aload_n 0, 1) := by decide +kernel
theorem dX5_moveAxes_54 : decode cX5_moveAxes 54 = .ok (.getfield 40, 3) := by decide +kernel
theorem dX5_moveAxes_57 : decode cX5_moveAxes 57 = .ok (.invokestatic 120, 3) := by decide +kernel
theorem dX5_moveAxes_60 : decode cX5_moveAxes 60 = .ok (.aload_n 0, 1) := by decide +kernel
theorem dX5_moveAxes_61 : decode cX5_moveAxes 61 = .ok (.getfield 22, 3) := by decide +kernel
theorem dX5_moveAxes_64 : decode cX5_moveAxes 64 = .ok (.iconst 0, 1) := by decide +kernel
theorem dX5_moveAxes_65 : decode cX5_moveAxes 65 = .ok (.iaload, 1) := by decide +kernel
theorem dX5_moveAxes_66 : decode cX5_moveAxes 66 = .ok (.iload_n 2, 1) := by decide +kernel
theorem dX5_moveAxes_67 : decode cX5_moveAxes 67 = .ok (.iload_n 1, 1) := by decide +kernel
theorem dX5_moveAxes_68 : decode cX5_moveAxes 68 = .ok (.invokestatic 120, 3) := by decide +kernel
theorem dX5_moveAxes_71 : decode cX5_moveAxes 71 = .ok (.isub, 1) := by decide +kernel
theorem dX5_moveAxes_72 : decode cX5_moveAxes 72 = .ok (.iadd, 1) := by decide +kernel
theorem dX5_moveAxes_73 : decode cX5_moveAxes 73 = .ok (.putfield 31, 3) := by decide +kernel
theorem dX5_moveAxes_76 : decode cX5_moveAxes 76 = .ok (.return_, 1) := by decide +kernel
theorem dX5_way_0 : decode cX5_way 0 = .ok (.iload_n 1, 1) := by decide +kernel
theorem dX5_way_1 : decode cX5_way 1 = .ok (.iconst 1, 1) := by decide +kernel
theorem dX5_way_2 : decode cX5_way 2 = .ok (.if_icmp .ge 5, 3) := by decide +kernel
theorem dX5_way_5 : decode cX5_way 5 = .ok (.iconst 0, 1) := by decide +kernel
theorem dX5_way_6 : decode cX5_way 6 = .ok (.ireturn, 1) := by decide +kernel
theorem dX5_way_7 : decode cX5_way 7 = .ok (.iconst 2, 1) := by decide +kernel
theorem dX5_way_8 : decode cX5_way 8 = .ok (.iload_n 2, 1) := by decide +kernel
theorem dX5_way_9 : decode cX5_way 9 = .ok (.imul, 1) := by decide +kernel
theorem dX5_way_10 : decode cX5_way 10 = .ok (.iload_n 0, 1) := by decide +kernel
theorem dX5_way_11 : decode cX5_way 11 = .ok (.invokestatic 54, 3) := by decide +kernel
theorem dX5_way_14 : decode cX5_way 14 = .ok (.imul, 1) := by decide +kernel
theorem dX5_way_15 : decode cX5_way 15 = .ok (.iload_n 1, 1) := by decide +kernel
theorem dX5_way_16 : decode cX5_way 16 = .ok (.iadd, 1) := by decide +kernel
theorem dX5_way_17 : decode cX5_way 17 = .ok (.iconst 2, 1) := by decide +kernel
theorem dX5_way_18 : decode cX5_way 18 = .ok (.iload_n 1, 1) := by decide +kernel
theorem dX5_way_19 : decode cX5_way 19 = .ok (.imul, 1) := by decide +kernel
theorem dX5_way_20 : decode cX5_way 20 = .ok (.idiv, 1) := by decide +kernel
theorem dX5_way_21 : decode cX5_way 21 = .ok (.istore_n 3, 1) := by decide +kernel
theorem dX5_way_22 : decode cX5_way 22 = .ok (.iload_n 0, 1) := by decide +kernel
theorem dX5_way_23 : decode cX5_way 23 = .ok (.ifCond .ge 8, 3) := by decide +kernel
theorem dX5_way_26 : decode cX5_way 26 = .ok (.iload_n 3, 1) := by decide +kernel
theorem dX5_way_27 : decode cX5_way 27 = .ok (.ineg, 1) := by decide +kernel
theorem dX5_way_28 : decode cX5_way 28 = .ok (.goto 4, 3) := by decide +kernel
theorem dX5_way_31 : decode cX5_way 31 = .ok (.iload_n 3, 1) := by decide +kernel
theorem dX5_way_32 : decode cX5_way 32 = .ok (.ireturn, 1) := by decide +kernel
theorem dX6_init_0 : decode cX6_init 0 = .ok (.aload_n 0, 1) := by decide +kernel
theorem dX6_init_1 : decode cX6_init 1 = .ok (.invokespecial 1, 3) := by decide +kernel
theorem dX6_init_4 : decode cX6_init 4 = .ok (.aload_n 0, 1) := by decide +kernel
theorem dX6_init_5 : decode cX6_init 5 = .ok (.new 7, 3) := by decide +kernel
theorem dX6_init_8 : decode cX6_init 8 = .ok (.dup, 1) := by decide +kernel
theorem dX6_init_9 : decode cX6_init 9 = .ok (.invokespecial 9, 3) := by decide +kernel
theorem dX6_init_12 : decode cX6_init 12 = .ok (.putfield 10, 3) := by decide +kernel
theorem dX6_init_15 : decode cX6_init 15 = .ok (.aload_n 0, 1) := by decide +kernel
theorem dX6_init_16 : decode cX6_init 16 = .ok (.new 16, 3) := by decide +kernel
theorem dX6_init_19 : decode cX6_init 19 = .ok (.dup, 1) := by decide +kernel
theorem dX6_init_20 : decode cX6_init 20 = .ok (.invokespecial 18, 3) := by decide +kernel
theorem dX6_init_23 : decode cX6_init 23 = .ok (.putfield 19, 3) := by decide +kernel
theorem dX6_init_26 : decode cX6_init 26 = .ok (.aload_n 0, 1) := by decide +kernel
theorem dX6_init_27 : decode cX6_init 27 = .ok (.new 16, 3) := by decide +kernel
theorem dX6_init_30 : decode cX6_init 30 = .ok (.dup, 1) := by decide +kernel
theorem dX6_init_31 : decode cX6_init 31 = .ok (.invokespecial 18, 3) := by decide +kernel
theorem dX6_init_34 : decode cX6_init 34 = .ok (.putfield 23, 3) := by decide +kernel
theorem dX6_init_37 : decode cX6_init 37 = .ok (.aload_n 0, 1) := by decide +kernel
theorem dX6_init_38 : decode cX6_init 38 = .ok (.new 26, 3) := by decide +kernel
theorem dX6_init_41 : decode cX6_init 41 = .ok (.dup, 1) := by decide +kernel
theorem dX6_init_42 : decode cX6_init 42 = .ok (.invokespecial 28, 3) := by decide +kernel
theorem dX6_init_45 : decode cX6_init 45 = .ok (.putfield 29, 3) := by decide +kernel
theorem dX6_init_48 : decode cX6_init 48 = .ok (.aload_n 0, 1) := by decide +kernel
theorem dX6_init_49 : decode cX6_init 49 = .ok (.new 33, 3) := by decide +kernel
theorem dX6_init_52 : decode cX6_init 52 = .ok (.dup, 1) := by decide +kernel
theorem dX6_init_53 : decode cX6_init 53 = .ok (.invokespecial 35, 3) := by decide +kernel
theorem dX6_init_56 : decode cX6_init 56 = .ok (.putfield 36, 3) := by decide +kernel
theorem dX6_init_59 : decode cX6_init 59 = .ok (.aload_n 0, 1) := by decide +kernel
theorem dX6_init_60 : decode cX6_init 60 = .ok (.new 33, 3) := by decide +kernel
theorem dX6_init_63 : decode cX6_init 63 = .ok (.dup, 1) := by decide +kernel
theorem dX6_init_64 : decode cX6_init 64 = .ok (.invokespecial 35, 3) := by decide +kernel
theorem dX6_init_67 : decode cX6_init 67 = .ok (.putfield 40, 3) := by decide +kernel
theorem dX6_init_70 : decode cX6_init 70 = .ok (.aload_n 0, 1) := by decide +kernel
theorem dX6_init_71 : decode cX6_init 71 = .ok (.new 43, 3) := by decide +kernel
theorem dX6_init_74 : decode cX6_init 74 = .ok (.dup, 1) := by decide +kernel
theorem dX6_init_75 : decode cX6_init 75 = .ok (.invokespecial 45, 3) := by decide +kernel
theorem dX6_init_78 : decode cX6_init 78 = .ok (.putfield 46, 3) := by decide +kernel
theorem dX6_init_81 : decode cX6_init 81 = .ok (.return_, 1) := by decide +kernel
theorem dX6_append_0 : decode cX6_append 0 = .ok (.iload_n 1, 1) := by decide +kernel
theorem dX6_append_1 : decode cX6_append 1 = .ok (.ifCond .lt 10, 3) := by decide +kernel
theorem dX6_append_4 : decode cX6_append 4 = .ok (.iload_n 1, 1) := by decide +kernel
theorem dX6_append_5 : decode cX6_append 5 = .ok (.sipush 255, 3) := by decide +kernel
theorem dX6_append_8 : decode cX6_append 8 = .ok (.if_icmp .le 6, 3) := by decide +kernel
theorem dX6_append_11 : decode cX6_append 11 = .ok (.bipush (-2), 2) := by decide +kernel
theorem dX6_append_13 : decode cX6_append 13 = .ok (.ireturn, 1) := by decide +kernel
theorem dX6_append_14 : decode cX6_append 14 = .ok (.aload_n 0, 1) := by decide +kernel
theorem dX6_append_15 : decode cX6_append 15 = .ok (.getfield 10, 3) := by decide +kernel
theorem dX6_append_18 : decode cX6_append 18 = .ok (.iload_n 1, 1) := by decide +kernel
theorem dX6_append_19 : decode cX6_append 19 = .ok (.invokevirtual 50, 3) := by decide +kernel
theorem dX6_append_22 : decode cX6_append 22 = .ok (.ifCond .eq 13, 3) := by decide +kernel
theorem dX6_append_25 : decode cX6_append 25 = .ok (.aload_n 0, 1) := by decide +kernel
theorem dX6_append_26 : decode cX6_append 26 = .ok (.getfield 10, 3) := by decide +kernel
theorem dX6_append_29 : decode cX6_append 29 = .ok (.getfield 54, 3) := by decide +kernel
theorem dX6_append_32 : decode cX6_append 32 = .ok (.goto 5, 3) := by decide +kernel
theorem dX6_append_35 : decode cX6_append 35 = .ok (.bipush (-4), 2) := by decide +kernel
theorem dX6_append_37 : decode cX6_append 37 = .ok (.ireturn, 1) := by decide +kernel
theorem dX6_clearText_0 : decode cX6_clearText 0 = .ok (.aload_n 0, 1) := by decide +kernel
theorem dX6_clearText_1 : decode cX6_clearText 1 = .ok (.getfield 10, 3) := by decide +kernel
theorem dX6_clearText_4 : decode cX6_clearText 4 = .ok (.getfield 54, 3) := by decide +kernel
theorem dX6_clearText_7 : decode cX6_clearText 7 = .ok (.istore_n 1, 1) := by decide +kernel
theorem dX6_clearText_8 : decode cX6_clearText 8 = .ok (.aload_n 0, 1) := by decide +kernel
theorem dX6_clearText_9 : decode cX6_clearText 9 = .ok (.getfield 10, 3) := by decide +kernel
theorem dX6_clearText_12 : decode cX6_clearText 12 = .ok (.iconst 0, 1) := by decide +kernel
theorem dX6_clearText_13 : decode cX6_clearText 13 = .ok (.putfield 54, 3) := by decide +kernel
theorem dX6_clearText_16 : decode cX6_clearText 16 = .ok (.iload_n 1, 1) := by decide +kernel
theorem dX6_clearText_17 : decode cX6_clearText 17 = .ok (.ireturn, 1) := by decide +kernel
theorem dX6_errorPosition_0 : decode cX6_errorPosition 0 = .ok (.aload_n 0, 1) := by decide +kernel
theorem dX6_errorPosition_1 : decode cX6_errorPosition 1 = .ok (.getfield 10, 3) := by decide +kernel
theorem dX6_errorPosition_4 : decode cX6_errorPosition 4 = .ok (.aload_n 0, 1) := by decide +kernel
theorem dX6_errorPosition_5 : decode cX6_errorPosition 5 = .ok (.getfield 23, 3) := by decide +kernel
theorem dX6_errorPosition_8 : decode cX6_errorPosition 8 = .ok (.invokevirtual 58, 3) := by decide +kernel
theorem dX6_errorPosition_11 : decode cX6_errorPosition 11 = .ok (.ireturn, 1) := by decide +kernel
theorem dX6_load_0 : decode cX6_load 0 = .ok (.aload_n 0, 1) := by decide +kernel
theorem dX6_load_1 : decode cX6_load 1 = .ok (.getfield 10, 3) := by decide +kernel
theorem dX6_load_4 : decode cX6_load 4 = .ok (.aload_n 0, 1) := by decide +kernel
theorem dX6_load_5 : decode cX6_load 5 = .ok (.getfield 23, 3) := by decide +kernel
theorem dX6_load_8 : decode cX6_load 8 = .ok (.invokevirtual 58, 3) := by decide +kernel
theorem dX6_load_11 : decode cX6_load 11 = .ok (.bipush (-9), 2) := by decide +kernel
theorem dX6_load_13 : decode cX6_load 13 = .ok (.if_icmp .eq 6, 3) := by decide +kernel
theorem dX6_load_16 : decode cX6_load 16 = .ok (.bipush (-3), 2) := by decide +kernel
theorem dX6_load_18 : decode cX6_load 18 = .ok (.ireturn, 1) := by decide +kernel
theorem dX6_load_19 : decode cX6_load 19 = .ok (.aload_n 0, 1) := by decide +kernel
theorem dX6_load_20 : decode cX6_load 20 = .ok (.getfield 19, 3) := by decide +kernel
theorem dX6_load_23 : decode cX6_load 23 = .ok (.aload_n 0, 1) := by decide +kernel
theorem dX6_load_24 : decode cX6_load 24 = .ok (.getfield 23, 3) := by decide +kernel
theorem dX6_load_27 : decode cX6_load 27 = .ok (.invokevirtual 62, 3) := by decide +kernel
theorem dX6_load_30 : decode cX6_load 30 = .ok (.aload_n 0, 1) := by decide +kernel
theorem dX6_load_31 : decode cX6_load 31 = .ok (.getfield 29, 3) := by decide +kernel
theorem dX6_load_34 : decode cX6_load 34 = .ok (.invokevirtual 66, 3) := by decide +kernel
theorem dX6_load_37 : decode cX6_load 37 = .ok (.aload_n 0, 1) := by decide +kernel
theorem dX6_load_38 : decode cX6_load 38 = .ok (.getfield 36, 3) := by decide +kernel
theorem dX6_load_41 : decode cX6_load 41 = .ok (.iconst 0, 1) := by decide +kernel
theorem dX6_load_42 : decode cX6_load 42 = .ok (.putfield 69, 3) := by decide +kernel
theorem dX6_load_45 : decode cX6_load 45 = .ok (.aload_n 0, 1) := by decide +kernel
theorem dX6_load_46 : decode cX6_load 46 = .ok (.getfield 40, 3) := by decide +kernel
theorem dX6_load_49 : decode cX6_load 49 = .ok (.iconst 0, 1) := by decide +kernel
theorem dX6_load_50 : decode cX6_load 50 = .ok (.putfield 69, 3) := by decide +kernel
theorem dX6_load_53 : decode cX6_load 53 = .ok (.aload_n 0, 1) := by decide +kernel
theorem dX6_load_54 : decode cX6_load 54 = .ok (.getfield 19, 3) := by decide +kernel
theorem dX6_load_57 : decode cX6_load 57 = .ok (.getfield 73, 3) := by decide +kernel
theorem dX6_load_60 : decode cX6_load 60 = .ok (.ireturn, 1) := by decide +kernel
theorem dX6_position_0 : decode cX6_position 0 = .ok (.iload_n 1, 1) := by decide +kernel
theorem dX6_position_1 : decode cX6_position 1 = .ok (.invokestatic 76, 3) := by decide +kernel
theorem dX6_position_4 : decode cX6_position 4 = .ok (.ifCond .eq 14, 3) := by decide +kernel
theorem dX6_position_7 : decode cX6_position 7 = .ok (.aload_n 0, 1) := by decide +kernel
theorem dX6_position_8 : decode cX6_position 8 = .ok (.getfield 19, 3) := by decide +kernel
theorem dX6_position_11 : decode cX6_position 11 = .ok (.iload_n 1, 1) := by decide +kernel
theorem dX6_position_12 : decode cX6_position 12 = .ok (.invokevirtual 79, 3) := by decide +kernel
theorem dX6_position_15 : decode cX6_position 15 = .ok (.goto 4, 3) := by decide +kernel
theorem dX6_position_18 : decode cX6_position 18 = .ok (.iconst (-1), 1) := by decide +kernel
theorem dX6_position_19 : decode cX6_position 19 = .ok (.ireturn, 1) := by decide +kernel
theorem dX6_clock_0 : decode cX6_clock 0 = .ok (.aload_n 0, 1) := by decide +kernel
theorem dX6_clock_1 : decode cX6_clock 1 = .ok (.getfield 19, 3) := by decide +kernel
theorem dX6_clock_4 : decode cX6_clock 4 = .ok (.getfield 83, 3) := by decide +kernel
theorem dX6_clock_7 : decode cX6_clock 7 = .ok (.ireturn, 1) := by decide +kernel
theorem dX6_queueLength_0 : decode cX6_queueLength 0 = .ok (.aload_n 0, 1) := by decide +kernel
theorem dX6_queueLength_1 : decode cX6_queueLength 1 = .ok (.getfield 19, 3) := by decide +kernel
theorem dX6_queueLength_4 : decode cX6_queueLength 4 = .ok (.getfield 73, 3) := by decide +kernel
theorem dX6_queueLength_7 : decode cX6_queueLength 7 = .ok (.ireturn, 1) := by decide +kernel
theorem dX6_itemAt_0 : decode cX6_itemAt 0 = .ok (.aload_n 0, 1) := by decide +kernel
theorem dX6_itemAt_1 : decode cX6_itemAt 1 = .ok (.getfield 19, 3) := by decide +kernel
theorem dX6_itemAt_4 : decode cX6_itemAt 4 = .ok (.iload_n 1, 1) := by decide +kernel
theorem dX6_itemAt_5 : decode cX6_itemAt 5 = .ok (.invokevirtual 86, 3) := by decide +kernel
theorem dX6_itemAt_8 : decode cX6_itemAt 8 = .ok (.ifCond .ne 5, 3) := by decide +kernel
theorem dX6_itemAt_11 : decode cX6_itemAt 11 = .ok (.iconst (-1), 1) := by decide +kernel
theorem dX6_itemAt_12 : decode cX6_itemAt 12 = .ok (.ireturn, 1) := by decide +kernel
theorem dX6_itemAt_13 : decode cX6_itemAt 13 = .ok (.aload_n 0, 1) := by decide +kernel
theorem dX6_itemAt_14 : decode cX6_itemAt 14 = .ok (.getfield 19, 3) := by decide +kernel
theorem dX6_itemAt_17 : decode cX6_itemAt 17 = .ok (.iload_n 1, 1) := by decide +kernel
theorem dX6_itemAt_18 : decode cX6_itemAt 18 = .ok (.invokevirtual 89, 3) := by decide +kernel
theorem dX6_itemAt_21 : decode cX6_itemAt 21 = .ok (.ifCond .eq 19, 3) := by decide +kernel
theorem dX6_itemAt_24 : decode cX6_itemAt 24 = .ok (.aload_n 0, 1) := by decide +kernel
theorem dX6_itemAt_25 : decode cX6_itemAt 25 = .ok (.getfield 19, 3) := by decide +kernel
theorem dX6_itemAt_28 : decode cX6_itemAt 28 = .ok (.getfield 92, 3) := by decide +kernel
theorem dX6_itemAt_31 : decode cX6_itemAt 31 = .ok (.iload_n 1, 1) := by decide +kernel
theorem dX6_itemAt_32 : decode cX6_itemAt 32 = .ok (.iaload, 1) := by decide +kernel
theorem dX6_itemAt_33 : decode cX6_itemAt 33 = .ok (.sipush 10000, 3) := by decide +kernel
theorem dX6_itemAt_36 : decode cX6_itemAt 36 = .ok (.iadd, 1) := by decide +kernel
theorem dX6_itemAt_37 : decode cX6_itemAt 37 = .ok (.goto 11, 3) := by decide +kernel
theorem dX6_itemAt_40 : decode cX6_itemAt 40 = .ok (.aload_n 0, 1) := by decide +kernel
theorem dX6_itemAt_41 : decode cX6_itemAt 41 = .ok (.getfield 19, 3) := by decide +kernel
theorem dX6_itemAt_44 : decode cX6_itemAt 44 = .ok (.iload_n 1, 1) := by decide +kernel
theorem dX6_itemAt_45 : decode cX6_itemAt 45 = .ok (.invokevirtual 96, 3) := by decide +kernel
theorem dX6_itemAt_48 : decode cX6_itemAt 48 = .ok (.ireturn, 1) := by decide +kernel
theorem dX6_rampIndex_0 : decode cX6_rampIndex 0 = .ok (.aload_n 0, 1) := by decide +kernel
theorem dX6_rampIndex_1 : decode cX6_rampIndex 1 = .ok (.getfield 19, 3) := by decide +kernel
theorem dX6_rampIndex_4 : decode cX6_rampIndex 4 = .ok (.invokevirtual 99, 3) := by decide +kernel
theorem dX6_rampIndex_7 : decode cX6_rampIndex 7 = .ok (.ifCond .eq 13, 3) := by decide +kernel
theorem dX6_rampIndex_10 : decode cX6_rampIndex 10 = .ok (.aload_n 0, 1) := by decide +kernel
theorem dX6_rampIndex_11 : decode cX6_rampIndex 11 = .ok (.getfield 19, 3) := by decide +kernel
theorem dX6_rampIndex_14 : decode cX6_rampIndex 14 = .ok (.getfield 103, 3) := by decide +kernel
theorem dX6_rampIndex_17 : decode cX6_rampIndex 17 = .ok (.goto 5, 3) := by decide +kernel
theorem dX6_rampIndex_20 : decode cX6_rampIndex 20 = .ok (.bipush (-9), 2) := by decide +kernel
theorem dX6_rampIndex_22 : decode cX6_rampIndex 22 = .ok (.ireturn, 1) := by decide +kernel
theorem dX6_topIndex_0 : decode cX6_topIndex 0 = .ok (.aload_n 0, 1) := by decide +kernel
theorem dX6_topIndex_1 : decode cX6_topIndex 1 = .ok (.invokevirtual 106, 3) := by decide +kernel
theorem dX6_topIndex_4 : decode cX6_topIndex 4 = .ok (.getfield 110, 3) := by decide +kernel
theorem dX6_topIndex_7 : decode cX6_topIndex 7 = .ok (.ireturn, 1) := by decide +kernel
theorem dX6_interval_0 : decode cX6_interval 0 = .ok (.iload_n 1, 1) := by decide +kernel
theorem dX6_interval_1 : decode cX6_interval 1 = .ok (.invokestatic 113, 3) := by decide +kernel
theorem dX6_interval_4 : decode cX6_interval 4 = .ok (.ifCond .eq 14, 3) := by decide +kernel
theorem dX6_interval_7 : decode cX6_interval 7 = .ok (.aload_n 0, 1) := by decide +kernel
theorem dX6_interval_8 : decode cX6_interval 8 = .ok (.invokevirtual 106, 3) := by decide +kernel
theorem dX6_interval_11 : decode cX6_interval 11 = .ok (.iload_n 1, 1) := by decide +kernel
theorem dX6_interval_12 : decode cX6_interval 12 = .ok (.invokevirtual 116, 3) := by decide +kernel
theorem dX6_interval_15 : decode cX6_interval 15 = .ok (.goto 5, 3) := by decide +kernel
theorem dX6_interval_18 : decode cX6_interval 18 = .ok (.bipush (-2), 2) := by decide +kernel
theorem dX6_interval_20 : decode cX6_interval 20 = .ok (.ireturn, 1) := by decide +kernel
theorem dX6_approximateInterval_0 : decode cX6_approximateInterval 0 = .ok (.iload_n 1, 1) := by decide +kernel
theorem dX6_approximateInterval_1 : decode cX6_approximateInterval 1 = .ok (.invokestatic 113, 3) := by decide +kernel
theorem dX6_approximateInterval_4 : decode cX6_approximateInterval 4 = .ok (.ifCond .eq 14, 3) := by decide +kernel
theorem dX6_approximateInterval_7 : decode cX6_approximateInterval 7 = .ok (.aload_n 0, 1) := by decide +kernel
theorem dX6_approximateInterval_8 : decode cX6_approximateInterval 8 = .ok (.invokevirtual 106, 3) := by decide +kernel
theorem dX6_approximateInterval_11 : decode cX6_approximateInterval 11 = .ok (.iload_n 1, 1) := by decide +kernel
theorem dX6_approximateInterval_12 : decode cX6_approximateInterval 12 = .ok (.invokevirtual 119, 3) := by decide +kernel
theorem dX6_approximateInterval_15 : decode cX6_approximateInterval 15 = .ok (.goto 5, 3) := by decide +kernel
theorem dX6_approximateInterval_18 : decode cX6_approximateInterval 18 = .ok (.bipush (-2), 2) := by decide +kernel
theorem dX6_approximateInterval_20 : decode cX6_approximateInterval 20 = .ok (.ireturn, 1) := by decide +kernel
theorem dX6_setAcceleration_0 : decode cX6_setAcceleration 0 = .ok (.iload_n 1, 1) := by decide +kernel
theorem dX6_setAcceleration_1 : decode cX6_setAcceleration 1 = .ok (.sipush 999, 3) := by decide +kernel
theorem dX6_setAcceleration_4 : decode cX6_setAcceleration 4 = .ok (.invokestatic 122, 3) := by decide +kernel
theorem dX6_setAcceleration_7 : decode cX6_setAcceleration 7 = .ok (.ifCond .ne 6, 3) := by decide +kernel
theorem dX6_setAcceleration_10 : decode cX6_setAcceleration 10 = .ok (.bipush (-2), 2) := by decide +kernel
theorem dX6_setAcceleration_12 : decode cX6_setAcceleration 12 = .ok (.ireturn, 1) := by decide +kernel
theorem dX6_setAcceleration_13 : decode cX6_setAcceleration 13 = .ok (.aload_n 0, 1) := by decide +kernel
theorem dX6_setAcceleration_14 : decode cX6_setAcceleration 14 = .ok (.getfield 19, 3) := by decide +kernel
theorem dX6_setAcceleration_17 : decode cX6_setAcceleration 17 = .ok (.invokevirtual 99, 3) := by decide +kernel
theorem dX6_setAcceleration_20 : decode cX6_setAcceleration 20 = .ok (.ifCond .eq 6, 3) := by decide +kernel
theorem dX6_setAcceleration_23 : decode cX6_setAcceleration 23 = .ok (.bipush (-3), 2) := by decide +kernel
theorem dX6_setAcceleration_25 : decode cX6_setAcceleration 25 = .ok (.ireturn, 1) := by decide +kernel
theorem dX6_setAcceleration_26 : decode cX6_setAcceleration 26 = .ok (.aload_n 0, 1) := by decide +kernel
theorem dX6_setAcceleration_27 : decode cX6_setAcceleration 27 = .ok (.getfield 29, 3) := by decide +kernel
theorem dX6_setAcceleration_30 : decode cX6_setAcceleration 30 = .ok (.aload_n 0, 1) := by decide +kernel
theorem dX6_setAcceleration_31 : decode cX6_setAcceleration 31 = .ok (.getfield 19, 3) := by decide +kernel
theorem dX6_setAcceleration_34 : decode cX6_setAcceleration 34 = .ok (.invokevirtual 126, 3) := by decide +kernel
theorem dX6_setAcceleration_37 : decode cX6_setAcceleration 37 = .ok (.aload_n 0, 1) := by decide +kernel
theorem dX6_setAcceleration_38 : decode cX6_setAcceleration 38 = .ok (.getfield 19, 3) := by decide +kernel
theorem dX6_setAcceleration_41 : decode cX6_setAcceleration 41 = .ok (.getfield 129, 3) := by decide +kernel
theorem dX6_setAcceleration_44 : decode cX6_setAcceleration 44 = .ok (.istore_n 2, 1) := by decide +kernel
theorem dX6_setAcceleration_45 : decode cX6_setAcceleration 45 = .ok (.aload_n 0, 1) := by decide +kernel
theorem dX6_setAcceleration_46 : decode cX6_setAcceleration 46 = .ok (.getfield 19, 3) := by decide +kernel
theorem dX6_setAcceleration_49 : decode cX6_setAcceleration 49 = .ok (.iload_n 1, 1) := by decide +kernel
theorem dX6_setAcceleration_50 : decode cX6_setAcceleration 50 = .ok (.putfield 129, 3) := by decide +kernel
theorem dX6_setAcceleration_53 : decode cX6_setAcceleration 53 = .ok (.iload_n 2, 1) := by decide +kernel
theorem dX6_setAcceleration_54 : decode cX6_setAcceleration 54 = .ok (.ireturn, 1) := by decide +kernel
theorem dX6_setSpeedLimit_0 : decode cX6_setSpeedLimit 0 = .ok (.iload_n 1, 1) := by decide +kernel
theorem dX6_setSpeedLimit_1 : decode cX6_setSpeedLimit 1 = .ok (.sipush 999, 3) := by decide +kernel
theorem dX6_setSpeedLimit_4 : decode cX6_setSpeedLimit 4 = .ok (.invokestatic 122, 3) := by decide +kernel
theorem dX6_setSpeedLimit_7 : decode cX6_setSpeedLimit 7 = .ok (.ifCond .ne 6, 3) := by decide +kernel
theorem dX6_setSpeedLimit_10 : decode cX6_setSpeedLimit 10 = .ok (.bipush (-2), 2) := by decide +kernel
theorem dX6_setSpeedLimit_12 : decode cX6_setSpeedLimit 12 = .ok (.ireturn, 1) := by decide +kernel
theorem dX6_setSpeedLimit_13 : decode cX6_setSpeedLimit 13 = .ok (.aload_n 0, 1) := by decide +kernel
theorem dX6_setSpeedLimit_14 : decode cX6_setSpeedLimit 14 = .ok (.getfield 29, 3) := by decide +kernel
theorem dX6_setSpeedLimit_17 : decode cX6_setSpeedLimit 17 = .ok (.aload_n 0, 1) := by decide +kernel
theorem dX6_setSpeedLimit_18 : decode cX6_setSpeedLimit 18 = .ok (.getfield 19, 3) := by decide +kernel
theorem dX6_setSpeedLimit_21 : decode cX6_setSpeedLimit 21 = .ok (.invokevirtual 126, 3) := by decide +kernel
theorem dX6_setSpeedLimit_24 : decode cX6_setSpeedLimit 24 = .ok (.aload_n 0, 1) := by decide +kernel
theorem dX6_setSpeedLimit_25 : decode cX6_setSpeedLimit 25 = .ok (.getfield 19, 3) := by decide +kernel
theorem dX6_setSpeedLimit_28 : decode cX6_setSpeedLimit 28 = .ok (.getfield 132, 3) := by decide +kernel
theorem dX6_setSpeedLimit_31 : decode cX6_setSpeedLimit 31 = .ok (.istore_n 2, 1) := by decide +kernel
theorem dX6_setSpeedLimit_32 : decode cX6_setSpeedLimit 32 = .ok (.aload_n 0, 1) := by decide +kernel
theorem dX6_setSpeedLimit_33 : decode cX6_setSpeedLimit 33 = .ok (.getfield 19, 3) := by decide +kernel
theorem dX6_setSpeedLimit_36 : decode cX6_setSpeedLimit 36 = .ok (.iload_n 1, 1) := by decide +kernel
theorem dX6_setSpeedLimit_37 : decode cX6_setSpeedLimit 37 = .ok (.putfield 132, 3) := by decide +kernel
theorem dX6_setSpeedLimit_40 : decode cX6_setSpeedLimit 40 = .ok (.iload_n 2, 1) := by decide +kernel
theorem dX6_setSpeedLimit_41 : decode cX6_setSpeedLimit 41 = .ok (.ireturn, 1) := by decide +kernel
theorem dX6_addMove_0 : decode cX6_addMove 0 = .ok (.iload_n 1, 1) := by decide +kernel
theorem dX6_addMove_1 : decode cX6_addMove 1 = .ok (.invokestatic 135, 3) := by decide +kernel
theorem dX6_addMove_4 : decode cX6_addMove 4 = .ok (.ifCond .eq 18, 3) := by decide +kernel
theorem dX6_addMove_7 : decode cX6_addMove 7 = .ok (.iload_n 2, 1) := by decide +kernel
theorem dX6_addMove_8 : decode cX6_addMove 8 = .ok (.invokestatic 135, 3) := by decide +kernel
theorem dX6_addMove_11 : decode cX6_addMove 11 = .ok (.ifCond .eq 11, 3) := by decide +kernel
theorem dX6_addMove_14 : decode cX6_addMove 14 = .ok (.iload_n 1, 1) := by decide +kernel
theorem dX6_addMove_15 : decode cX6_addMove 15 = .ok (.ifCond .ne 10, 3) := by decide +kernel
theorem dX6_addMove_18 : decode cX6_addMove 18 = .ok (.iload_n 2, 1) := by decide +kernel
theorem dX6_addMove_19 : decode cX6_addMove 19 = .ok (.ifCond .ne 6, 3) := by decide +kernel
theorem dX6_addMove_22 : decode cX6_addMove 22 = .ok (.bipush (-2), 2) := by decide +kernel
theorem dX6_addMove_24 : decode cX6_addMove 24 = .ok (.ireturn, 1) := by decide +kernel
theorem dX6_addMove_25 : decode cX6_addMove 25 = .ok (.aload_n 0, 1) := by decide +kernel
theorem dX6_addMove_26 : decode cX6_addMove 26 = .ok (.getfield 19, 3) := by decide +kernel
theorem dX6_addMove_29 : decode cX6_addMove 29 = .ok (.invokevirtual 138, 3) := by decide +kernel
theorem dX6_addMove_32 : decode cX6_addMove 32 = .ok (.ifCond .eq 6, 3) := by decide +kernel
theorem dX6_addMove_35 : decode cX6_addMove 35 = .ok (.bipush (-4), 2) := by decide +kernel
theorem dX6_addMove_37 : decode cX6_addMove 37 = .ok (.ireturn, 1) := by decide +kernel
theorem dX6_addMove_38 : decode cX6_addMove 38 = .ok (.aload_n 0, 1) := by decide +kernel
theorem dX6_addMove_39 : decode cX6_addMove 39 = .ok (.getfield 29, 3) := by decide +kernel
theorem dX6_addMove_42 : decode cX6_addMove 42 = .ok (.aload_n 0, 1) := by decide +kernel
theorem dX6_addMove_43 : decode cX6_addMove 43 = .ok (.getfield 19, 3) := by decide +kernel
theorem dX6_addMove_46 : decode cX6_addMove 46 = .ok (.invokevirtual 126, 3) := by decide +kernel
theorem dX6_addMove_49 : decode cX6_addMove 49 = .ok (.aload_n 0, 1) := by decide +kernel
theorem dX6_addMove_50 : decode cX6_addMove 50 = .ok (.getfield 19, 3) := by decide +kernel
theorem dX6_addMove_53 : decode cX6_addMove 53 = .ok (.iload_n 1, 1) := by decide +kernel
theorem dX6_addMove_54 : decode cX6_addMove 54 = .ok (.iload_n 2, 1) := by decide +kernel
theorem dX6_addMove_55 : decode cX6_addMove 55 = .ok (.iconst 0, 1) := by decide +kernel
theorem dX6_addMove_56 : decode cX6_addMove 56 = .ok (.invokevirtual 141, 3) := by decide +kernel
theorem dX6_addMove_59 : decode cX6_addMove 59 = .ok (.aload_n 0, 1) := by decide +kernel
theorem dX6_addMove_60 : decode cX6_addMove 60 = .ok (.getfield 19, 3) := by decide +kernel
theorem dX6_addMove_63 : decode cX6_addMove 63 = .ok (.getfield 73, 3) := by decide +kernel
theorem dX6_addMove_66 : decode cX6_addMove 66 = .ok (.ireturn, 1) := by decide +kernel
theorem dX6_addWait_0 : decode cX6_addWait 0 = .ok (.iload_n 1, 1) := by decide +kernel
theorem dX6_addWait_1 : decode cX6_addWait 1 = .ok (.sipush 9999, 3) := by decide +kernel
theorem dX6_addWait_4 : decode cX6_addWait 4 = .ok (.invokestatic 122, 3) := by decide +kernel
theorem dX6_addWait_7 : decode cX6_addWait 7 = .ok (.ifCond .ne 6, 3) := by decide +kernel
theorem dX6_addWait_10 : decode cX6_addWait 10 = .ok (.bipush (-2), 2) := by decide +kernel
theorem dX6_addWait_12 : decode cX6_addWait 12 = .ok (.ireturn, 1) := by decide +kernel
theorem dX6_addWait_13 : decode cX6_addWait 13 = .ok (.aload_n 0, 1) := by decide +kernel
theorem dX6_addWait_14 : decode cX6_addWait 14 = .ok (.getfield 19, 3) := by decide +kernel
theorem dX6_addWait_17 : decode cX6_addWait 17 = .ok (.invokevirtual 138, 3) := by decide +kernel
theorem dX6_addWait_20 : decode cX6_addWait 20 = .ok (.ifCond .eq 6, 3) := by decide +kernel
theorem dX6_addWait_23 : decode cX6_addWait 23 = .ok (.bipush (-4), 2) := by decide +kernel
theorem dX6_addWait_25 : decode cX6_addWait 25 = .ok (.ireturn, 1) := by decide +kernel
theorem dX6_addWait_26 : decode cX6_addWait 26 = .ok (.aload_n 0, 1) := by decide +kernel
theorem dX6_addWait_27 : decode cX6_addWait 27 = .ok (.getfield 29, 3) := by decide +kernel
theorem dX6_addWait_30 : decode cX6_addWait 30 = .ok (.aload_n 0, 1) := by decide +kernel
theorem dX6_addWait_31 : decode cX6_addWait 31 = .ok (.getfield 19, 3) := by decide +kernel
theorem dX6_addWait_34 : decode cX6_addWait 34 = .ok (.invokevirtual 126, 3) := by decide +kernel
theorem dX6_addWait_37 : decode cX6_addWait 37 = .ok (.aload_n 0, 1) := by decide +kernel
theorem dX6_addWait_38 : decode cX6_addWait 38 = .ok (.getfield 19, 3) := by decide +kernel
theorem dX6_addWait_41 : decode cX6_addWait 41 = .ok (.iconst 0, 1) := by decide +kernel
theorem dX6_addWait_42 : decode cX6_addWait 42 = .ok (.iconst 0, 1) := by decide +kernel
theorem dX6_addWait_43 : decode cX6_addWait 43 = .ok (.iload_n 1, 1) := by decide +kernel
theorem dX6_addWait_44 : decode cX6_addWait 44 = .ok (.invokevirtual 141, 3) := by decide +kernel
theorem dX6_addWait_47 : decode cX6_addWait 47 = .ok (.aload_n 0, 1) := by decide +kernel
theorem dX6_addWait_48 : decode cX6_addWait 48 = .ok (.getfield 19, 3) := by decide +kernel
theorem dX6_addWait_51 : decode cX6_addWait 51 = .ok (.getfield 73, 3) := by decide +kernel
theorem dX6_addWait_54 : decode cX6_addWait 54 = .ok (.ireturn, 1) := by decide +kernel
theorem dX6_step_0 : decode cX6_step 0 = .ok (.aload_n 0, 1) := by decide +kernel
theorem dX6_step_1 : decode cX6_step 1 = .ok (.getfield 19, 3) := by decide +kernel
theorem dX6_step_4 : decode cX6_step 4 = .ok (.getfield 73, 3) := by decide +kernel
theorem dX6_step_7 : decode cX6_step 7 = .ok (.ifCond .ne 6, 3) := by decide +kernel
theorem dX6_step_10 : decode cX6_step 10 = .ok (.bipush (-3), 2) := by decide +kernel
theorem dX6_step_12 : decode cX6_step 12 = .ok (.ireturn, 1) := by decide +kernel
theorem dX6_step_13 : decode cX6_step 13 = .ok (.aload_n 0, 1) := by decide +kernel
theorem dX6_step_14 : decode cX6_step 14 = .ok (.getfield 29, 3) := by decide +kernel
theorem dX6_step_17 : decode cX6_step 17 = .ok (.aload_n 0, 1) := by decide +kernel
theorem dX6_step_18 : decode cX6_step 18 = .ok (.getfield 19, 3) := by decide +kernel
theorem dX6_step_21 : decode cX6_step 21 = .ok (.invokevirtual 126, 3) := by decide +kernel
theorem dX6_step_24 : decode cX6_step 24 = .ok (.aload_n 0, 1) := by decide +kernel
theorem dX6_step_25 : decode cX6_step 25 = .ok (.getfield 19, 3) := by decide +kernel
theorem dX6_step_28 : decode cX6_step 28 = .ok (.getfield 83, 3) := by decide +kernel
theorem dX6_step_31 : decode cX6_step 31 = .ok (.istore_n 1, 1) := by decide +kernel
theorem dX6_step_32 : decode cX6_step 32 = .ok (.aload_n 0, 1) := by decide +kernel
theorem dX6_step_33 : decode cX6_step 33 = .ok (.getfield 19, 3) := by decide +kernel
theorem dX6_step_36 : decode cX6_step 36 = .ok (.aload_n 0, 1) := by decide +kernel
theorem dX6_step_37 : decode cX6_step 37 = .ok (.getfield 46, 3) := by decide +kernel
theorem dX6_step_40 : decode cX6_step 40 = .ok (.iconst 1, 1) := by decide +kernel
theorem dX6_step_41 : decode cX6_step 41 = .ok (.ldc 145, 2) := by decide +kernel
theorem dX6_step_43 : decode cX6_step 43 = .ok (.invokevirtual 146, 3) := by decide +kernel
theorem dX6_step_46 : decode cX6_step 46 = .ok (.pop, 1) := by decide +kernel
theorem dX6_step_47 : decode cX6_step 47 = .ok (.aload_n 0, 1) := by decide +kernel
theorem dX6_step_48 : decode cX6_step 48 = .ok (.getfield 19, 3) := by decide +kernel
theorem dX6_step_51 : decode cX6_step 51 = .ok (.getfield 83, 3) := by decide +kernel
theorem dX6_step_54 : decode cX6_step 54 = .ok (.iload_n 1, 1) := by decide +kernel
theorem dX6_step_55 : decode cX6_step 55 = .ok (.isub, 1) := by decide +kernel
theorem dX6_step_56 : decode cX6_step 56 = .ok (.ireturn, 1) := by decide +kernel
theorem dX6_run_0 : decode cX6_run 0 = .ok (.iload_n 1, 1) := by decide +kernel
theorem dX6_run_1 : decode cX6_run 1 = .ok (.ldc 150, 2) := by decide +kernel
theorem dX6_run_3 : decode cX6_run 3 = .ok (.invokestatic 122, 3) := by decide +kernel
theorem dX6_run_6 : decode cX6_run 6 = .ok (.ifCond .ne 6, 3) := by decide +kernel
theorem dX6_run_9 : decode cX6_run 9 = .ok (.bipush (-2), 2) := by decide +kernel
theorem dX6_run_11 : decode cX6_run 11 = .ok (.ireturn, 1) := by decide +kernel
theorem dX6_run_12 : decode cX6_run 12 = .ok (.aload_n 0, 1) := by decide +kernel
theorem dX6_run_13 : decode cX6_run 13 = .ok (.getfield 19, 3) := by decide +kernel
theorem dX6_run_16 : decode cX6_run 16 = .ok (.getfield 73, 3) := by decide +kernel
theorem dX6_run_19 : decode cX6_run 19 = .ok (.ifCond .ne 6, 3) := by decide +kernel
theorem dX6_run_22 : decode cX6_run 22 = .ok (.bipush (-3), 2) := by decide +kernel
theorem dX6_run_24 : decode cX6_run 24 = .ok (.ireturn, 1) := by decide +kernel
theorem dX6_run_25 : decode cX6_run 25 = .ok (.aload_n 0, 1) := by decide +kernel
theorem dX6_run_26 : decode cX6_run 26 = .ok (.getfield 29, 3) := by decide +kernel
theorem dX6_run_29 : decode cX6_run 29 = .ok (.aload_n 0, 1) := by decide +kernel
theorem dX6_run_30 : decode cX6_run 30 = .ok (.getfield 19, 3) := by decide +kernel
theorem dX6_run_33 : decode cX6_run 33 = .ok (.invokevirtual 126, 3) := by decide +kernel
theorem dX6_run_36 : decode cX6_run 36 = .ok (.aload_n 0, 1) := by decide +kernel
theorem dX6_run_37 : decode cX6_run 37 = .ok (.getfield 19, 3) := by decide +kernel
theorem dX6_run_40 : decode cX6_run 40 = .ok (.aload_n 0, 1) := by decide +kernel
theorem dX6_run_41 : decode cX6_run 41 = .ok (.getfield 46, 3) := by decide +kernel
theorem dX6_run_44 : decode cX6_run 44 = .ok (.ldc 145, 2) := by decide +kernel
theorem dX6_run_46 : decode cX6_run 46 = .ok (.iload_n 1, 1) := by decide +kernel
theorem dX6_run_47 : decode cX6_run 47 = .ok (.invokevirtual 146, 3) := by decide +kernel
theorem dX6_run_50 : decode cX6_run 50 = .ok (.ireturn, 1) := by decide +kernel
theorem dX6_stop_0 : decode cX6_stop 0 = .ok (.aload_n 0, 1) := by decide +kernel
theorem dX6_stop_1 : decode cX6_stop 1 = .ok (.getfield 19, 3) := by decide +kernel
theorem dX6_stop_4 : decode cX6_stop 4 = .ok (.invokevirtual 99, 3) := by decide +kernel
theorem dX6_stop_7 : decode cX6_stop 7 = .ok (.ifCond .ne 6, 3) := by decide +kernel
theorem dX6_stop_10 : decode cX6_stop 10 = .ok (.bipush (-3), 2) := by decide +kernel
theorem dX6_stop_12 : decode cX6_stop 12 = .ok (.ireturn, 1) := by decide +kernel
theorem dX6_stop_13 : decode cX6_stop 13 = .ok (.aload_n 0, 1) := by decide +kernel
theorem dX6_stop_14 : decode cX6_stop 14 = .ok (.getfield 29, 3) := by decide +kernel
theorem dX6_stop_17 : decode cX6_stop 17 = .ok (.aload_n 0, 1) := by decide +kernel
theorem dX6_stop_18 : decode cX6_stop 18 = .ok (.getfield 19, 3) := by decide +kernel
theorem dX6_stop_21 : decode cX6_stop 21 = .ok (.invokevirtual 126, 3) := by decide +kernel
theorem dX6_stop_24 : decode cX6_stop 24 = .ok (.aload_n 0, 1) := by decide +kernel
theorem dX6_stop_25 : decode cX6_stop 25 = .ok (.getfield 19, 3) := by decide +kernel
theorem dX6_stop_28 : decode cX6_stop 28 = .ok (.invokevirtual 151, 3) := by decide +kernel
theorem dX6_stop_31 : decode cX6_stop 31 = .ok (.ireturn, 1) := by decide +kernel
theorem dX6_removeItem_0 : decode cX6_removeItem 0 = .ok (.aload_n 0, 1) := by decide +kernel
theorem dX6_removeItem_1 : decode cX6_removeItem 1 = .ok (.getfield 19, 3) := by decide +kernel
theorem dX6_removeItem_4 : decode cX6_removeItem 4 = .ok (.iload_n 1, 1) := by decide +kernel
theorem dX6_removeItem_5 : decode cX6_removeItem 5 = .ok (.invokevirtual 86, 3) := by decide +kernel
theorem dX6_removeItem_8 : decode cX6_removeItem 8 = .ok (.ifCond .ne 5, 3) := by decide +kernel
theorem dX6_removeItem_11 : decode cX6_removeItem 11 = .ok (.iconst (-1), 1) := by decide +kernel
theorem dX6_removeItem_12 : decode cX6_removeItem 12 = .ok (.ireturn, 1) := by decide +kernel
theorem dX6_removeItem_13 : decode cX6_removeItem 13 = .ok (.iload_n 1, 1) := by decide +kernel
theorem dX6_removeItem_14 : decode cX6_removeItem 14 = .ok (.ifCond .ne 16, 3) := by decide +kernel
theorem dX6_removeItem_17 : decode cX6_removeItem 17 = .ok (.aload_n 0, 1) := by decide +kernel
theorem dX6_removeItem_18 : decode cX6_removeItem 18 = .ok (.getfield 19, 3) := by decide +kernel
theorem dX6_removeItem_21 : decode cX6_removeItem 21 = .ok (.invokevirtual 99, 3) := by decide +kernel
theorem dX6_removeItem_24 : decode cX6_removeItem 24 = .ok (.ifCond .eq 6, 3) := by decide +kernel
theorem dX6_removeItem_27 : decode cX6_removeItem 27 = .ok (.bipush (-3), 2) := by decide +kernel
theorem dX6_removeItem_29 : decode cX6_removeItem 29 = .ok (.ireturn, 1) := by decide +kernel
theorem dX6_removeItem_30 : decode cX6_removeItem 30 = .ok (.aload_n 0, 1) := by decide +kernel
theorem dX6_removeItem_31 : decode cX6_removeItem 31 = .ok (.getfield 29, 3) := by decide +kernel
theorem dX6_removeItem_34 : decode cX6_removeItem 34 = .ok (.aload_n 0, 1) := by decide +kernel
theorem dX6_removeItem_35 : decode cX6_removeItem 35 = .ok (.getfield 19, 3) := by decide +kernel
theorem dX6_removeItem_38 : decode cX6_removeItem 38 = .ok (.invokevirtual 126, 3) := by decide +kernel
theorem dX6_removeItem_41 : decode cX6_removeItem 41 = .ok (.aload_n 0, 1) := by decide +kernel
theorem dX6_removeItem_42 : decode cX6_removeItem 42 = .ok (.getfield 19, 3) := by decide +kernel
theorem dX6_removeItem_45 : decode cX6_removeItem 45 = .ok (.iload_n 1, 1) := by decide +kernel
theorem dX6_removeItem_46 : decode cX6_removeItem 46 = .ok (.invokevirtual 155, 3) := by decide +kernel
theorem dX6_removeItem_49 : decode cX6_removeItem 49 = .ok (.aload_n 0, 1) := by decide +kernel
theorem dX6_removeItem_50 : decode cX6_removeItem 50 = .ok (.getfield 19, 3) := by decide +kernel
theorem dX6_removeItem_53 : decode cX6_removeItem 53 = .ok (.getfield 73, 3) := by decide +kernel
theorem dX6_removeItem_56 : decode cX6_removeItem 56 = .ok (.ireturn, 1) := by decide +kernel
theorem dX6_undo_0 : decode cX6_undo 0 = .ok (.aload_n 0, 1) := by decide +kernel
theorem dX6_undo_1 : decode cX6_undo 1 = .ok (.getfield 29, 3) := by decide +kernel
theorem dX6_undo_4 : decode cX6_undo 4 = .ok (.aload_n 0, 1) := by decide +kernel
theorem dX6_undo_5 : decode cX6_undo 5 = .ok (.getfield 19, 3) := by decide +kernel
theorem dX6_undo_8 : decode cX6_undo 8 = .ok (.invokevirtual 159, 3) := by decide +kernel
theorem dX6_undo_11 : decode cX6_undo 11 = .ok (.ifCond .eq 13, 3) := by decide +kernel
theorem dX6_undo_14 : decode cX6_undo 14 = .ok (.aload_n 0, 1) := by decide +kernel
theorem dX6_undo_15 : decode cX6_undo 15 = .ok (.getfield 29, 3) := by decide +kernel
theorem dX6_undo_18 : decode cX6_undo 18 = .ok (.getfield 163, 3) := by decide +kernel
theorem dX6_undo_21 : decode cX6_undo 21 = .ok (.goto 5, 3) := by decide +kernel
theorem dX6_undo_24 : decode cX6_undo 24 = .ok (.bipush (-3), 2) := by decide +kernel
theorem dX6_undo_26 : decode cX6_undo 26 = .ok (.ireturn, 1) := by decide +kernel
theorem dX6_ticksLeft_0 : decode cX6_ticksLeft 0 = .ok (.aload_n 0, 1) := by decide +kernel
theorem dX6_ticksLeft_1 : decode cX6_ticksLeft 1 = .ok (.getfield 23, 3) := by decide +kernel
theorem dX6_ticksLeft_4 : decode cX6_ticksLeft 4 = .ok (.aload_n 0, 1) := by decide +kernel
theorem dX6_ticksLeft_5 : decode cX6_ticksLeft 5 = .ok (.getfield 19, 3) := by decide +kernel
theorem dX6_ticksLeft_8 : decode cX6_ticksLeft 8 = .ok (.invokevirtual 62, 3) := by decide +kernel
theorem dX6_ticksLeft_11 : decode cX6_ticksLeft 11 = .ok (.aload_n 0, 1) := by decide +kernel
theorem dX6_ticksLeft_12 : decode cX6_ticksLeft 12 = .ok (.getfield 23, 3) := by decide +kernel
theorem dX6_ticksLeft_15 : decode cX6_ticksLeft 15 = .ok (.aload_n 0, 1) := by decide +kernel
theorem dX6_ticksLeft_16 : decode cX6_ticksLeft 16 = .ok (.getfield 46, 3) := by decide +kernel
theorem dX6_ticksLeft_19 : decode cX6_ticksLeft 19 = .ok (.ldc 145, 2) := by decide +kernel
theorem dX6_ticksLeft_21 : decode cX6_ticksLeft 21 = .ok (.ldc 145, 2) := by decide +kernel
theorem dX6_ticksLeft_23 : decode cX6_ticksLeft 23 = .ok (.invokevirtual 146, 3) := by decide +kernel
theorem dX6_ticksLeft_26 : decode cX6_ticksLeft 26 = .ok (.pop, 1) := by decide +kernel
theorem dX6_ticksLeft_27 : decode cX6_ticksLeft 27 = .ok (.aload_n 0, 1) := by decide +kernel
theorem dX6_ticksLeft_28 : decode cX6_ticksLeft 28 = .ok (.getfield 23, 3) := by decide +kernel
theorem dX6_ticksLeft_31 : decode cX6_ticksLeft 31 = .ok (.getfield 83, 3) := by decide +kernel
theorem dX6_ticksLeft_34 : decode cX6_ticksLeft 34 = .ok (.aload_n 0, 1) := by decide +kernel
theorem dX6_ticksLeft_35 : decode cX6_ticksLeft 35 = .ok (.getfield 19, 3) := by decide +kernel
theorem dX6_ticksLeft_38 : decode cX6_ticksLeft 38 = .ok (.getfield 83, 3) := by decide +kernel
theorem dX6_ticksLeft_41 : decode cX6_ticksLeft 41 = .ok (.isub, 1) := by decide +kernel
theorem dX6_ticksLeft_42 : decode cX6_ticksLeft 42 = .ok (.ireturn, 1) := by decide +kernel
theorem dX6_moveTicks_0 : decode cX6_moveTicks 0 = .ok (.iload_n 1, 1) := by decide +kernel
theorem dX6_moveTicks_1 : decode cX6_moveTicks 1 = .ok (.sipush 999, 3) := by decide +kernel
theorem dX6_moveTicks_4 : decode cX6_moveTicks 4 = .ok (.invokestatic 122, 3) := by decide +kernel
theorem dX6_moveTicks_7 : decode cX6_moveTicks 7 = .ok (.ifCond .eq 14, 3) := by decide +kernel
theorem dX6_moveTicks_10 : decode cX6_moveTicks 10 = .ok (.aload_n 0, 1) := by decide +kernel
theorem dX6_moveTicks_11 : decode cX6_moveTicks 11 = .ok (.invokevirtual 106, 3) := by decide +kernel
theorem dX6_moveTicks_14 : decode cX6_moveTicks 14 = .ok (.iload_n 1, 1) := by decide +kernel
theorem dX6_moveTicks_15 : decode cX6_moveTicks 15 = .ok (.invokevirtual 164, 3) := by decide +kernel
theorem dX6_moveTicks_18 : decode cX6_moveTicks 18 = .ok (.goto 5, 3) := by decide +kernel
theorem dX6_moveTicks_21 : decode cX6_moveTicks 21 = .ok (.bipush (-2), 2) := by decide +kernel
theorem dX6_moveTicks_23 : decode cX6_moveTicks 23 = .ok (.ireturn, 1) := by decide +kernel
theorem dX6_positionAfter_0 : decode cX6_positionAfter 0 = .ok (.iload_n 1, 1) := by decide +kernel
theorem dX6_positionAfter_1 : decode cX6_positionAfter 1 = .ok (.invokestatic 76, 3) := by decide +kernel
theorem dX6_positionAfter_4 : decode cX6_positionAfter 4 = .ok (.ifCond .ne 5, 3) := by decide +kernel
theorem dX6_positionAfter_7 : decode cX6_positionAfter 7 = .ok (.iconst (-1), 1) := by decide +kernel
theorem dX6_positionAfter_8 : decode cX6_positionAfter 8 = .ok (.ireturn, 1) := by decide +kernel
theorem dX6_positionAfter_9 : decode cX6_positionAfter 9 = .ok (.iload_n 2, 1) := by decide +kernel
theorem dX6_positionAfter_10 : decode cX6_positionAfter 10 = .ok (.ifCond .lt 9, 3) := by decide +kernel
theorem dX6_positionAfter_13 : decode cX6_positionAfter 13 = .ok (.iload_n 2, 1) := by decide +kernel
theorem dX6_positionAfter_14 : decode cX6_positionAfter 14 = .ok (.ldc 150, 2) := by decide +kernel
theorem dX6_positionAfter_16 : decode cX6_positionAfter 16 = .ok (.if_icmp .le 6, 3) := by decide +kernel
theorem dX6_positionAfter_19 : decode cX6_positionAfter 19 = .ok (.bipush (-2), 2) := by decide +kernel
theorem dX6_positionAfter_21 : decode cX6_positionAfter 21 = .ok (.ireturn, 1) := by decide +kernel
theorem dX6_positionAfter_22 : decode cX6_positionAfter 22 = .ok (.aload_n 0, 1) := by decide +kernel
theorem dX6_positionAfter_23 : decode cX6_positionAfter 23 = .ok (.getfield 23, 3) := by decide +kernel
theorem dX6_positionAfter_26 : decode cX6_positionAfter 26 = .ok (.aload_n 0, 1) := by decide +kernel
theorem dX6_positionAfter_27 : decode cX6_positionAfter 27 = .ok (.getfield 19, 3) := by decide +kernel
theorem dX6_positionAfter_30 : decode cX6_positionAfter 30 = .ok (.invokevirtual 62, 3) := by decide +kernel
theorem dX6_positionAfter_33 : decode cX6_positionAfter 33 = .ok (.aload_n 0, 1) := by decide +kernel
theorem dX6_positionAfter_34 : decode cX6_positionAfter 34 = .ok (.getfield 23, 3) := by decide +kernel
theorem dX6_positionAfter_37 : decode cX6_positionAfter 37 = .ok (.aload_n 0, 1) := by decide +kernel
theorem dX6_positionAfter_38 : decode cX6_positionAfter 38 = .ok (.getfield 46, 3) := by decide +kernel
theorem dX6_positionAfter_41 : decode cX6_positionAfter 41 = .ok (.ldc 145, 2) := by decide +kernel
theorem dX6_positionAfter_43 : decode cX6_positionAfter 43 = .ok (.iload_n 2, 1) := by decide +kernel
theorem dX6_positionAfter_44 : decode cX6_positionAfter 44 = .ok (.invokevirtual 146, 3) := by decide +kernel
theorem dX6_positionAfter_47 : decode cX6_positionAfter 47 = .ok (.pop, 1) := by decide +kernel
theorem dX6_positionAfter_48 : decode cX6_positionAfter 48 = .ok (.aload_n 0, 1) := by decide +kernel
theorem dX6_positionAfter_49 : decode cX6_positionAfter 49 = .ok (.getfield 23, 3) := by decide +kernel
theorem dX6_positionAfter_52 : decode cX6_positionAfter 52 = .ok (.iload_n 1, 1) := by decide +kernel
theorem dX6_positionAfter_53 : decode cX6_positionAfter 53 = .ok (.invokevirtual 79, 3) := by decide +kernel
theorem dX6_positionAfter_56 : decode cX6_positionAfter 56 = .ok (.ireturn, 1) := by decide +kernel
theorem dX6_leastAcceleration_0 : decode cX6_leastAcceleration 0 = .ok (.iload_n 1, 1) := by decide +kernel
theorem dX6_leastAcceleration_1 : decode cX6_leastAcceleration 1 = .ok (.sipush 999, 3) := by decide +kernel
theorem dX6_leastAcceleration_4 : decode cX6_leastAcceleration 4 = .ok (.invokestatic 122, 3) := by decide +kernel
theorem dX6_leastAcceleration_7 : decode cX6_leastAcceleration 7 = .ok (.ifCond .eq 12, 3) := by decide +kernel
theorem dX6_leastAcceleration_10 : decode cX6_leastAcceleration 10 = .ok (.iload_n 2, 1) := by decide +kernel
theorem dX6_leastAcceleration_11 : decode cX6_leastAcceleration 11 = .ok (.ldc 150, 2) := by decide +kernel
theorem dX6_leastAcceleration_13 : decode cX6_leastAcceleration 13 = .ok (.invokestatic 122, 3) := by decide +kernel
theorem dX6_leastAcceleration_16 : decode cX6_leastAcceleration 16 = .ok (.ifCond .ne 6, 3) := by decide +kernel
theorem dX6_leastAcceleration_19 : decode cX6_leastAcceleration 19 = .ok (.bipush (-2), 2) := by decide +kernel
theorem dX6_leastAcceleration_21 : decode cX6_leastAcceleration 21 = .ok (.ireturn, 1) := by decide +kernel
theorem dX6_leastAcceleration_22 : decode cX6_leastAcceleration 22 = .ok (.aload_n 0, 1) := by decide +kernel
theorem dX6_leastAcceleration_23 : decode cX6_leastAcceleration 23 = .ok (.getfield 19, 3) := by decide +kernel
theorem dX6_leastAcceleration_26 : decode cX6_leastAcceleration 26 = .ok (.getfield 132, 3) := by decide +kernel
theorem dX6_leastAcceleration_29 : decode cX6_leastAcceleration 29 = .ok (.invokestatic 167, 3) := by decide +kernel
theorem dX6_leastAcceleration_32 : decode cX6_leastAcceleration 32 = .ok (.istore_n 3, 1) := by decide +kernel
theorem dX6_leastAcceleration_33 : decode cX6_leastAcceleration 33 = .ok (.iload_n 1, 1) := by decide +kernel
theorem dX6_leastAcceleration_34 : decode cX6_leastAcceleration 34 = .ok (.iload_n 3, 1) := by decide +kernel
theorem dX6_leastAcceleration_35 : decode cX6_leastAcceleration 35 = .ok (.imul, 1) := by decide +kernel
theorem dX6_leastAcceleration_36 : decode cX6_leastAcceleration 36 = .ok (.iload_n 2, 1) := by decide +kernel
theorem dX6_leastAcceleration_37 : decode cX6_leastAcceleration 37 = .ok (.if_icmp .le 6, 3) := by decide +kernel
theorem dX6_leastAcceleration_40 : decode cX6_leastAcceleration 40 = .ok (.bipush (-9), 2) := by decide +kernel
theorem dX6_leastAcceleration_42 : decode cX6_leastAcceleration 42 = .ok (.ireturn, 1) := by decide +kernel
theorem dX6_leastAcceleration_43 : decode cX6_leastAcceleration 43 = .ok (.iload_n 3, 1) := by decide +kernel
theorem dX6_leastAcceleration_44 : decode cX6_leastAcceleration 44 = .ok (.iload_n 1, 1) := by decide +kernel
theorem dX6_leastAcceleration_45 : decode cX6_leastAcceleration 45 = .ok (.iload_n 2, 1) := by decide +kernel
theorem dX6_leastAcceleration_46 : decode cX6_leastAcceleration 46 = .ok (.invokestatic 172, 3) := by decide +kernel
theorem dX6_leastAcceleration_49 : decode cX6_leastAcceleration 49 = .ok (.istore 4, 2) := by decide +kernel
theorem dX6_leastAcceleration_51 : decode cX6_leastAcceleration 51 = .ok (.iload 4, 2) := by decide +kernel
theorem dX6_leastAcceleration_53 : decode cX6_leastAcceleration 53 = .ok (.sipush 999, 3) := by decide +kernel
theorem dX6_leastAcceleration_56 : decode cX6_leastAcceleration 56 = .ok (.if_icmp .gt 23, 3) := by decide +kernel
theorem dX6_leastAcceleration_59 : decode cX6_leastAcceleration 59 = .ok (.iload 4, 2) := by decide +kernel
theorem dX6_leastAcceleration_61 : decode cX6_leastAcceleration 61 = .ok (.iload_n 3, 1) := by decide +kernel
theorem dX6_leastAcceleration_62 : decode cX6_leastAcceleration 62 = .ok (.iload_n 1, 1) := by decide +kernel
theorem dX6_leastAcceleration_63 : decode cX6_leastAcceleration 63 = .ok (.invokestatic 176, 3) := by decide +kernel
theorem dX6_leastAcceleration_66 : decode cX6_leastAcceleration 66 = .ok (.iload_n 2, 1) := by decide +kernel
theorem dX6_leastAcceleration_67 : decode cX6_leastAcceleration 67 = .ok (.if_icmp .gt 6, 3) := by decide +kernel
theorem dX6_leastAcceleration_70 : decode cX6_leastAcceleration 70 = .ok (.iload 4, 2) := by decide +kernel
theorem dX6_leastAcceleration_72 : decode cX6_leastAcceleration 72 = .ok (.ireturn, 1) := by decide +kernel
theorem dX6_leastAcceleration_73 : decode cX6_leastAcceleration 73 = .ok (.iinc 4 1, 3) := by decide +kernel
theorem dX6_leastAcceleration_76 : decode cX6_leastAcceleration 76 = .ok (.goto (-25), 3) := by decide +kernel
theorem dX6_leastAcceleration_79 : decode cX6_leastAcceleration 79 = .ok (.bipush (-9), 2) := by decide +kernel
theorem dX6_leastAcceleration_81 : decode cX6_leastAcceleration 81 = .ok (.ireturn, 1) := by decide +kernel
theorem dX6_greatestLength_0 : decode cX6_greatestLength 0 = .ok (.iload_n 1, 1) := by decide +kernel
theorem dX6_greatestLength_1 : decode cX6_greatestLength 1 = .ok (.ldc 150, 2) := by decide +kernel
theorem dX6_greatestLength_3 : decode cX6_greatestLength 3 = .ok (.invokestatic 122, 3) := by decide +kernel
theorem dX6_greatestLength_6 : decode cX6_greatestLength 6 = .ok (.ifCond .ne 6, 3) := by decide +kernel
theorem dX6_greatestLength_9 : decode cX6_greatestLength 9 = .ok (.bipush (-2), 2) := by decide +kernel
theorem dX6_greatestLength_11 : decode cX6_greatestLength 11 = .ok (.ireturn, 1) := by decide +kernel
theorem dX6_greatestLength_12 : decode cX6_greatestLength 12 = .ok (.aload_n 0, 1) := by decide +kernel
theorem dX6_greatestLength_13 : decode cX6_greatestLength 13 = .ok (.invokevirtual 106, 3) := by decide +kernel
theorem dX6_greatestLength_16 : decode cX6_greatestLength 16 = .ok (.astore_n 2, 1) := by decide +kernel
theorem dX6_greatestLength_17 : decode cX6_greatestLength 17 = .ok (.iconst 0, 1) := by decide +kernel
theorem dX6_greatestLength_18 : decode cX6_greatestLength 18 = .ok (.istore_n 3, 1) := by decide +kernel
theorem dX6_greatestLength_19 : decode cX6_greatestLength 19 = .ok (.sipush 1000, 3) := by decide +kernel
theorem dX6_greatestLength_22 : decode cX6_greatestLength 22 = .ok (.istore 4, 2) := by decide +kernel
theorem dX6_greatestLength_24 : decode cX6_greatestLength 24 = .ok (.iconst 0, 1) := by decide +kernel
theorem dX6_greatestLength_25 : decode cX6_greatestLength 25 = .ok (.istore 5, 2) := by decide +kernel
theorem dX6_greatestLength_27 : decode cX6_greatestLength 27 = .ok (.iload 5, 2) := by decide +kernel
theorem dX6_greatestLength_29 : decode cX6_greatestLength 29 = .ok (.sipush 999, 3) := by decide +kernel
theorem dX6_greatestLength_32 : decode cX6_greatestLength 32 = .ok (.if_icmp .ge 45, 3) := by decide +kernel
theorem dX6_greatestLength_35 : decode cX6_greatestLength 35 = .ok (.iload 4, 2) := by decide +kernel
theorem dX6_greatestLength_37 : decode cX6_greatestLength 37 = .ok (.iload_n 3, 1) := by decide +kernel
theorem dX6_greatestLength_38 : decode cX6_greatestLength 38 = .ok (.isub, 1) := by decide +kernel
theorem dX6_greatestLength_39 : decode cX6_greatestLength 39 = .ok (.iconst 1, 1) := by decide +kernel
theorem dX6_greatestLength_40 : decode cX6_greatestLength 40 = .ok (.if_icmp .le 37, 3) := by decide +kernel
theorem dX6_greatestLength_43 : decode cX6_greatestLength 43 = .ok (.iload_n 3, 1) := by decide +kernel
theorem dX6_greatestLength_44 : decode cX6_greatestLength 44 = .ok (.iload 4, 2) := by decide +kernel
theorem dX6_greatestLength_46 : decode cX6_greatestLength 46 = .ok (.iadd, 1) := by decide +kernel
theorem dX6_greatestLength_47 : decode cX6_greatestLength 47 = .ok (.iconst 2, 1) := by decide +kernel
theorem dX6_greatestLength_48 : decode cX6_greatestLength 48 = .ok (.idiv, 1) := by decide +kernel
theorem dX6_greatestLength_49 : decode cX6_greatestLength 49 = .ok (.istore 6, 2) := by decide +kernel
theorem dX6_greatestLength_51 : decode cX6_greatestLength 51 = .ok (.aload_n 2, 1) := by decide +kernel
theorem dX6_greatestLength_52 : decode cX6_greatestLength 52 = .ok (.iload 6, 2) := by decide +kernel
theorem dX6_greatestLength_54 : decode cX6_greatestLength 54 = .ok (.invokevirtual 164, 3) := by decide +kernel
theorem dX6_greatestLength_57 : decode cX6_greatestLength 57 = .ok (.iload_n 1, 1) := by decide +kernel
theorem dX6_greatestLength_58 : decode cX6_greatestLength 58 = .ok (.if_icmp .gt 9, 3) := by decide +kernel
theorem dX6_greatestLength_61 : decode cX6_greatestLength 61 = .ok (.iload 6, 2) := by decide +kernel
theorem dX6_greatestLength_63 : decode cX6_greatestLength 63 = .ok (.istore_n 3, 1) := by decide +kernel
theorem dX6_greatestLength_64 : decode cX6_greatestLength 64 = .ok (.goto 7, 3) := by decide +kernel
theorem dX6_greatestLength_67 : decode cX6_greatestLength 67 = .ok (.iload 6, 2) := by decide +kernel
theorem dX6_greatestLength_69 : decode cX6_greatestLength 69 = .ok (.istore 4, 2) := by decide +kernel
theorem dX6_greatestLength_71 : decode cX6_greatestLength 71 = .ok (.iinc 5 1, 3) := by decide +kernel
theorem dX6_greatestLength_74 : decode cX6_greatestLength 74 = .ok (.goto (-47), 3) := by decide +kernel
theorem dX6_greatestLength_77 : decode cX6_greatestLength 77 = .ok (.iload_n 3, 1) := by decide +kernel
theorem dX6_greatestLength_78 : decode cX6_greatestLength 78 = .ok (.ifCond .le 7, 3) := by decide +kernel
theorem dX6_greatestLength_81 : decode cX6_greatestLength 81 = .ok (.iload_n 3, 1) := by decide +kernel
theorem dX6_greatestLength_82 : decode cX6_greatestLength 82 = .ok (.goto 5, 3) := by decide +kernel
theorem dX6_greatestLength_85 : decode cX6_greatestLength 85 = .ok (.bipush (-9), 2) := by decide +kernel
theorem dX6_greatestLength_87 : decode cX6_greatestLength 87 = .ok (.ireturn, 1) := by decide +kernel
theorem dX6_runScript_0 : decode cX6_runScript 0 = .ok (.iload_n 1, 1) := by decide +kernel
theorem dX6_runScript_1 : decode cX6_runScript 1 = .ok (.iconst 4, 1) := by decide +kernel
theorem dX6_runScript_2 : decode cX6_runScript 2 = .ok (.invokestatic 122, 3) := by decide +kernel
theorem dX6_runScript_5 : decode cX6_runScript 5 = .ok (.ifCond .eq 9, 3) := by decide +kernel
theorem dX6_runScript_8 : decode cX6_runScript 8 = .ok (.lload_n 2, 1) := by decide +kernel
theorem dX6_runScript_9 : decode cX6_runScript 9 = .ok (.lconst 0, 1) := by decide +kernel
theorem dX6_runScript_10 : decode cX6_runScript 10 = .ok (.lcmp, 1) := by decide +kernel
theorem dX6_runScript_11 : decode cX6_runScript 11 = .ok (.ifCond .ge 6, 3) := by decide +kernel
theorem dX6_runScript_14 : decode cX6_runScript 14 = .ok (.bipush (-2), 2) := by decide +kernel
theorem dX6_runScript_16 : decode cX6_runScript 16 = .ok (.ireturn, 1) := by decide +kernel
theorem dX6_runScript_17 : decode cX6_runScript 17 = .ok (.lconst 1, 1) := by decide +kernel
theorem dX6_runScript_18 : decode cX6_runScript 18 = .ok (.lstore 4, 2) := by decide +kernel
theorem dX6_runScript_20 : decode cX6_runScript 20 = .ok (.iconst 0, 1) := by decide +kernel
theorem dX6_runScript_21 : decode cX6_runScript 21 = .ok (.istore 6, 2) := by decide +kernel
theorem dX6_runScript_23 : decode cX6_runScript 23 = .ok (.iload 6, 2) := by decide +kernel
theorem dX6_runScript_25 : decode cX6_runScript 25 = .ok (.iload_n 1, 1) := by decide +kernel
theorem dX6_runScript_26 : decode cX6_runScript 26 = .ok (.if_icmp .ge 17, 3) := by decide +kernel
theorem dX6_runScript_29 : decode cX6_runScript 29 = .ok (.lload 4, 2) := by decide +kernel
theorem dX6_runScript_31 : decode cX6_runScript 31 = .ok (.ldc2_w 178, 3) := by decide +kernel
theorem dX6_runScript_34 : decode cX6_runScript 34 = .ok (.lmul, 1) := by decide +kernel
theorem dX6_runScript_35 : decode cX6_runScript 35 = .ok (.lstore 4, 2) := by decide +kernel
theorem dX6_runScript_37 : decode cX6_runScript 37 = .ok (.iinc 6 1, 3) := by decide +kernel
theorem dX6_runScript_40 : decode cX6_runScript 40 = .ok (.goto (-17), 3) := by decide +kernel
theorem dX6_runScript_43 : decode cX6_runScript 43 = .ok (.lload_n 2, 1) := by decide +kernel
theorem dX6_runScript_44 : decode cX6_runScript 44 = .ok (.lload 4, 2) := by decide +kernel
theorem dX6_runScript_46 : decode cX6_runScript 46 = .ok (.lcmp, 1) := by decide +kernel
theorem dX6_runScript_47 : decode cX6_runScript 47 = .ok (.ifCond .lt 6, 3) := by decide +kernel
theorem dX6_runScript_50 : decode cX6_runScript 50 = .ok (.bipush (-2), 2) := by decide +kernel
theorem dX6_runScript_52 : decode cX6_runScript 52 = .ok (.ireturn, 1) := by decide +kernel
theorem dX6_runScript_53 : decode cX6_runScript 53 = .ok (.aload_n 0, 1) := by decide +kernel
theorem dX6_runScript_54 : decode cX6_runScript 54 = .ok (.getfield 23, 3) := by decide +kernel
theorem dX6_runScript_57 : decode cX6_runScript 57 = .ok (.aload_n 0, 1) := by decide +kernel
theorem dX6_runScript_58 : decode cX6_runScript 58 = .ok (.getfield 19, 3) := by decide +kernel
theorem dX6_runScript_61 : decode cX6_runScript 61 = .ok (.invokevirtual 62, 3) := by decide +kernel
theorem dX6_runScript_64 : decode cX6_runScript 64 = .ok (.iconst 0, 1) := by decide +kernel
theorem dX6_runScript_65 : decode cX6_runScript 65 = .ok (.istore 6, 2) := by decide +kernel
theorem dX6_runScript_67 : decode cX6_runScript 67 = .ok (.iload 6, 2) := by decide +kernel
theorem dX6_runScript_69 : decode cX6_runScript 69 = .ok (.iload_n 1, 1) := by decide +kernel
theorem dX6_runScript_70 : decode cX6_runScript 70 = .ok (.if_icmp .ge 47, 3) := by decide +kernel
theorem dX6_runScript_73 : decode cX6_runScript 73 = .ok (.lload 4, 2) := by decide +kernel
theorem dX6_runScript_75 : decode cX6_runScript 75 = .ok (.lconst 1, 1) := by decide +kernel
theorem dX6_runScript_76 : decode cX6_runScript 76 = .ok (.lcmp, 1) := by decide +kernel
theorem dX6_runScript_77 : decode cX6_runScript 77 = .ok (.ifCond .le 40, 3) := by decide +kernel
theorem dX6_runScript_80 : decode cX6_runScript 80 = .ok (.lload 4, 2) := by decide +kernel
theorem dX6_runScript_82 : decode cX6_runScript 82 = .ok (.ldc2_w 178, 3) := by decide +kernel
theorem dX6_runScript_85 : decode cX6_runScript 85 = .ok (.ldiv, 1) := by decide +kernel
theorem dX6_runScript_86 : decode cX6_runScript 86 = .ok (.lstore 4, 2) := by decide +kernel
theorem dX6_runScript_88 : decode cX6_runScript 88 = .ok (.aload_n 0, 1) := by decide +kernel
theorem dX6_runScript_89 : decode cX6_runScript 89 = .ok (.lload_n 2, 1) := by decide +kernel
theorem dX6_runScript_90 : decode cX6_runScript 90 = .ok (.lload 4, 2) := by decide +kernel
theorem dX6_runScript_92 : decode cX6_runScript 92 = .ok (.lconst 1, 1) := by decide +kernel
theorem dX6_runScript_93 : decode cX6_runScript 93 = .ok (.invokestatic 180, 3) := by decide +kernel
theorem dX6_runScript_96 : decode cX6_runScript 96 = .ok (.ldiv, 1) := by decide +kernel
theorem dX6_runScript_97 : decode cX6_runScript 97 = .ok (.ldc2_w 178, 3) := by decide +kernel
theorem dX6_runScript_100 : decode cX6_runScript 100 = .ok (.lrem, 1) := by decide +kernel
theorem dX6_runScript_101 : decode cX6_runScript 101 = .ok (.l2i, 1) := by decide +kernel
theorem dX6_runScript_102 : decode cX6_runScript 102 = .ok (.invokevirtual 186, 3) := by decide +kernel
theorem dX6_runScript_105 : decode cX6_runScript 105 = .ok (.ifCond .ne 6, 3) := by decide +kernel
theorem dX6_runScript_108 : decode cX6_runScript 108 = .ok (.iload 6, 2) := by decide +kernel
theorem dX6_runScript_110 : decode cX6_runScript 110 = .ok (.ireturn, 1) := by decide +kernel
theorem dX6_runScript_111 : decode cX6_runScript 111 = .ok (.iinc 6 1, 3) := by decide +kernel
theorem dX6_runScript_114 : decode cX6_runScript 114 = .ok (.goto (-47), 3) := by decide +kernel
theorem dX6_runScript_117 : decode cX6_runScript 117 = .ok (.bipush (-9), 2) := by decide +kernel
theorem dX6_runScript_119 : decode cX6_runScript 119 = .ok (.ireturn, 1) := by decide +kernel
theorem dX6_randomSpeeds_0 : decode cX6_randomSpeeds 0 = .ok (.iload_n 3, 1) := by decide +kernel
theorem dX6_randomSpeeds_1 : decode cX6_randomSpeeds 1 = .ok (.sipush 500, 3) := by decide +kernel
theorem dX6_randomSpeeds_4 : decode cX6_randomSpeeds 4 = .ok (.invokestatic 122, 3) := by decide +kernel
theorem dX6_randomSpeeds_7 : decode cX6_randomSpeeds 7 = .ok (.ifCond .ne 6, 3) := by decide +kernel
theorem dX6_randomSpeeds_10 : decode cX6_randomSpeeds 10 = .ok (.bipush (-2), 2) := by decide +kernel
theorem dX6_randomSpeeds_12 : decode cX6_randomSpeeds 12 = .ok (.ireturn, 1) := by decide +kernel
theorem dX6_randomSpeeds_13 : decode cX6_randomSpeeds 13 = .ok (.aload_n 0, 1) := by decide +kernel
theorem dX6_randomSpeeds_14 : decode cX6_randomSpeeds 14 = .ok (.getfield 23, 3) := by decide +kernel
theorem dX6_randomSpeeds_17 : decode cX6_randomSpeeds 17 = .ok (.aload_n 0, 1) := by decide +kernel
theorem dX6_randomSpeeds_18 : decode cX6_randomSpeeds 18 = .ok (.getfield 19, 3) := by decide +kernel
theorem dX6_randomSpeeds_21 : decode cX6_randomSpeeds 21 = .ok (.invokevirtual 62, 3) := by decide +kernel
theorem dX6_randomSpeeds_24 : decode cX6_randomSpeeds 24 = .ok (.lload_n 1, 1) := by decide +kernel
theorem dX6_randomSpeeds_25 : decode cX6_randomSpeeds 25 = .ok (.lstore 4, 2) := by decide +kernel
theorem dX6_randomSpeeds_27 : decode cX6_randomSpeeds 27 = .ok (.iconst 0, 1) := by decide +kernel
theorem dX6_randomSpeeds_28 : decode cX6_randomSpeeds 28 = .ok (.istore 6, 2) := by decide +kernel
theorem dX6_randomSpeeds_30 : decode cX6_randomSpeeds 30 = .ok (.iload 6, 2) := by decide +kernel
theorem dX6_randomSpeeds_32 : decode cX6_randomSpeeds 32 = .ok (.iload_n 3, 1) := by decide +kernel
theorem dX6_randomSpeeds_33 : decode cX6_randomSpeeds 33 = .ok (.if_icmp .ge 78, 3) := by decide +kernel
theorem dX6_randomSpeeds_36 : decode cX6_randomSpeeds 36 = .ok (.aload_n 0, 1) := by decide +kernel
theorem dX6_randomSpeeds_37 : decode cX6_randomSpeeds 37 = .ok (.getfield 23, 3) := by decide +kernel
theorem dX6_randomSpeeds_40 : decode cX6_randomSpeeds 40 = .ok (.getfield 73, 3) := by decide +kernel
theorem dX6_randomSpeeds_43 : decode cX6_randomSpeeds 43 = .ok (.ifCond .le 68, 3) := by decide +kernel
theorem dX6_randomSpeeds_46 : decode cX6_randomSpeeds 46 = .ok (.lload 4, 2) := by decide +kernel
theorem dX6_randomSpeeds_48 : decode cX6_randomSpeeds 48 = .ok (.ldc2_w 189, 3) := by decide +kernel
theorem dX6_randomSpeeds_51 : decode cX6_randomSpeeds 51 = .ok (.lmul, 1) := by decide +kernel
theorem dX6_randomSpeeds_52 : decode cX6_randomSpeeds 52 = .ok (.ldc2_w 191, 3) := by decide +kernel
theorem dX6_randomSpeeds_55 : decode cX6_randomSpeeds 55 = .ok (.ladd, 1) := by decide +kernel
theorem dX6_randomSpeeds_56 : decode cX6_randomSpeeds 56 = .ok (.lstore 4, 2) := by decide +kernel
theorem dX6_randomSpeeds_58 : decode cX6_randomSpeeds 58 = .ok (.lload 4, 2) := by decide +kernel
theorem dX6_randomSpeeds_60 : decode cX6_randomSpeeds 60 = .ok (.bipush 33, 2) := by decide +kernel
theorem dX6_randomSpeeds_62 : decode cX6_randomSpeeds 62 = .ok (.lushr, 1) := by decide +kernel
theorem dX6_randomSpeeds_63 : decode cX6_randomSpeeds 63 = .ok (.l2i, 1) := by decide +kernel
theorem dX6_randomSpeeds_64 : decode cX6_randomSpeeds 64 = .ok (.istore 7, 2) := by decide +kernel
theorem dX6_randomSpeeds_66 : decode cX6_randomSpeeds 66 = .ok (.iload 7, 2) := by decide +kernel
theorem dX6_randomSpeeds_68 : decode cX6_randomSpeeds 68 = .ok (.iconst 4, 1) := by decide +kernel
theorem dX6_randomSpeeds_69 : decode cX6_randomSpeeds 69 = .ok (.irem, 1) := by decide +kernel
theorem dX6_randomSpeeds_70 : decode cX6_randomSpeeds 70 = .ok (.ifCond .ne 20, 3) := by decide +kernel
theorem dX6_randomSpeeds_73 : decode cX6_randomSpeeds 73 = .ok (.aload_n 0, 1) := by decide +kernel
theorem dX6_randomSpeeds_74 : decode cX6_randomSpeeds 74 = .ok (.getfield 23, 3) := by decide +kernel
theorem dX6_randomSpeeds_77 : decode cX6_randomSpeeds 77 = .ok (.iload 7, 2) := by decide +kernel
theorem dX6_randomSpeeds_79 : decode cX6_randomSpeeds 79 = .ok (.iconst 4, 1) := by decide +kernel
theorem dX6_randomSpeeds_80 : decode cX6_randomSpeeds 80 = .ok (.idiv, 1) := by decide +kernel
theorem dX6_randomSpeeds_81 : decode cX6_randomSpeeds 81 = .ok (.sipush 999, 3) := by decide +kernel
theorem dX6_randomSpeeds_84 : decode cX6_randomSpeeds 84 = .ok (.irem, 1) := by decide +kernel
theorem dX6_randomSpeeds_85 : decode cX6_randomSpeeds 85 = .ok (.iconst 1, 1) := by decide +kernel
theorem dX6_randomSpeeds_86 : decode cX6_randomSpeeds 86 = .ok (.iadd, 1) := by decide +kernel
theorem dX6_randomSpeeds_87 : decode cX6_randomSpeeds 87 = .ok (.putfield 132, 3) := by decide +kernel
theorem dX6_randomSpeeds_90 : decode cX6_randomSpeeds 90 = .ok (.aload_n 0, 1) := by decide +kernel
theorem dX6_randomSpeeds_91 : decode cX6_randomSpeeds 91 = .ok (.getfield 23, 3) := by decide +kernel
theorem dX6_randomSpeeds_94 : decode cX6_randomSpeeds 94 = .ok (.aload_n 0, 1) := by decide +kernel
theorem dX6_randomSpeeds_95 : decode cX6_randomSpeeds 95 = .ok (.getfield 46, 3) := by decide +kernel
theorem dX6_randomSpeeds_98 : decode cX6_randomSpeeds 98 = .ok (.iconst 1, 1) := by decide +kernel
theorem dX6_randomSpeeds_99 : decode cX6_randomSpeeds 99 = .ok (.ldc 145, 2) := by decide +kernel
theorem dX6_randomSpeeds_101 : decode cX6_randomSpeeds 101 = .ok (.invokevirtual 146, 3) := by decide +kernel
theorem dX6_randomSpeeds_104 : decode cX6_randomSpeeds 104 = .ok (.pop, 1) := by decide +kernel
theorem dX6_randomSpeeds_105 : decode cX6_randomSpeeds 105 = .ok (.iinc 6 1, 3) := by decide +kernel
theorem dX6_randomSpeeds_108 : decode cX6_randomSpeeds 108 = .ok (.goto (-78), 3) := by decide +kernel
theorem dX6_randomSpeeds_111 : decode cX6_randomSpeeds 111 = .ok (.aload_n 0, 1) := by decide +kernel
theorem dX6_randomSpeeds_112 : decode cX6_randomSpeeds 112 = .ok (.getfield 23, 3) := by decide +kernel
theorem dX6_randomSpeeds_115 : decode cX6_randomSpeeds 115 = .ok (.getfield 83, 3) := by decide +kernel
theorem dX6_randomSpeeds_118 : decode cX6_randomSpeeds 118 = .ok (.aload_n 0, 1) := by decide +kernel
theorem dX6_randomSpeeds_119 : decode cX6_randomSpeeds 119 = .ok (.getfield 19, 3) := by decide +kernel
theorem dX6_randomSpeeds_122 : decode cX6_randomSpeeds 122 = .ok (.getfield 83, 3) := by decide +kernel
theorem dX6_randomSpeeds_125 : decode cX6_randomSpeeds 125 = .ok (.isub, 1) := by decide +kernel
theorem dX6_randomSpeeds_126 : decode cX6_randomSpeeds 126 = .ok (.ireturn, 1) := by decide +kernel
theorem dX6_save_0 : decode cX6_save 0 = .ok (.iload_n 1, 1) := by decide +kernel
theorem dX6_save_1 : decode cX6_save 1 = .ok (.invokestatic 193, 3) := by decide +kernel
theorem dX6_save_4 : decode cX6_save 4 = .ok (.ifCond .ne 5, 3) := by decide +kernel
theorem dX6_save_7 : decode cX6_save 7 = .ok (.iconst (-1), 1) := by decide +kernel
theorem dX6_save_8 : decode cX6_save 8 = .ok (.ireturn, 1) := by decide +kernel
theorem dX6_save_9 : decode cX6_save 9 = .ok (.aload_n 0, 1) := by decide +kernel
theorem dX6_save_10 : decode cX6_save 10 = .ok (.iload_n 1, 1) := by decide +kernel
theorem dX6_save_11 : decode cX6_save 11 = .ok (.invokevirtual 196, 3) := by decide +kernel
theorem dX6_save_14 : decode cX6_save 14 = .ok (.astore_n 2, 1) := by decide +kernel
theorem dX6_save_15 : decode cX6_save 15 = .ok (.aload_n 2, 1) := by decide +kernel
theorem dX6_save_16 : decode cX6_save 16 = .ok (.getfield 200, 3) := by decide +kernel
theorem dX6_save_19 : decode cX6_save 19 = .ok (.aload_n 0, 1) := by decide +kernel
theorem dX6_save_20 : decode cX6_save 20 = .ok (.getfield 19, 3) := by decide +kernel
theorem dX6_save_23 : decode cX6_save 23 = .ok (.invokevirtual 62, 3) := by decide +kernel
theorem dX6_save_26 : decode cX6_save 26 = .ok (.aload_n 2, 1) := by decide +kernel
theorem dX6_save_27 : decode cX6_save 27 = .ok (.iconst 1, 1) := by decide +kernel
theorem dX6_save_28 : decode cX6_save 28 = .ok (.putfield 69, 3) := by decide +kernel
theorem dX6_save_31 : decode cX6_save 31 = .ok (.aload_n 0, 1) := by decide +kernel
theorem dX6_save_32 : decode cX6_save 32 = .ok (.getfield 19, 3) := by decide +kernel
theorem dX6_save_35 : decode cX6_save 35 = .ok (.getfield 73, 3) := by decide +kernel
theorem dX6_save_38 : decode cX6_save 38 = .ok (.ireturn, 1) := by decide +kernel
theorem dX6_restore_0 : decode cX6_restore 0 = .ok (.iload_n 1, 1) := by decide +kernel
theorem dX6_restore_1 : decode cX6_restore 1 = .ok (.invokestatic 193, 3) := by decide +kernel
theorem dX6_restore_4 : decode cX6_restore 4 = .ok (.ifCond .ne 5, 3) := by decide +kernel
theorem dX6_restore_7 : decode cX6_restore 7 = .ok (.iconst (-1), 1) := by decide +kernel
theorem dX6_restore_8 : decode cX6_restore 8 = .ok (.ireturn, 1) := by decide +kernel
theorem dX6_restore_9 : decode cX6_restore 9 = .ok (.aload_n 0, 1) := by decide +kernel
theorem dX6_restore_10 : decode cX6_restore 10 = .ok (.iload_n 1, 1) := by decide +kernel
theorem dX6_restore_11 : decode cX6_restore 11 = .ok (.invokevirtual 196, 3) := by decide +kernel
theorem dX6_restore_14 : decode cX6_restore 14 = .ok (.astore_n 2, 1) := by decide +kernel
theorem dX6_restore_15 : decode cX6_restore 15 = .ok (.aload_n 2, 1) := by decide +kernel
theorem dX6_restore_16 : decode cX6_restore 16 = .ok (.getfield 69, 3) := by decide +kernel
theorem dX6_restore_19 : decode cX6_restore 19 = .ok (.ifCond .ne 6, 3) := by decide +kernel
theorem dX6_restore_22 : decode cX6_restore 22 = .ok (.bipush (-3), 2) := by decide +kernel
theorem dX6_restore_24 : decode cX6_restore 24 = .ok (.ireturn, 1) := by decide +kernel
theorem dX6_restore_25 : decode cX6_restore 25 = .ok (.aload_n 0, 1) := by decide +kernel
theorem dX6_restore_26 : decode cX6_restore 26 = .ok (.getfield 19, 3) := by decide +kernel
theorem dX6_restore_29 : decode cX6_restore 29 = .ok (.aload_n 2, 1) := by decide +kernel
theorem dX6_restore_30 : decode cX6_restore 30 = .ok (.getfield 200, 3) := by decide +kernel
theorem dX6_restore_33 : decode cX6_restore 33 = .ok (.invokevirtual 62, 3) := by decide +kernel
theorem dX6_restore_36 : decode cX6_restore 36 = .ok (.aload_n 0, 1) := by decide +kernel
theorem dX6_restore_37 : decode cX6_restore 37 = .ok (.getfield 29, 3) := by decide +kernel
theorem dX6_restore_40 : decode cX6_restore 40 = .ok (.invokevirtual 66, 3) := by decide +kernel
theorem dX6_restore_43 : decode cX6_restore 43 = .ok (.aload_n 0, 1) := by decide +kernel
theorem dX6_restore_44 : decode cX6_restore 44 = .ok (.getfield 19, 3) := by decide +kernel
theorem dX6_restore_47 : decode cX6_restore 47 = .ok (.getfield 73, 3) := by decide +kernel
theorem dX6_restore_50 : decode cX6_restore 50 = .ok (.ireturn, 1) := by decide +kernel
theorem dX6_isAxis_0 : decode cX6_isAxis 0 = .ok (.iload_n 0, 1) := by decide +kernel
theorem dX6_isAxis_1 : decode cX6_isAxis 1 = .ok (.ifCond .eq 8, 3) := by decide +kernel
theorem dX6_isAxis_4 : decode cX6_isAxis 4 = .ok (.iload_n 0, 1) := by decide +kernel
theorem dX6_isAxis_5 : decode cX6_isAxis 5 = .ok (.iconst 1, 1) := by decide +kernel
theorem dX6_isAxis_6 : decode cX6_isAxis 6 = .ok (.if_icmp .ne 7, 3) := by decide +kernel
theorem dX6_isAxis_9 : decode cX6_isAxis 9 = .ok (.iconst 1, 1) := by decide +kernel
theorem dX6_isAxis_10 : decode cX6_isAxis 10 = .ok (.goto 4, 3) := by decide +kernel
theorem dX6_isAxis_13 : decode cX6_isAxis 13 = .ok (.iconst 0, 1) := by decide +kernel
theorem dX6_isAxis_14 : decode cX6_isAxis 14 = .ok (.ireturn, 1) := by decide +kernel
theorem dX6_isSlot_0 : decode cX6_isSlot 0 = .ok (.iload_n 0, 1) := by decide +kernel
theorem dX6_isSlot_1 : decode cX6_isSlot 1 = .ok (.ifCond .eq 8, 3) := by decide +kernel
theorem dX6_isSlot_4 : decode cX6_isSlot 4 = .ok (.iload_n 0, 1) := by decide +kernel
theorem dX6_isSlot_5 : decode cX6_isSlot 5 = .ok (.iconst 1, 1) := by decide +kernel
theorem dX6_isSlot_6 : decode cX6_isSlot 6 = .ok (.if_icmp .ne 7, 3) := by decide +kernel
theorem dX6_isSlot_9 : decode cX6_isSlot 9 = .ok (.iconst 1, 1) := by decide +kernel
theorem dX6_isSlot_10 : decode cX6_isSlot 10 = .ok (.goto 4, 3) := by decide +kernel
theorem dX6_isSlot_13 : decode cX6_isSlot 13 = .ok (.iconst 0, 1) := by decide +kernel
theorem dX6_isSlot_14 : decode cX6_isSlot 14 = .ok (.ireturn, 1) := by decide +kernel
theorem dX6_isIndex_0 : decode cX6_isIndex 0 = .ok (.iload_n 0, 1) := by decide +kernel
theorem dX6_isIndex_1 : decode cX6_isIndex 1 = .ok (.ifCond .lt 14, 3) := by decide +kernel
theorem dX6_isIndex_4 : decode cX6_isIndex 4 = .ok (.iload_n 0, 1) := by decide +kernel
theorem dX6_isIndex_5 : decode cX6_isIndex 5 = .ok (.sipush 999, 3) := by decide +kernel
theorem dX6_isIndex_8 : decode cX6_isIndex 8 = .ok (.if_icmp .gt 7, 3) := by decide +kernel
theorem dX6_isIndex_11 : decode cX6_isIndex 11 = .ok (.iconst 1, 1) := by decide +kernel
theorem dX6_isIndex_12 : decode cX6_isIndex 12 = .ok (.goto 4, 3) := by decide +kernel
theorem dX6_isIndex_15 : decode cX6_isIndex 15 = .ok (.iconst 0, 1) := by decide +kernel
theorem dX6_isIndex_16 : decode cX6_isIndex 16 = .ok (.ireturn, 1) := by decide +kernel
theorem dX6_isPositive_0 : decode cX6_isPositive 0 = .ok (.iload_n 0, 1) := by decide +kernel
theorem dX6_isPositive_1 : decode cX6_isPositive 1 = .ok (.iconst 1, 1) := by decide +kernel
theorem dX6_isPositive_2 : decode cX6_isPositive 2 = .ok (.if_icmp .lt 12, 3) := by decide +kernel
theorem dX6_isPositive_5 : decode cX6_isPositive 5 = .ok (.iload_n 0, 1) := by decide +kernel
theorem dX6_isPositive_6 : decode cX6_isPositive 6 = .ok (.iload_n 1, 1) := by decide +kernel
theorem dX6_isPositive_7 : decode cX6_isPositive 7 = .ok (.if_icmp .gt 7, 3) := by decide +kernel
theorem dX6_isPositive_10 : decode cX6_isPositive 10 = .ok (.iconst 1, 1) := by decide +kernel
theorem dX6_isPositive_11 : decode cX6_isPositive 11 = .ok (.goto 4, 3) := by decide +kernel
theorem dX6_isPositive_14 : decode cX6_isPositive 14 = .ok (.iconst 0, 1) := by decide +kernel
theorem dX6_isPositive_15 : decode cX6_isPositive 15 = .ok (.ireturn, 1) := by decide +kernel
theorem dX6_isDistance_0 : decode cX6_isDistance 0 = .ok (.iload_n 0, 1) := by decide +kernel
theorem dX6_isDistance_1 : decode cX6_isDistance 1 = .ok (.sipush (-999), 3) := by decide +kernel
theorem dX6_isDistance_4 : decode cX6_isDistance 4 = .ok (.if_icmp .lt 14, 3) := by decide +kernel
theorem dX6_isDistance_7 : decode cX6_isDistance 7 = .ok (.iload_n 0, 1) := by decide +kernel
theorem dX6_isDistance_8 : decode cX6_isDistance 8 = .ok (.sipush 999, 3) := by decide +kernel
theorem dX6_isDistance_11 : decode cX6_isDistance 11 = .ok (.if_icmp .gt 7, 3) := by decide +kernel
theorem dX6_isDistance_14 : decode cX6_isDistance 14 = .ok (.iconst 1, 1) := by decide +kernel
theorem dX6_isDistance_15 : decode cX6_isDistance 15 = .ok (.goto 4, 3) := by decide +kernel
theorem dX6_isDistance_18 : decode cX6_isDistance 18 = .ok (.iconst 0, 1) := by decide +kernel
theorem dX6_isDistance_19 : decode cX6_isDistance 19 = .ok (.ireturn, 1) := by decide +kernel
theorem dX6_slotAt_0 : decode cX6_slotAt 0 = .ok (.iload_n 1, 1) := by decide +kernel
theorem dX6_slotAt_1 : decode cX6_slotAt 1 = .ok (.ifCond .ne 10, 3) := by decide +kernel
theorem dX6_slotAt_4 : decode cX6_slotAt 4 = .ok (.aload_n 0, 1) := by decide +kernel
theorem dX6_slotAt_5 : decode cX6_slotAt 5 = .ok (.getfield 36, 3) := by decide +kernel
theorem dX6_slotAt_8 : decode cX6_slotAt 8 = .ok (.goto 7, 3) := by decide +kernel
theorem dX6_slotAt_11 : decode cX6_slotAt 11 = .ok (.aload_n 0, 1) := by decide +kernel
theorem dX6_slotAt_12 : decode cX6_slotAt 12 = .ok (.getfield 40, 3) := by decide +kernel
theorem dX6_slotAt_15 : decode cX6_slotAt 15 = .ok (.areturn, 1) := by decide +kernel
theorem dX6_presentRamp_0 : decode cX6_presentRamp 0 = .ok (.aload_n 0, 1) := by decide +kernel
theorem dX6_presentRamp_1 : decode cX6_presentRamp 1 = .ok (.getfield 46, 3) := by decide +kernel
theorem dX6_presentRamp_4 : decode cX6_presentRamp 4 = .ok (.aload_n 0, 1) := by decide +kernel
theorem dX6_presentRamp_5 : decode cX6_presentRamp 5 = .ok (.getfield 19, 3) := by decide +kernel
theorem dX6_presentRamp_8 : decode cX6_presentRamp 8 = .ok (.getfield 129, 3) := by decide +kernel
theorem dX6_presentRamp_11 : decode cX6_presentRamp 11 = .ok (.aload_n 0, 1) := by decide +kernel
theorem dX6_presentRamp_12 : decode cX6_presentRamp 12 = .ok (.getfield 19, 3) := by decide +kernel
theorem dX6_presentRamp_15 : decode cX6_presentRamp 15 = .ok (.getfield 132, 3) := by decide +kernel
theorem dX6_presentRamp_18 : decode cX6_presentRamp 18 = .ok (.invokevirtual 201, 3) := by decide +kernel
theorem dX6_presentRamp_21 : decode cX6_presentRamp 21 = .ok (.aload_n 0, 1) := by decide +kernel
theorem dX6_presentRamp_22 : decode cX6_presentRamp 22 = .ok (.getfield 46, 3) := by decide +kernel
theorem dX6_presentRamp_25 : decode cX6_presentRamp 25 = .ok (.areturn, 1) := by decide +kernel
theorem dX6_succeeds_0 : decode cX6_succeeds 0 = .ok (.iload_n 1, 1) := by decide +kernel
theorem dX6_succeeds_1 : decode cX6_succeeds 1 = .ok (.sipush 1000, 3) := by decide +kernel
theorem dX6_succeeds_4 : decode cX6_succeeds 4 = .ok (.irem, 1) := by decide +kernel
theorem dX6_succeeds_5 : decode cX6_succeeds 5 = .ok (.istore_n 2, 1) := by decide +kernel
theorem dX6_succeeds_6 : decode cX6_succeeds 6 = .ok (.iload_n 1, 1) := by decide +kernel
theorem dX6_succeeds_7 : decode cX6_succeeds 7 = .ok (.sipush 1000, 3) := by decide +kernel
theorem dX6_succeeds_10 : decode cX6_succeeds 10 = .ok (.idiv, 1) := by decide +kernel
theorem dX6_succeeds_11 : decode cX6_succeeds 11 = .ok (.tableswitch 173 1 6 #[37, 64, 86, 112, 129, 156], 37) := by decide +kernel
theorem dX6_succeeds_48 : decode cX6_succeeds 48 = .ok (.iload_n 2, 1) := by decide +kernel
theorem dX6_succeeds_49 : decode cX6_succeeds 49 = .ok (.ifCond .le 24, 3) := by decide +kernel
theorem dX6_succeeds_52 : decode cX6_succeeds 52 = .ok (.aload_n 0, 1) := by decide +kernel
theorem dX6_succeeds_53 : decode cX6_succeeds 53 = .ok (.getfield 23, 3) := by decide +kernel
theorem dX6_succeeds_56 : decode cX6_succeeds 56 = .ok (.aload_n 0, 1) := by decide +kernel
theorem dX6_succeeds_57 : decode cX6_succeeds 57 = .ok (.getfield 46, 3) := by decide +kernel
theorem dX6_succeeds_60 : decode cX6_succeeds 60 = .ok (.iload_n 2, 1) := by decide +kernel
theorem dX6_succeeds_61 : decode cX6_succeeds 61 = .ok (.ldc 145, 2) := by decide +kernel
theorem dX6_succeeds_63 : decode cX6_succeeds 63 = .ok (.invokevirtual 146, 3) := by decide +kernel
theorem dX6_succeeds_66 : decode cX6_succeeds 66 = .ok (.ifCond .le 7, 3) := by decide +kernel
theorem dX6_succeeds_69 : decode cX6_succeeds 69 = .ok (.iconst 1, 1) := by decide +kernel
theorem dX6_succeeds_70 : decode cX6_succeeds 70 = .ok (.goto 4, 3) := by decide +kernel
theorem dX6_succeeds_73 : decode cX6_succeeds 73 = .ok (.iconst 0, 1) := by decide +kernel
theorem dX6_succeeds_74 : decode cX6_succeeds 74 = .ok (.ireturn, 1) := by decide +kernel
theorem dX6_succeeds_75 : decode cX6_succeeds 75 = .ok (.iload_n 2, 1) := by decide +kernel
theorem dX6_succeeds_76 : decode cX6_succeeds 76 = .ok (.ifCond .le 11, 3) := by decide +kernel
theorem dX6_succeeds_79 : decode cX6_succeeds 79 = .ok (.aload_n 0, 1) := by decide +kernel
theorem dX6_succeeds_80 : decode cX6_succeeds 80 = .ok (.getfield 23, 3) := by decide +kernel
theorem dX6_succeeds_83 : decode cX6_succeeds 83 = .ok (.iload_n 2, 1) := by decide +kernel
theorem dX6_succeeds_84 : decode cX6_succeeds 84 = .ok (.putfield 132, 3) := by decide +kernel
theorem dX6_succeeds_87 : decode cX6_succeeds 87 = .ok (.iload_n 2, 1) := by decide +kernel
theorem dX6_succeeds_88 : decode cX6_succeeds 88 = .ok (.ifCond .le 7, 3) := by decide +kernel
theorem dX6_succeeds_91 : decode cX6_succeeds 91 = .ok (.iconst 1, 1) := by decide +kernel
theorem dX6_succeeds_92 : decode cX6_succeeds 92 = .ok (.goto 4, 3) := by decide +kernel
theorem dX6_succeeds_95 : decode cX6_succeeds 95 = .ok (.iconst 0, 1) := by decide +kernel
theorem dX6_succeeds_96 : decode cX6_succeeds 96 = .ok (.ireturn, 1) := by decide +kernel
theorem dX6_succeeds_97 : decode cX6_succeeds 97 = .ok (.iload_n 2, 1) := by decide +kernel
theorem dX6_succeeds_98 : decode cX6_succeeds 98 = .ok (.ifCond .gt 13, 3) := by decide +kernel
theorem dX6_succeeds_101 : decode cX6_succeeds 101 = .ok (.aload_n 0, 1) := by decide +kernel
theorem dX6_succeeds_102 : decode cX6_succeeds 102 = .ok (.getfield 23, 3) := by decide +kernel
theorem dX6_succeeds_105 : decode cX6_succeeds 105 = .ok (.invokevirtual 99, 3) := by decide +kernel
theorem dX6_succeeds_108 : decode cX6_succeeds 108 = .ok (.ifCond .ne 5, 3) := by decide +kernel
theorem dX6_succeeds_111 : decode cX6_succeeds 111 = .ok (.iconst 0, 1) := by decide +kernel
theorem dX6_succeeds_112 : decode cX6_succeeds 112 = .ok (.ireturn, 1) := by decide +kernel
theorem dX6_succeeds_113 : decode cX6_succeeds 113 = .ok (.aload_n 0, 1) := by decide +kernel
theorem dX6_succeeds_114 : decode cX6_succeeds 114 = .ok (.getfield 23, 3) := by decide +kernel
theorem dX6_succeeds_117 : decode cX6_succeeds 117 = .ok (.invokevirtual 151, 3) := by decide +kernel
theorem dX6_succeeds_120 : decode cX6_succeeds 120 = .ok (.pop, 1) := by decide +kernel
theorem dX6_succeeds_121 : decode cX6_succeeds 121 = .ok (.iconst 1, 1) := by decide +kernel
theorem dX6_succeeds_122 : decode cX6_succeeds 122 = .ok (.ireturn, 1) := by decide +kernel
theorem dX6_succeeds_123 : decode cX6_succeeds 123 = .ok (.aload_n 0, 1) := by decide +kernel
theorem dX6_succeeds_124 : decode cX6_succeeds 124 = .ok (.getfield 23, 3) := by decide +kernel
theorem dX6_succeeds_127 : decode cX6_succeeds 127 = .ok (.getfield 205, 3) := by decide +kernel
theorem dX6_succeeds_130 : decode cX6_succeeds 130 = .ok (.iload_n 2, 1) := by decide +kernel
theorem dX6_succeeds_131 : decode cX6_succeeds 131 = .ok (.if_icmp .ne 7, 3) := by decide +kernel
theorem dX6_succeeds_134 : decode cX6_succeeds 134 = .ok (.iconst 1, 1) := by decide +kernel
theorem dX6_succeeds_135 : decode cX6_succeeds 135 = .ok (.goto 4, 3) := by decide +kernel
theorem dX6_succeeds_138 : decode cX6_succeeds 138 = .ok (.iconst 0, 1) := by decide +kernel
theorem dX6_succeeds_139 : decode cX6_succeeds 139 = .ok (.ireturn, 1) := by decide +kernel
theorem dX6_succeeds_140 : decode cX6_succeeds 140 = .ok (.aload_n 0, 1) := by decide +kernel
theorem dX6_succeeds_141 : decode cX6_succeeds 141 = .ok (.getfield 23, 3) := by decide +kernel
theorem dX6_succeeds_144 : decode cX6_succeeds 144 = .ok (.invokevirtual 99, 3) := by decide +kernel
theorem dX6_succeeds_147 : decode cX6_succeeds 147 = .ok (.ifCond .eq 18, 3) := by decide +kernel
theorem dX6_succeeds_150 : decode cX6_succeeds 150 = .ok (.aload_n 0, 1) := by decide +kernel
theorem dX6_succeeds_151 : decode cX6_succeeds 151 = .ok (.getfield 23, 3) := by decide +kernel
theorem dX6_succeeds_154 : decode cX6_succeeds 154 = .ok (.getfield 103, 3) := by decide +kernel
theorem dX6_succeeds_157 : decode cX6_succeeds 157 = .ok (.iload_n 2, 1) := by decide +kernel
theorem dX6_succeeds_158 : decode cX6_succeeds 158 = .ok (.if_icmp .ne 7, 3) := by decide +kernel
theorem dX6_succeeds_161 : decode cX6_succeeds 161 = .ok (.iconst 1, 1) := by decide +kernel
theorem dX6_succeeds_162 : decode cX6_succeeds 162 = .ok (.goto 4, 3) := by decide +kernel
theorem dX6_succeeds_165 : decode cX6_succeeds 165 = .ok (.iconst 0, 1) := by decide +kernel
theorem dX6_succeeds_166 : decode cX6_succeeds 166 = .ok (.ireturn, 1) := by decide +kernel
theorem dX6_succeeds_167 : decode cX6_succeeds 167 = .ok (.aload_n 0, 1) := by decide +kernel
theorem dX6_succeeds_168 : decode cX6_succeeds 168 = .ok (.getfield 23, 3) := by decide +kernel
theorem dX6_succeeds_171 : decode cX6_succeeds 171 = .ok (.getfield 73, 3) := by decide +kernel
theorem dX6_succeeds_174 : decode cX6_succeeds 174 = .ok (.iload_n 2, 1) := by decide +kernel
theorem dX6_succeeds_175 : decode cX6_succeeds 175 = .ok (.if_icmp .ne 7, 3) := by decide +kernel
theorem dX6_succeeds_178 : decode cX6_succeeds 178 = .ok (.iconst 1, 1) := by decide +kernel
theorem dX6_succeeds_179 : decode cX6_succeeds 179 = .ok (.goto 4, 3) := by decide +kernel
theorem dX6_succeeds_182 : decode cX6_succeeds 182 = .ok (.iconst 0, 1) := by decide +kernel
theorem dX6_succeeds_183 : decode cX6_succeeds 183 = .ok (.ireturn, 1) := by decide +kernel
theorem dX6_succeeds_184 : decode cX6_succeeds 184 = .ok (.iconst 0, 1) := by decide +kernel
theorem dX6_succeeds_185 : decode cX6_succeeds 185 = .ok (.ireturn, 1) := by decide +kernel
theorem dJ9_floorMod_7cf53_0 : decode cJ9_floorMod_7cf53 0 = .ok (.iload_n 0, 1) := by decide +kernel
theorem dJ9_floorMod_7cf53_1 : decode cJ9_floorMod_7cf53 1 = .ok (.iload_n 1, 1) := by decide +kernel
theorem dJ9_floorMod_7cf53_2 : decode cJ9_floorMod_7cf53 2 = .ok (.irem, 1) := by decide +kernel
theorem dJ9_floorMod_7cf53_3 : decode cJ9_floorMod_7cf53 3 = .ok (.istore_n 2, 1) := by decide +kernel
theorem dJ9_floorMod_7cf53_4 : decode cJ9_floorMod_7cf53 4 = .ok (.iload_n 0, 1) := by decide +kernel
theorem dJ9_floorMod_7cf53_5 : decode cJ9_floorMod_7cf53 5 = .ok (.iload_n 1, 1) := by decide +kernel
theorem dJ9_floorMod_7cf53_6 : decode cJ9_floorMod_7cf53 6 = .ok (.ixor, 1) := by decide +kernel
theorem dJ9_floorMod_7cf53_7 : decode cJ9_floorMod_7cf53 7 = .ok (.ifCond .ge 11, 3) := by decide +kernel
theorem dJ9_floorMod_7cf53_10 : decode cJ9_floorMod_7cf53 10 = .ok (.iload_n 2, 1) := by decide +kernel
theorem dJ9_floorMod_7cf53_11 : decode cJ9_floorMod_7cf53 11 = .ok (.ifCond .eq 7, 3) := by decide +kernel
theorem dJ9_floorMod_7cf53_14 : decode cJ9_floorMod_7cf53 14 = .ok (.iload_n 2, 1) := by decide +kernel
theorem dJ9_floorMod_7cf53_15 : decode cJ9_floorMod_7cf53 15 = .ok (.iload_n 1, 1) := by decide +kernel
theorem dJ9_floorMod_7cf53_16 : decode cJ9_floorMod_7cf53 16 = .ok (.iadd, 1) := by decide +kernel
theorem dJ9_floorMod_7cf53_17 : decode cJ9_floorMod_7cf53 17 = .ok (.ireturn, 1) := by decide +kernel
theorem dJ9_floorMod_7cf53_18 : decode cJ9_floorMod_7cf53 18 = .ok (.iload_n 2, 1) := by decide +kernel
theorem dJ9_floorMod_7cf53_19 : decode cJ9_floorMod_7cf53 19 = .ok (.ireturn, 1) := by decide +kernel
theorem dJ9_abs_0f7a4_0 : decode cJ9_abs_0f7a4 0 = .ok (.iload_n 0, 1) := by decide +kernel
theorem dJ9_abs_0f7a4_1 : decode cJ9_abs_0f7a4 1 = .ok (.ifCond .ge 8, 3) := by decide +kernel
theorem dJ9_abs_0f7a4_4 : decode cJ9_abs_0f7a4 4 = .ok (.iload_n 0, 1) := by decide +kernel
theorem dJ9_abs_0f7a4_5 : decode cJ9_abs_0f7a4 5 = .ok (.ineg, 1) := by decide +kernel
theorem dJ9_abs_0f7a4_6 : decode cJ9_abs_0f7a4 6 = .ok (.goto 4, 3) := by decide +kernel
theorem dJ9_abs_0f7a4_9 : decode cJ9_abs_0f7a4 9 = .ok (.iload_n 0, 1) := by decide +kernel
theorem dJ9_abs_0f7a4_10 : decode cJ9_abs_0f7a4 10 = .ok (.ireturn, 1) := by decide +kernel
theorem dJ9_max_7cf53_0 : decode cJ9_max_7cf53 0 = .ok (.iload_n 0, 1) := by decide +kernel
theorem dJ9_max_7cf53_1 : decode cJ9_max_7cf53 1 = .ok (.iload_n 1, 1) := by decide +kernel
theorem dJ9_max_7cf53_2 : decode cJ9_max_7cf53 2 = .ok (.if_icmp .lt 7, 3) := by decide +kernel
theorem dJ9_max_7cf53_5 : decode cJ9_max_7cf53 5 = .ok (.iload_n 0, 1) := by decide +kernel
theorem dJ9_max_7cf53_6 : decode cJ9_max_7cf53 6 = .ok (.goto 4, 3) := by decide +kernel
theorem dJ9_max_7cf53_9 : decode cJ9_max_7cf53 9 = .ok (.iload_n 1, 1) := by decide +kernel
theorem dJ9_max_7cf53_10 : decode cJ9_max_7cf53 10 = .ok (.ireturn, 1) := by decide +kernel
theorem dJ9_max_f86c9_0 : decode cJ9_max_f86c9 0 = .ok (.lload_n 0, 1) := by decide +kernel
theorem dJ9_max_f86c9_1 : decode cJ9_max_f86c9 1 = .ok (.lload_n 2, 1) := by decide +kernel
theorem dJ9_max_f86c9_2 : decode cJ9_max_f86c9 2 = .ok (.lcmp, 1) := by decide +kernel
theorem dJ9_max_f86c9_3 : decode cJ9_max_f86c9 3 = .ok (.ifCond .lt 7, 3) := by decide +kernel
theorem dJ9_max_f86c9_6 : decode cJ9_max_f86c9 6 = .ok (.lload_n 0, 1) := by decide +kernel
theorem dJ9_max_f86c9_7 : decode cJ9_max_f86c9 7 = .ok (.goto 4, 3) := by decide +kernel
theorem dJ9_max_f86c9_10 : decode cJ9_max_f86c9 10 = .ok (.lload_n 2, 1) := by decide +kernel
theorem dJ9_max_f86c9_11 : decode cJ9_max_f86c9 11 = .ok (.lreturn, 1) := by decide +kernel
theorem dJ9_min_7cf53_0 : decode cJ9_min_7cf53 0 = .ok (.iload_n 0, 1) := by decide +kernel
theorem dJ9_min_7cf53_1 : decode cJ9_min_7cf53 1 = .ok (.iload_n 1, 1) := by decide +kernel
theorem dJ9_min_7cf53_2 : decode cJ9_min_7cf53 2 = .ok (.if_icmp .gt 7, 3) := by decide +kernel
theorem dJ9_min_7cf53_5 : decode cJ9_min_7cf53 5 = .ok (.iload_n 0, 1) := by decide +kernel
theorem dJ9_min_7cf53_6 : decode cJ9_min_7cf53 6 = .ok (.goto 4, 3) := by decide +kernel
theorem dJ9_min_7cf53_9 : decode cJ9_min_7cf53 9 = .ok (.iload_n 1, 1) := by decide +kernel
theorem dJ9_min_7cf53_10 : decode cJ9_min_7cf53 10 = .ok (.ireturn, 1) := by decide +kernel
theorem dJ9_min_f86c9_0 : decode cJ9_min_f86c9 0 = .ok (.lload_n 0, 1) := by decide +kernel
theorem dJ9_min_f86c9_1 : decode cJ9_min_f86c9 1 = .ok (.lload_n 2, 1) := by decide +kernel
theorem dJ9_min_f86c9_2 : decode cJ9_min_f86c9 2 = .ok (.lcmp, 1) := by decide +kernel
theorem dJ9_min_f86c9_3 : decode cJ9_min_f86c9 3 = .ok (.ifCond .gt 7, 3) := by decide +kernel
theorem dJ9_min_f86c9_6 : decode cJ9_min_f86c9 6 = .ok (.lload_n 0, 1) := by decide +kernel
theorem dJ9_min_f86c9_7 : decode cJ9_min_f86c9 7 = .ok (.goto 4, 3) := by decide +kernel
theorem dJ9_min_f86c9_10 : decode cJ9_min_f86c9 10 = .ok (.lload_n 2, 1) := by decide +kernel
theorem dJ9_min_f86c9_11 : decode cJ9_min_f86c9 11 = .ok (.lreturn, 1) := by decide +kernel
end
section
theorem dX7_init_0 : decode cX7_init 0 = .ok (.aload_n 0, 1) := by decide +kernel
theorem dX7_init_1 : decode cX7_init 1 = .ok (.invokespecial 1, 3) := by decide +kernel
theorem dX7_init_4 : decode cX7_init 4 = .ok (.aload_n 0, 1) := by decide +kernel
theorem dX7_init_5 : decode cX7_init 5 = .ok (.bipush 80, 2) := by decide +kernel
theorem dX7_init_7 : decode cX7_init 7 = .ok (.newarray .int, 2) := by decide +kernel
theorem dX7_init_9 : decode cX7_init 9 = .ok (.putfield 7, 3) := by decide +kernel
theorem dX7_init_12 : decode cX7_init 12 = .ok (.aload_n 0, 1) := by decide +kernel
theorem dX7_init_13 : decode cX7_init 13 = .ok (.bipush 33, 2) := by decide +kernel
theorem dX7_init_15 : decode cX7_init 15 = .ok (.newarray .int, 2) := by decide +kernel
theorem dX7_init_17 : decode cX7_init 17 = .ok (.putfield 13, 3) := by decide +kernel
theorem dX7_init_20 : decode cX7_init 20 = .ok (.aload_n 0, 1) := by decide +kernel
theorem dX7_init_21 : decode cX7_init 21 = .ok (.bipush 33, 2) := by decide +kernel
theorem dX7_init_23 : decode cX7_init 23 = .ok (.newarray .int, 2) := by decide +kernel
theorem dX7_init_25 : decode cX7_init 25 = .ok (.putfield 16, 3) := by decide +kernel
theorem dX7_init_28 : decode cX7_init 28 = .ok (.aload_n 0, 1) := by decide +kernel
theorem dX7_init_29 : decode cX7_init 29 = .ok (.bipush 33, 2) := by decide +kernel
theorem dX7_init_31 : decode cX7_init 31 = .ok (.newarray .int, 2) := by decide +kernel
theorem dX7_init_33 : decode cX7_init 33 = .ok (.putfield 19, 3) := by decide +kernel
theorem dX7_init_36 : decode cX7_init 36 = .ok (.aload_n 0, 1) := by decide +kernel
theorem dX7_init_37 : decode cX7_init 37 = .ok (.sipush 462, 3) := by decide +kernel
theorem dX7_init_40 : decode cX7_init 40 = .ok (.newarray .int, 2) := by decide +kernel
theorem dX7_init_42 : decode cX7_init 42 = .ok (.putfield 22, 3) := by decide +kernel
theorem dX7_init_45 : decode cX7_init 45 = .ok (.aload_n 0, 1) := by decide +kernel
theorem dX7_init_46 : decode cX7_init 46 = .ok (.bipush 66, 2) := by decide +kernel
theorem dX7_init_48 : decode cX7_init 48 = .ok (.newarray .int, 2) := by decide +kernel
theorem dX7_init_50 : decode cX7_init 50 = .ok (.putfield 25, 3) := by decide +kernel
theorem dX7_init_53 : decode cX7_init 53 = .ok (.aload_n 0, 1) := by decide +kernel
theorem dX7_init_54 : decode cX7_init 54 = .ok (.iconst 2, 1) := by decide +kernel
theorem dX7_init_55 : decode cX7_init 55 = .ok (.newarray .boolean, 2) := by decide +kernel
theorem dX7_init_57 : decode cX7_init 57 = .ok (.putfield 28, 3) := by decide +kernel
theorem dX7_init_60 : decode cX7_init 60 = .ok (.aload_n 0, 1) := by decide +kernel
theorem dX7_init_61 : decode cX7_init 61 = .ok (.sipush 1001, 3) := by decide +kernel
theorem dX7_init_64 : decode cX7_init 64 = .ok (.newarray .int, 2) := by decide +kernel
theorem dX7_init_66 : decode cX7_init 66 = .ok (.putfield 32, 3) := by decide +kernel
theorem dX7_init_69 : decode cX7_init 69 = .ok (.aload_n 0, 1) := by decide +kernel
theorem dX7_init_70 : decode cX7_init 70 = .ok (.getfield 13, 3) := by decide +kernel
theorem dX7_init_73 : decode cX7_init 73 = .ok (.iconst 0, 1) := by decide +kernel
theorem dX7_init_74 : decode cX7_init 74 = .ok (.bipush 100, 2) := by decide +kernel
theorem dX7_init_76 : decode cX7_init 76 = .ok (.iastore, 1) := by decide +kernel
theorem dX7_init_77 : decode cX7_init 77 = .ok (.aload_n 0, 1) := by decide +kernel
theorem dX7_init_78 : decode cX7_init 78 = .ok (.getfield 13, 3) := by decide +kernel
theorem dX7_init_81 : decode cX7_init 81 = .ok (.iconst 1, 1) := by decide +kernel
theorem dX7_init_82 : decode cX7_init 82 = .ok (.sipush 200, 3) := by decide +kernel
theorem dX7_init_85 : decode cX7_init 85 = .ok (.iastore, 1) := by decide +kernel
theorem dX7_init_86 : decode cX7_init 86 = .ok (.aload_n 0, 1) := by decide +kernel
theorem dX7_init_87 : decode cX7_init 87 = .ok (.getfield 13, 3) := by decide +kernel
theorem dX7_init_90 : decode cX7_init 90 = .ok (.bipush 7, 2) := by decide +kernel
theorem dX7_init_92 : decode cX7_init 92 = .ok (.bipush (-9), 2) := by decide +kernel
theorem dX7_init_94 : decode cX7_init 94 = .ok (.iastore, 1) := by decide +kernel
theorem dX7_init_95 : decode cX7_init 95 = .ok (.return_, 1) := by decide +kernel
theorem dX7_in_0 : decode cX7_in 0 = .ok (.lload_n 0, 1) := by decide +kernel
theorem dX7_in_1 : decode cX7_in 1 = .ok (.lload_n 2, 1) := by decide +kernel
theorem dX7_in_2 : decode cX7_in 2 = .ok (.lcmp, 1) := by decide +kernel
theorem dX7_in_3 : decode cX7_in 3 = .ok (.ifCond .lt 14, 3) := by decide +kernel
theorem dX7_in_6 : decode cX7_in 6 = .ok (.lload_n 0, 1) := by decide +kernel
theorem dX7_in_7 : decode cX7_in 7 = .ok (.lload 4, 2) := by decide +kernel
theorem dX7_in_9 : decode cX7_in 9 = .ok (.lcmp, 1) := by decide +kernel
theorem dX7_in_10 : decode cX7_in 10 = .ok (.ifCond .gt 7, 3) := by decide +kernel
theorem dX7_in_13 : decode cX7_in 13 = .ok (.iconst 1, 1) := by decide +kernel
theorem dX7_in_14 : decode cX7_in 14 = .ok (.goto 4, 3) := by decide +kernel
theorem dX7_in_17 : decode cX7_in 17 = .ok (.iconst 0, 1) := by decide +kernel
theorem dX7_in_18 : decode cX7_in 18 = .ok (.ireturn, 1) := by decide +kernel
theorem dX7_copy_0 : decode cX7_copy 0 = .ok (.iconst 0, 1) := by decide +kernel
theorem dX7_copy_1 : decode cX7_copy 1 = .ok (.istore_n 2, 1) := by decide +kernel
theorem dX7_copy_2 : decode cX7_copy 2 = .ok (.iload_n 2, 1) := by decide +kernel
theorem dX7_copy_3 : decode cX7_copy 3 = .ok (.bipush 33, 2) := by decide +kernel
theorem dX7_copy_5 : decode cX7_copy 5 = .ok (.if_icmp .ge 15, 3) := by decide +kernel
theorem dX7_copy_8 : decode cX7_copy 8 = .ok (.aload_n 1, 1) := by decide +kernel
theorem dX7_copy_9 : decode cX7_copy 9 = .ok (.iload_n 2, 1) := by decide +kernel
theorem dX7_copy_10 : decode cX7_copy 10 = .ok (.aload_n 0, 1) := by decide +kernel
theorem dX7_copy_11 : decode cX7_copy 11 = .ok (.iload_n 2, 1) := by decide +kernel
theorem dX7_copy_12 : decode cX7_copy 12 = .ok (.iaload, 1) := by decide +kernel
theorem dX7_copy_13 : decode cX7_copy 13 = .ok (.iastore, 1) := by decide +kernel
theorem dX7_copy_14 : decode cX7_copy 14 = .ok (.iinc 2 1, 3) := by decide +kernel
theorem dX7_copy_17 : decode cX7_copy 17 = .ok (.goto (-15), 3) := by decide +kernel
theorem dX7_copy_20 : decode cX7_copy 20 = .ok (.return_, 1) := by decide +kernel
theorem dX7_abs_0 : decode cX7_abs 0 = .ok (.iload_n 0, 1) := by decide +kernel
theorem dX7_abs_1 : decode cX7_abs 1 = .ok (.ifCond .ge 8, 3) := by decide +kernel
theorem dX7_abs_4 : decode cX7_abs 4 = .ok (.iload_n 0, 1) := by decide +kernel
theorem dX7_abs_5 : decode cX7_abs 5 = .ok (.ineg, 1) := by decide +kernel
theorem dX7_abs_6 : decode cX7_abs 6 = .ok (.goto 4, 3) := by decide +kernel
theorem dX7_abs_9 : decode cX7_abs 9 = .ok (.iload_n 0, 1) := by decide +kernel
theorem dX7_abs_10 : decode cX7_abs 10 = .ok (.ireturn, 1) := by decide +kernel
theorem dX7_squareRoot_0 : decode cX7_squareRoot 0 = .ok (.lconst 0, 1) := by decide +kernel
theorem dX7_squareRoot_1 : decode cX7_squareRoot 1 = .ok (.lstore_n 2, 1) := by decide +kernel
theorem dX7_squareRoot_2 : decode cX7_squareRoot 2 = .ok (.bipush 18, 2) := by decide +kernel
theorem dX7_squareRoot_4 : decode cX7_squareRoot 4 = .ok (.istore 4, 2) := by decide +kernel
theorem dX7_squareRoot_6 : decode cX7_squareRoot 6 = .ok (.iload 4, 2) := by decide +kernel
theorem dX7_squareRoot_8 : decode cX7_squareRoot 8 = .ok (.ifCond .lt 34, 3) := by decide +kernel
theorem dX7_squareRoot_11 : decode cX7_squareRoot 11 = .ok (.lload_n 2, 1) := by decide +kernel
theorem dX7_squareRoot_12 : decode cX7_squareRoot 12 = .ok (.lconst 1, 1) := by decide +kernel
theorem dX7_squareRoot_13 : decode cX7_squareRoot 13 = .ok (.iload 4, 2) := by decide +kernel
theorem dX7_squareRoot_15 : decode cX7_squareRoot 15 = .ok (.lshl, 1) := by decide +kernel
theorem dX7_squareRoot_16 : decode cX7_squareRoot 16 = .ok (.lor, 1) := by decide +kernel
theorem dX7_squareRoot_17 : decode cX7_squareRoot 17 = .ok (.lstore 5, 2) := by decide +kernel
theorem dX7_squareRoot_19 : decode cX7_squareRoot 19 = .ok (.lload 5, 2) := by decide +kernel
theorem dX7_squareRoot_21 : decode cX7_squareRoot 21 = .ok (.lload 5, 2) := by decide +kernel
theorem dX7_squareRoot_23 : decode cX7_squareRoot 23 = .ok (.lmul, 1) := by decide +kernel
theorem dX7_squareRoot_24 : decode cX7_squareRoot 24 = .ok (.lload_n 0, 1) := by decide +kernel
theorem dX7_squareRoot_25 : decode cX7_squareRoot 25 = .ok (.lcmp, 1) := by decide +kernel
theorem dX7_squareRoot_26 : decode cX7_squareRoot 26 = .ok (.ifCond .gt 8, 3) := by decide +kernel
theorem dX7_squareRoot_29 : decode cX7_squareRoot 29 = .ok (.lload 5, 2) := by decide +kernel
theorem dX7_squareRoot_31 : decode cX7_squareRoot 31 = .ok (.goto 4, 3) := by decide +kernel
theorem dX7_squareRoot_34 : decode cX7_squareRoot 34 = .ok (.lload_n 2, 1) := by decide +kernel
theorem dX7_squareRoot_35 : decode cX7_squareRoot 35 = .ok (.lstore_n 2, 1) := by decide +kernel
theorem dX7_squareRoot_36 : decode cX7_squareRoot 36 = .ok (.iinc 4 (-1), 3) := by decide +kernel
theorem dX7_squareRoot_39 : decode cX7_squareRoot 39 = .ok (.goto (-33), 3) := by decide +kernel
theorem dX7_squareRoot_42 : decode cX7_squareRoot 42 = .ok (.lload_n 2, 1) := by decide +kernel
theorem dX7_squareRoot_43 : decode cX7_squareRoot 43 = .ok (.l2i, 1) := by decide +kernel
theorem dX7_squareRoot_44 : decode cX7_squareRoot 44 = .ok (.ireturn, 1) := by decide +kernel
theorem dX7_layRoots_0 : decode cX7_layRoots 0 = .ok (.aload_n 0, 1) := by decide +kernel
theorem dX7_layRoots_1 : decode cX7_layRoots 1 = .ok (.getfield 35, 3) := by decide +kernel
theorem dX7_layRoots_4 : decode cX7_layRoots 4 = .ok (.iload_n 1, 1) := by decide +kernel
theorem dX7_layRoots_5 : decode cX7_layRoots 5 = .ok (.if_icmp .eq 13, 3) := by decide +kernel
theorem dX7_layRoots_8 : decode cX7_layRoots 8 = .ok (.aload_n 0, 1) := by decide +kernel
theorem dX7_layRoots_9 : decode cX7_layRoots 9 = .ok (.iload_n 1, 1) := by decide +kernel
theorem dX7_layRoots_10 : decode cX7_layRoots 10 = .ok (.putfield 35, 3) := by decide +kernel
theorem dX7_layRoots_13 : decode cX7_layRoots 13 = .ok (.aload_n 0, 1) := by decide +kernel
theorem dX7_layRoots_14 : decode cX7_layRoots 14 = .ok (.iconst 0, 1) := by decide +kernel
theorem dX7_layRoots_15 : decode cX7_layRoots 15 = .ok (.putfield 39, 3) := by decide +kernel
theorem dX7_layRoots_18 : decode cX7_layRoots 18 = .ok (.aload_n 0, 1) := by decide +kernel
theorem dX7_layRoots_19 : decode cX7_layRoots 19 = .ok (.getfield 39, 3) := by decide +kernel
theorem dX7_layRoots_22 : decode cX7_layRoots 22 = .ok (.iload_n 2, 1) := by decide +kernel
theorem dX7_layRoots_23 : decode cX7_layRoots 23 = .ok (.if_icmp .ge 40, 3) := by decide +kernel
theorem dX7_layRoots_26 : decode cX7_layRoots 26 = .ok (.aload_n 0, 1) := by decide +kernel
theorem dX7_layRoots_27 : decode cX7_layRoots 27 = .ok (.getfield 32, 3) := by decide +kernel
theorem dX7_layRoots_30 : decode cX7_layRoots 30 = .ok (.aload_n 0, 1) := by decide +kernel
theorem dX7_layRoots_31 : decode cX7_layRoots 31 = .ok (.getfield 39, 3) := by decide +kernel
theorem dX7_layRoots_34 : decode cX7_layRoots 34 = .ok (.ldc2_w 42, 3) := by decide +kernel
theorem dX7_layRoots_37 : decode cX7_layRoots 37 = .ok (.aload_n 0, 1) := by decide +kernel
theorem dX7_layRoots_38 : decode cX7_layRoots 38 = .ok (.getfield 39, 3) := by decide +kernel
theorem dX7_layRoots_41 : decode cX7_layRoots 41 = .ok (.i2l, 1) := by decide +kernel
theorem dX7_layRoots_42 : decode cX7_layRoots 42 = .ok (.lmul, 1) := by decide +kernel
theorem dX7_layRoots_43 : decode cX7_layRoots 43 = .ok (.iload_n 1, 1) := by decide +kernel
theorem dX7_layRoots_44 : decode cX7_layRoots 44 = .ok (.i2l, 1) := by decide +kernel
theorem dX7_layRoots_45 : decode cX7_layRoots 45 = .ok (.ldiv, 1) := by decide +kernel
theorem dX7_layRoots_46 : decode cX7_layRoots 46 = .ok (.invokestatic 44, 3) := by decide +kernel
theorem dX7_layRoots_49 : decode cX7_layRoots 49 = .ok (.iastore, 1) := by decide +kernel
theorem dX7_layRoots_50 : decode cX7_layRoots 50 = .ok (.aload_n 0, 1) := by decide +kernel
theorem dX7_layRoots_51 : decode cX7_layRoots 51 = .ok (.dup, 1) := by decide +kernel
theorem dX7_layRoots_52 : decode cX7_layRoots 52 = .ok (.getfield 39, 3) := by decide +kernel
theorem dX7_layRoots_55 : decode cX7_layRoots 55 = .ok (.iconst 1, 1) := by decide +kernel
theorem dX7_layRoots_56 : decode cX7_layRoots 56 = .ok (.iadd, 1) := by decide +kernel
theorem dX7_layRoots_57 : decode cX7_layRoots 57 = .ok (.putfield 39, 3) := by decide +kernel
theorem dX7_layRoots_60 : decode cX7_layRoots 60 = .ok (.goto (-42), 3) := by decide +kernel
theorem dX7_layRoots_63 : decode cX7_layRoots 63 = .ok (.return_, 1) := by decide +kernel
theorem dX7_rampOf_0 : decode cX7_rampOf 0 = .ok (.aload_n 0, 1) := by decide +kernel
theorem dX7_rampOf_1 : decode cX7_rampOf 1 = .ok (.iload_n 1, 1) := by decide +kernel
theorem dX7_rampOf_2 : decode cX7_rampOf 2 = .ok (.iload_n 2, 1) := by decide +kernel
theorem dX7_rampOf_3 : decode cX7_rampOf 3 = .ok (.iconst 2, 1) := by decide +kernel
theorem dX7_rampOf_4 : decode cX7_rampOf 4 = .ok (.iadd, 1) := by decide +kernel
theorem dX7_rampOf_5 : decode cX7_rampOf 5 = .ok (.invokevirtual 48, 3) := by decide +kernel
theorem dX7_rampOf_8 : decode cX7_rampOf 8 = .ok (.aload_n 0, 1) := by decide +kernel
theorem dX7_rampOf_9 : decode cX7_rampOf 9 = .ok (.getfield 32, 3) := by decide +kernel
theorem dX7_rampOf_12 : decode cX7_rampOf 12 = .ok (.iload_n 2, 1) := by decide +kernel
theorem dX7_rampOf_13 : decode cX7_rampOf 13 = .ok (.iconst 1, 1) := by decide +kernel
theorem dX7_rampOf_14 : decode cX7_rampOf 14 = .ok (.iadd, 1) := by decide +kernel
theorem dX7_rampOf_15 : decode cX7_rampOf 15 = .ok (.iaload, 1) := by decide +kernel
theorem dX7_rampOf_16 : decode cX7_rampOf 16 = .ok (.aload_n 0, 1) := by decide +kernel
theorem dX7_rampOf_17 : decode cX7_rampOf 17 = .ok (.getfield 32, 3) := by decide +kernel
theorem dX7_rampOf_20 : decode cX7_rampOf 20 = .ok (.iload_n 2, 1) := by decide +kernel
theorem dX7_rampOf_21 : decode cX7_rampOf 21 = .ok (.iaload, 1) := by decide +kernel
theorem dX7_rampOf_22 : decode cX7_rampOf 22 = .ok (.isub, 1) := by decide +kernel
theorem dX7_rampOf_23 : decode cX7_rampOf 23 = .ok (.ireturn, 1) := by decide +kernel
theorem dX7_cruiseOf_0 : decode cX7_cruiseOf 0 = .ok (.sipush 10000, 3) := by decide +kernel
theorem dX7_cruiseOf_3 : decode cX7_cruiseOf 3 = .ok (.iload_n 0, 1) := by decide +kernel
theorem dX7_cruiseOf_4 : decode cX7_cruiseOf 4 = .ok (.iadd, 1) := by decide +kernel
theorem dX7_cruiseOf_5 : decode cX7_cruiseOf 5 = .ok (.iconst 1, 1) := by decide +kernel
theorem dX7_cruiseOf_6 : decode cX7_cruiseOf 6 = .ok (.isub, 1) := by decide +kernel
theorem dX7_cruiseOf_7 : decode cX7_cruiseOf 7 = .ok (.iload_n 0, 1) := by decide +kernel
theorem dX7_cruiseOf_8 : decode cX7_cruiseOf 8 = .ok (.idiv, 1) := by decide +kernel
theorem dX7_cruiseOf_9 : decode cX7_cruiseOf 9 = .ok (.ireturn, 1) := by decide +kernel
theorem dX7_topOf_0 : decode cX7_topOf 0 = .ok (.iconst 0, 1) := by decide +kernel
theorem dX7_topOf_1 : decode cX7_topOf 1 = .ok (.istore 4, 2) := by decide +kernel
theorem dX7_topOf_3 : decode cX7_topOf 3 = .ok (.iload 4, 2) := by decide +kernel
theorem dX7_topOf_5 : decode cX7_topOf 5 = .ok (.iload_n 3, 1) := by decide +kernel
theorem dX7_topOf_6 : decode cX7_topOf 6 = .ok (.if_icmp .ge 23, 3) := by decide +kernel
theorem dX7_topOf_9 : decode cX7_topOf 9 = .ok (.aload_n 0, 1) := by decide +kernel
theorem dX7_topOf_10 : decode cX7_topOf 10 = .ok (.iload_n 1, 1) := by decide +kernel
theorem dX7_topOf_11 : decode cX7_topOf 11 = .ok (.iload 4, 2) := by decide +kernel
theorem dX7_topOf_13 : decode cX7_topOf 13 = .ok (.invokevirtual 52, 3) := by decide +kernel
theorem dX7_topOf_16 : decode cX7_topOf 16 = .ok (.iload_n 2, 1) := by decide +kernel
theorem dX7_topOf_17 : decode cX7_topOf 17 = .ok (.invokestatic 56, 3) := by decide +kernel
theorem dX7_topOf_20 : decode cX7_topOf 20 = .ok (.if_icmp .le 9, 3) := by decide +kernel
theorem dX7_topOf_23 : decode cX7_topOf 23 = .ok (.iinc 4 1, 3) := by decide +kernel
theorem dX7_topOf_26 : decode cX7_topOf 26 = .ok (.goto (-23), 3) := by decide +kernel
theorem dX7_topOf_29 : decode cX7_topOf 29 = .ok (.iload 4, 2) := by decide +kernel
theorem dX7_topOf_31 : decode cX7_topOf 31 = .ok (.ireturn, 1) := by decide +kernel
theorem dX7_fullTop_0 : decode cX7_fullTop 0 = .ok (.aload_n 0, 1) := by decide +kernel
theorem dX7_fullTop_1 : decode cX7_fullTop 1 = .ok (.getfield 60, 3) := by decide +kernel
theorem dX7_fullTop_4 : decode cX7_fullTop 4 = .ok (.iload_n 1, 1) := by decide +kernel
theorem dX7_fullTop_5 : decode cX7_fullTop 5 = .ok (.if_icmp .ne 11, 3) := by decide +kernel
theorem dX7_fullTop_8 : decode cX7_fullTop 8 = .ok (.aload_n 0, 1) := by decide +kernel
theorem dX7_fullTop_9 : decode cX7_fullTop 9 = .ok (.getfield 63, 3) := by decide +kernel
theorem dX7_fullTop_12 : decode cX7_fullTop 12 = .ok (.iload_n 2, 1) := by decide +kernel
theorem dX7_fullTop_13 : decode cX7_fullTop 13 = .ok (.if_icmp .eq 26, 3) := by decide +kernel
theorem dX7_fullTop_16 : decode cX7_fullTop 16 = .ok (.aload_n 0, 1) := by decide +kernel
theorem dX7_fullTop_17 : decode cX7_fullTop 17 = .ok (.aload_n 0, 1) := by decide +kernel
theorem dX7_fullTop_18 : decode cX7_fullTop 18 = .ok (.iload_n 1, 1) := by decide +kernel
theorem dX7_fullTop_19 : decode cX7_fullTop 19 = .ok (.iload_n 2, 1) := by decide +kernel
theorem dX7_fullTop_20 : decode cX7_fullTop 20 = .ok (.sipush 999, 3) := by decide +kernel
theorem dX7_fullTop_23 : decode cX7_fullTop 23 = .ok (.invokevirtual 66, 3) := by decide +kernel
theorem dX7_fullTop_26 : decode cX7_fullTop 26 = .ok (.putfield 70, 3) := by decide +kernel
theorem dX7_fullTop_29 : decode cX7_fullTop 29 = .ok (.aload_n 0, 1) := by decide +kernel
theorem dX7_fullTop_30 : decode cX7_fullTop 30 = .ok (.iload_n 1, 1) := by decide +kernel
theorem dX7_fullTop_31 : decode cX7_fullTop 31 = .ok (.putfield 60, 3) := by decide +kernel
theorem dX7_fullTop_34 : decode cX7_fullTop 34 = .ok (.aload_n 0, 1) := by decide +kernel
theorem dX7_fullTop_35 : decode cX7_fullTop 35 = .ok (.iload_n 2, 1) := by decide +kernel
theorem dX7_fullTop_36 : decode cX7_fullTop 36 = .ok (.putfield 63, 3) := by decide +kernel
theorem dX7_fullTop_39 : decode cX7_fullTop 39 = .ok (.aload_n 0, 1) := by decide +kernel
theorem dX7_fullTop_40 : decode cX7_fullTop 40 = .ok (.getfield 70, 3) := by decide +kernel
theorem dX7_fullTop_43 : decode cX7_fullTop 43 = .ok (.ireturn, 1) := by decide +kernel
theorem dX7_intervalOf_0 : decode cX7_intervalOf 0 = .ok (.aload_n 0, 1) := by decide +kernel
theorem dX7_intervalOf_1 : decode cX7_intervalOf 1 = .ok (.iload_n 1, 1) := by decide +kernel
theorem dX7_intervalOf_2 : decode cX7_intervalOf 2 = .ok (.iload_n 3, 1) := by decide +kernel
theorem dX7_intervalOf_3 : decode cX7_intervalOf 3 = .ok (.invokevirtual 52, 3) := by decide +kernel
theorem dX7_intervalOf_6 : decode cX7_intervalOf 6 = .ok (.istore 4, 2) := by decide +kernel
theorem dX7_intervalOf_8 : decode cX7_intervalOf 8 = .ok (.iload 4, 2) := by decide +kernel
theorem dX7_intervalOf_10 : decode cX7_intervalOf 10 = .ok (.iload_n 2, 1) := by decide +kernel
theorem dX7_intervalOf_11 : decode cX7_intervalOf 11 = .ok (.invokestatic 56, 3) := by decide +kernel
theorem dX7_intervalOf_14 : decode cX7_intervalOf 14 = .ok (.if_icmp .le 8, 3) := by decide +kernel
theorem dX7_intervalOf_17 : decode cX7_intervalOf 17 = .ok (.iload 4, 2) := by decide +kernel
theorem dX7_intervalOf_19 : decode cX7_intervalOf 19 = .ok (.goto 7, 3) := by decide +kernel
theorem dX7_intervalOf_22 : decode cX7_intervalOf 22 = .ok (.iload_n 2, 1) := by decide +kernel
theorem dX7_intervalOf_23 : decode cX7_intervalOf 23 = .ok (.invokestatic 56, 3) := by decide +kernel
theorem dX7_intervalOf_26 : decode cX7_intervalOf 26 = .ok (.ireturn, 1) := by decide +kernel
theorem dX7_indexAfter_0 : decode cX7_indexAfter 0 = .ok (.iload_n 1, 1) := by decide +kernel
theorem dX7_indexAfter_1 : decode cX7_indexAfter 1 = .ok (.iconst 1, 1) := by decide +kernel
theorem dX7_indexAfter_2 : decode cX7_indexAfter 2 = .ok (.isub, 1) := by decide +kernel
theorem dX7_indexAfter_3 : decode cX7_indexAfter 3 = .ok (.iload_n 2, 1) := by decide +kernel
theorem dX7_indexAfter_4 : decode cX7_indexAfter 4 = .ok (.if_icmp .ge 9, 3) := by decide +kernel
theorem dX7_indexAfter_7 : decode cX7_indexAfter 7 = .ok (.iload_n 1, 1) := by decide +kernel
theorem dX7_indexAfter_8 : decode cX7_indexAfter 8 = .ok (.iconst 1, 1) := by decide +kernel
theorem dX7_indexAfter_9 : decode cX7_indexAfter 9 = .ok (.isub, 1) := by decide +kernel
theorem dX7_indexAfter_10 : decode cX7_indexAfter 10 = .ok (.goto 4, 3) := by decide +kernel
theorem dX7_indexAfter_13 : decode cX7_indexAfter 13 = .ok (.iload_n 2, 1) := by decide +kernel
theorem dX7_indexAfter_14 : decode cX7_indexAfter 14 = .ok (.istore_n 3, 1) := by decide +kernel
theorem dX7_indexAfter_15 : decode cX7_indexAfter 15 = .ok (.iload_n 0, 1) := by decide +kernel
theorem dX7_indexAfter_16 : decode cX7_indexAfter 16 = .ok (.iconst 1, 1) := by decide +kernel
theorem dX7_indexAfter_17 : decode cX7_indexAfter 17 = .ok (.iadd, 1) := by decide +kernel
theorem dX7_indexAfter_18 : decode cX7_indexAfter 18 = .ok (.iload_n 3, 1) := by decide +kernel
theorem dX7_indexAfter_19 : decode cX7_indexAfter 19 = .ok (.if_icmp .gt 9, 3) := by decide +kernel
theorem dX7_indexAfter_22 : decode cX7_indexAfter 22 = .ok (.iload_n 0, 1) := by decide +kernel
theorem dX7_indexAfter_23 : decode cX7_indexAfter 23 = .ok (.iconst 1, 1) := by decide +kernel
theorem dX7_indexAfter_24 : decode cX7_indexAfter 24 = .ok (.iadd, 1) := by decide +kernel
theorem dX7_indexAfter_25 : decode cX7_indexAfter 25 = .ok (.goto 15, 3) := by decide +kernel
theorem dX7_indexAfter_28 : decode cX7_indexAfter 28 = .ok (.iload_n 0, 1) := by decide +kernel
theorem dX7_indexAfter_29 : decode cX7_indexAfter 29 = .ok (.iload_n 3, 1) := by decide +kernel
theorem dX7_indexAfter_30 : decode cX7_indexAfter 30 = .ok (.if_icmp .gt 7, 3) := by decide +kernel
theorem dX7_indexAfter_33 : decode cX7_indexAfter 33 = .ok (.iload_n 0, 1) := by decide +kernel
theorem dX7_indexAfter_34 : decode cX7_indexAfter 34 = .ok (.goto 6, 3) := by decide +kernel
theorem dX7_indexAfter_37 : decode cX7_indexAfter 37 = .ok (.iload_n 0, 1) := by decide +kernel
theorem dX7_indexAfter_38 : decode cX7_indexAfter 38 = .ok (.iconst 1, 1) := by decide +kernel
theorem dX7_indexAfter_39 : decode cX7_indexAfter 39 = .ok (.isub, 1) := by decide +kernel
theorem dX7_indexAfter_40 : decode cX7_indexAfter 40 = .ok (.ireturn, 1) := by decide +kernel
theorem dX7_ticksOf_0 : decode cX7_ticksOf 0 = .ok (.aload_n 0, 1) := by decide +kernel
theorem dX7_ticksOf_1 : decode cX7_ticksOf 1 = .ok (.iload_n 1, 1) := by decide +kernel
theorem dX7_ticksOf_2 : decode cX7_ticksOf 2 = .ok (.iload_n 2, 1) := by decide +kernel
theorem dX7_ticksOf_3 : decode cX7_ticksOf 3 = .ok (.iload_n 3, 1) := by decide +kernel
theorem dX7_ticksOf_4 : decode cX7_ticksOf 4 = .ok (.iconst 2, 1) := by decide +kernel
theorem dX7_ticksOf_5 : decode cX7_ticksOf 5 = .ok (.idiv, 1) := by decide +kernel
theorem dX7_ticksOf_6 : decode cX7_ticksOf 6 = .ok (.iconst 1, 1) := by decide +kernel
theorem dX7_ticksOf_7 : decode cX7_ticksOf 7 = .ok (.iadd, 1) := by decide +kernel
theorem dX7_ticksOf_8 : decode cX7_ticksOf 8 = .ok (.sipush 999, 3) := by decide +kernel
theorem dX7_ticksOf_11 : decode cX7_ticksOf 11 = .ok (.if_icmp .ge 11, 3) := by decide +kernel
theorem dX7_ticksOf_14 : decode cX7_ticksOf 14 = .ok (.iload_n 3, 1) := by decide +kernel
theorem dX7_ticksOf_15 : decode cX7_ticksOf 15 = .ok (.iconst 2, 1) := by decide +kernel
theorem dX7_ticksOf_16 : decode cX7_ticksOf 16 = .ok (.idiv, 1) := by decide +kernel
theorem dX7_ticksOf_17 : decode cX7_ticksOf 17 = .ok (.iconst 1, 1) := by decide +kernel
theorem dX7_ticksOf_18 : decode cX7_ticksOf 18 = .ok (.iadd, 1) := by decide +kernel
theorem dX7_ticksOf_19 : decode cX7_ticksOf 19 = .ok (.goto 6, 3) := by decide +kernel
theorem dX7_ticksOf_22 : decode cX7_ticksOf 22 = .ok (.sipush 999, 3) := by decide +kernel
theorem dX7_ticksOf_25 : decode cX7_ticksOf 25 = .ok (.invokevirtual 66, 3) := by decide +kernel
theorem dX7_ticksOf_28 : decode cX7_ticksOf 28 = .ok (.istore 4, 2) := by decide +kernel
theorem dX7_ticksOf_30 : decode cX7_ticksOf 30 = .ok (.iconst 0, 1) := by decide +kernel
theorem dX7_ticksOf_31 : decode cX7_ticksOf 31 = .ok (.istore 5, 2) := by decide +kernel
theorem dX7_ticksOf_33 : decode cX7_ticksOf 33 = .ok (.aload_n 0, 1) := by decide +kernel
theorem dX7_ticksOf_34 : decode cX7_ticksOf 34 = .ok (.iload_n 1, 1) := by decide +kernel
theorem dX7_ticksOf_35 : decode cX7_ticksOf 35 = .ok (.iload_n 2, 1) := by decide +kernel
theorem dX7_ticksOf_36 : decode cX7_ticksOf 36 = .ok (.iconst 0, 1) := by decide +kernel
theorem dX7_ticksOf_37 : decode cX7_ticksOf 37 = .ok (.invokevirtual 73, 3) := by decide +kernel
theorem dX7_ticksOf_40 : decode cX7_ticksOf 40 = .ok (.istore 6, 2) := by decide +kernel
theorem dX7_ticksOf_42 : decode cX7_ticksOf 42 = .ok (.iload_n 3, 1) := by decide +kernel
theorem dX7_ticksOf_43 : decode cX7_ticksOf 43 = .ok (.iconst 1, 1) := by decide +kernel
theorem dX7_ticksOf_44 : decode cX7_ticksOf 44 = .ok (.isub, 1) := by decide +kernel
theorem dX7_ticksOf_45 : decode cX7_ticksOf 45 = .ok (.istore 7, 2) := by decide +kernel
theorem dX7_ticksOf_47 : decode cX7_ticksOf 47 = .ok (.iload 7, 2) := by decide +kernel
theorem dX7_ticksOf_49 : decode cX7_ticksOf 49 = .ok (.ifCond .le 33, 3) := by decide +kernel
theorem dX7_ticksOf_52 : decode cX7_ticksOf 52 = .ok (.iload 5, 2) := by decide +kernel
theorem dX7_ticksOf_54 : decode cX7_ticksOf 54 = .ok (.iload 7, 2) := by decide +kernel
theorem dX7_ticksOf_56 : decode cX7_ticksOf 56 = .ok (.iload 4, 2) := by decide +kernel
theorem dX7_ticksOf_58 : decode cX7_ticksOf 58 = .ok (.invokestatic 76, 3) := by decide +kernel
theorem dX7_ticksOf_61 : decode cX7_ticksOf 61 = .ok (.istore 5, 2) := by decide +kernel
theorem dX7_ticksOf_63 : decode cX7_ticksOf 63 = .ok (.iload 6, 2) := by decide +kernel
theorem dX7_ticksOf_65 : decode cX7_ticksOf 65 = .ok (.aload_n 0, 1) := by decide +kernel
theorem dX7_ticksOf_66 : decode cX7_ticksOf 66 = .ok (.iload_n 1, 1) := by decide +kernel
theorem dX7_ticksOf_67 : decode cX7_ticksOf 67 = .ok (.iload_n 2, 1) := by decide +kernel
theorem dX7_ticksOf_68 : decode cX7_ticksOf 68 = .ok (.iload 5, 2) := by decide +kernel
theorem dX7_ticksOf_70 : decode cX7_ticksOf 70 = .ok (.invokevirtual 73, 3) := by decide +kernel
theorem dX7_ticksOf_73 : decode cX7_ticksOf 73 = .ok (.iadd, 1) := by decide +kernel
theorem dX7_ticksOf_74 : decode cX7_ticksOf 74 = .ok (.istore 6, 2) := by decide +kernel
theorem dX7_ticksOf_76 : decode cX7_ticksOf 76 = .ok (.iinc 7 (-1), 3) := by decide +kernel
theorem dX7_ticksOf_79 : decode cX7_ticksOf 79 = .ok (.goto (-32), 3) := by decide +kernel
theorem dX7_ticksOf_82 : decode cX7_ticksOf 82 = .ok (.iload 6, 2) := by decide +kernel
theorem dX7_ticksOf_84 : decode cX7_ticksOf 84 = .ok (.ireturn, 1) := by decide +kernel
theorem dX7_append_0 : decode cX7_append 0 = .ok (.iload_n 1, 1) := by decide +kernel
theorem dX7_append_1 : decode cX7_append 1 = .ok (.i2l, 1) := by decide +kernel
theorem dX7_append_2 : decode cX7_append 2 = .ok (.lconst 0, 1) := by decide +kernel
theorem dX7_append_3 : decode cX7_append 3 = .ok (.ldc2_w 79, 3) := by decide +kernel
theorem dX7_append_6 : decode cX7_append 6 = .ok (.invokestatic 81, 3) := by decide +kernel
theorem dX7_append_9 : decode cX7_append 9 = .ok (.ifCond .ne 6, 3) := by decide +kernel
theorem dX7_append_12 : decode cX7_append 12 = .ok (.bipush (-2), 2) := by decide +kernel
theorem dX7_append_14 : decode cX7_append 14 = .ok (.ireturn, 1) := by decide +kernel
theorem dX7_append_15 : decode cX7_append 15 = .ok (.aload_n 0, 1) := by decide +kernel
theorem dX7_append_16 : decode cX7_append 16 = .ok (.getfield 85, 3) := by decide +kernel
theorem dX7_append_19 : decode cX7_append 19 = .ok (.bipush 80, 2) := by decide +kernel
theorem dX7_append_21 : decode cX7_append 21 = .ok (.if_icmp .ne 6, 3) := by decide +kernel
theorem dX7_append_24 : decode cX7_append 24 = .ok (.bipush (-4), 2) := by decide +kernel
theorem dX7_append_26 : decode cX7_append 26 = .ok (.ireturn, 1) := by decide +kernel
theorem dX7_append_27 : decode cX7_append 27 = .ok (.aload_n 0, 1) := by decide +kernel
theorem dX7_append_28 : decode cX7_append 28 = .ok (.getfield 7, 3) := by decide +kernel
theorem dX7_append_31 : decode cX7_append 31 = .ok (.aload_n 0, 1) := by decide +kernel
theorem dX7_append_32 : decode cX7_append 32 = .ok (.getfield 85, 3) := by decide +kernel
theorem dX7_append_35 : decode cX7_append 35 = .ok (.iload_n 1, 1) := by decide +kernel
theorem dX7_append_36 : decode cX7_append 36 = .ok (.iastore, 1) := by decide +kernel
theorem dX7_append_37 : decode cX7_append 37 = .ok (.aload_n 0, 1) := by decide +kernel
theorem dX7_append_38 : decode cX7_append 38 = .ok (.dup, 1) := by decide +kernel
theorem dX7_append_39 : decode cX7_append 39 = .ok (.getfield 85, 3) := by decide +kernel
theorem dX7_append_42 : decode cX7_append 42 = .ok (.iconst 1, 1) := by decide +kernel
theorem dX7_append_43 : decode cX7_append 43 = .ok (.iadd, 1) := by decide +kernel
theorem dX7_append_44 : decode cX7_append 44 = .ok (.putfield 85, 3) := by decide +kernel
theorem dX7_append_47 : decode cX7_append 47 = .ok (.aload_n 0, 1) := by decide +kernel
theorem dX7_append_48 : decode cX7_append 48 = .ok (.getfield 85, 3) := by decide +kernel
theorem dX7_append_51 : decode cX7_append 51 = .ok (.ireturn, 1) := by decide +kernel
theorem dX7_clearText_0 : decode cX7_clearText 0 = .ok (.aload_n 0, 1) := by decide +kernel
theorem dX7_clearText_1 : decode cX7_clearText 1 = .ok (.getfield 85, 3) := by decide +kernel
theorem dX7_clearText_4 : decode cX7_clearText 4 = .ok (.istore_n 1, 1) := by decide +kernel
theorem dX7_clearText_5 : decode cX7_clearText 5 = .ok (.aload_n 0, 1) := by decide +kernel
theorem dX7_clearText_6 : decode cX7_clearText 6 = .ok (.iconst 0, 1) := by decide +kernel
theorem dX7_clearText_7 : decode cX7_clearText 7 = .ok (.putfield 85, 3) := by decide +kernel
theorem dX7_clearText_10 : decode cX7_clearText 10 = .ok (.iload_n 1, 1) := by decide +kernel
theorem dX7_clearText_11 : decode cX7_clearText 11 = .ok (.ireturn, 1) := by decide +kernel
theorem dX7_takes_0 : decode cX7_takes 0 = .ok (.aload_n 0, 1) := by decide +kernel
theorem dX7_takes_1 : decode cX7_takes 1 = .ok (.getfield 88, 3) := by decide +kernel
theorem dX7_takes_4 : decode cX7_takes 4 = .ok (.aload_n 0, 1) := by decide +kernel
theorem dX7_takes_5 : decode cX7_takes 5 = .ok (.getfield 85, 3) := by decide +kernel
theorem dX7_takes_8 : decode cX7_takes 8 = .ok (.if_icmp .ge 20, 3) := by decide +kernel
theorem dX7_takes_11 : decode cX7_takes 11 = .ok (.aload_n 0, 1) := by decide +kernel
theorem dX7_takes_12 : decode cX7_takes 12 = .ok (.getfield 7, 3) := by decide +kernel
theorem dX7_takes_15 : decode cX7_takes 15 = .ok (.aload_n 0, 1) := by decide +kernel
theorem dX7_takes_16 : decode cX7_takes 16 = .ok (.getfield 88, 3) := by decide +kernel
theorem dX7_takes_19 : decode cX7_takes 19 = .ok (.iaload, 1) := by decide +kernel
theorem dX7_takes_20 : decode cX7_takes 20 = .ok (.iload_n 1, 1) := by decide +kernel
theorem dX7_takes_21 : decode cX7_takes 21 = .ok (.if_icmp .ne 7, 3) := by decide +kernel
theorem dX7_takes_24 : decode cX7_takes 24 = .ok (.iconst 1, 1) := by decide +kernel
theorem dX7_takes_25 : decode cX7_takes 25 = .ok (.goto 4, 3) := by decide +kernel
theorem dX7_takes_28 : decode cX7_takes 28 = .ok (.iconst 0, 1) := by decide +kernel
theorem dX7_takes_29 : decode cX7_takes 29 = .ok (.istore_n 2, 1) := by decide +kernel
theorem dX7_takes_30 : decode cX7_takes 30 = .ok (.aload_n 0, 1) := by decide +kernel
theorem dX7_takes_31 : decode cX7_takes 31 = .ok (.dup, 1) := by decide +kernel
theorem dX7_takes_32 : decode cX7_takes 32 = .ok (.getfield 88, 3) := by decide +kernel
theorem dX7_takes_35 : decode cX7_takes 35 = .ok (.iload_n 2, 1) := by decide +kernel
theorem dX7_takes_36 : decode cX7_takes 36 = .ok (.ifCond .eq 7, 3) := by decide +kernel
theorem dX7_takes_39 : decode cX7_takes 39 = .ok (.iconst 1, 1) := by decide +kernel
theorem dX7_takes_40 : decode cX7_takes 40 = .ok (.goto 4, 3) := by decide +kernel
theorem dX7_takes_43 : decode cX7_takes 43 = .ok (.iconst 0, 1) := by decide +kernel
theorem dX7_takes_44 : decode cX7_takes 44 = .ok (.iadd, 1) := by decide +kernel
theorem dX7_takes_45 : decode cX7_takes 45 = .ok (.putfield 88, 3) := by decide +kernel
theorem dX7_takes_48 : decode cX7_takes 48 = .ok (.iload_n 2, 1) := by decide +kernel
theorem dX7_takes_49 : decode cX7_takes 49 = .ok (.ireturn, 1) := by decide +kernel
theorem dX7_number_0 : decode cX7_number 0 = .ok (.iconst 0, 1) := by decide +kernel
theorem dX7_number_1 : decode cX7_number 1 = .ok (.istore_n 3, 1) := by decide +kernel
theorem dX7_number_2 : decode cX7_number 2 = .ok (.iconst 0, 1) := by decide +kernel
theorem dX7_number_3 : decode cX7_number 3 = .ok (.istore 4, 2) := by decide +kernel
theorem dX7_number_5 : decode cX7_number 5 = .ok (.iload 4, 2) := by decide +kernel
theorem dX7_number_7 : decode cX7_number 7 = .ok (.iload_n 1, 1) := by decide +kernel
theorem dX7_number_8 : decode cX7_number 8 = .ok (.if_icmp .ge 92, 3) := by decide +kernel
theorem dX7_number_11 : decode cX7_number 11 = .ok (.aload_n 0, 1) := by decide +kernel
theorem dX7_number_12 : decode cX7_number 12 = .ok (.getfield 88, 3) := by decide +kernel
theorem dX7_number_15 : decode cX7_number 15 = .ok (.aload_n 0, 1) := by decide +kernel
theorem dX7_number_16 : decode cX7_number 16 = .ok (.getfield 85, 3) := by decide +kernel
theorem dX7_number_19 : decode cX7_number 19 = .ok (.if_icmp .ge 18, 3) := by decide +kernel
theorem dX7_number_22 : decode cX7_number 22 = .ok (.aload_n 0, 1) := by decide +kernel
theorem dX7_number_23 : decode cX7_number 23 = .ok (.getfield 7, 3) := by decide +kernel
theorem dX7_number_26 : decode cX7_number 26 = .ok (.aload_n 0, 1) := by decide +kernel
theorem dX7_number_27 : decode cX7_number 27 = .ok (.getfield 88, 3) := by decide +kernel
theorem dX7_number_30 : decode cX7_number 30 = .ok (.iaload, 1) := by decide +kernel
theorem dX7_number_31 : decode cX7_number 31 = .ok (.bipush 48, 2) := by decide +kernel
theorem dX7_number_33 : decode cX7_number 33 = .ok (.isub, 1) := by decide +kernel
theorem dX7_number_34 : decode cX7_number 34 = .ok (.goto 5, 3) := by decide +kernel
theorem dX7_number_37 : decode cX7_number 37 = .ok (.bipush (-9), 2) := by decide +kernel
theorem dX7_number_39 : decode cX7_number 39 = .ok (.istore 5, 2) := by decide +kernel
theorem dX7_number_41 : decode cX7_number 41 = .ok (.iload 5, 2) := by decide +kernel
theorem dX7_number_43 : decode cX7_number 43 = .ok (.i2l, 1) := by decide +kernel
theorem dX7_number_44 : decode cX7_number 44 = .ok (.lconst 0, 1) := by decide +kernel
theorem dX7_number_45 : decode cX7_number 45 = .ok (.ldc2_w 91, 3) := by decide +kernel
theorem dX7_number_48 : decode cX7_number 48 = .ok (.invokestatic 81, 3) := by decide +kernel
theorem dX7_number_51 : decode cX7_number 51 = .ok (.ifCond .eq 22, 3) := by decide +kernel
theorem dX7_number_54 : decode cX7_number 54 = .ok (.iload 4, 2) := by decide +kernel
theorem dX7_number_56 : decode cX7_number 56 = .ok (.iload_n 1, 1) := by decide +kernel
theorem dX7_number_57 : decode cX7_number 57 = .ok (.iconst 1, 1) := by decide +kernel
theorem dX7_number_58 : decode cX7_number 58 = .ok (.isub, 1) := by decide +kernel
theorem dX7_number_59 : decode cX7_number 59 = .ok (.if_icmp .ne 17, 3) := by decide +kernel
theorem dX7_number_62 : decode cX7_number 62 = .ok (.bipush 10, 2) := by decide +kernel
theorem dX7_number_64 : decode cX7_number 64 = .ok (.iload_n 3, 1) := by decide +kernel
theorem dX7_number_65 : decode cX7_number 65 = .ok (.imul, 1) := by decide +kernel
theorem dX7_number_66 : decode cX7_number 66 = .ok (.iload 5, 2) := by decide +kernel
theorem dX7_number_68 : decode cX7_number 68 = .ok (.iadd, 1) := by decide +kernel
theorem dX7_number_69 : decode cX7_number 69 = .ok (.iload_n 2, 1) := by decide +kernel
theorem dX7_number_70 : decode cX7_number 70 = .ok (.if_icmp .ge 6, 3) := by decide +kernel
theorem dX7_number_73 : decode cX7_number 73 = .ok (.bipush (-9), 2) := by decide +kernel
theorem dX7_number_75 : decode cX7_number 75 = .ok (.ireturn, 1) := by decide +kernel
theorem dX7_number_76 : decode cX7_number 76 = .ok (.bipush 10, 2) := by decide +kernel
theorem dX7_number_78 : decode cX7_number 78 = .ok (.iload_n 3, 1) := by decide +kernel
theorem dX7_number_79 : decode cX7_number 79 = .ok (.imul, 1) := by decide +kernel
theorem dX7_number_80 : decode cX7_number 80 = .ok (.iload 5, 2) := by decide +kernel
theorem dX7_number_82 : decode cX7_number 82 = .ok (.iadd, 1) := by decide +kernel
theorem dX7_number_83 : decode cX7_number 83 = .ok (.istore_n 3, 1) := by decide +kernel
theorem dX7_number_84 : decode cX7_number 84 = .ok (.aload_n 0, 1) := by decide +kernel
theorem dX7_number_85 : decode cX7_number 85 = .ok (.dup, 1) := by decide +kernel
theorem dX7_number_86 : decode cX7_number 86 = .ok (.getfield 88, 3) := by decide +kernel
theorem dX7_number_89 : decode cX7_number 89 = .ok (.iconst 1, 1) := by decide +kernel
theorem dX7_number_90 : decode cX7_number 90 = .ok (.iadd, 1) := by decide +kernel
theorem dX7_number_91 : decode cX7_number 91 = .ok (.putfield 88, 3) := by decide +kernel
theorem dX7_number_94 : decode cX7_number 94 = .ok (.iinc 4 1, 3) := by decide +kernel
theorem dX7_number_97 : decode cX7_number 97 = .ok (.goto (-92), 3) := by decide +kernel
theorem dX7_number_100 : decode cX7_number 100 = .ok (.iload_n 3, 1) := by decide +kernel
theorem dX7_number_101 : decode cX7_number 101 = .ok (.ireturn, 1) := by decide +kernel
theorem dX7_signedNumber_0 : decode cX7_signedNumber 0 = .ok (.aload_n 0, 1) := by decide +kernel
theorem dX7_signedNumber_1 : decode cX7_signedNumber 1 = .ok (.getfield 88, 3) := by decide +kernel
theorem dX7_signedNumber_4 : decode cX7_signedNumber 4 = .ok (.aload_n 0, 1) := by decide +kernel
theorem dX7_signedNumber_5 : decode cX7_signedNumber 5 = .ok (.getfield 85, 3) := by decide +kernel
theorem dX7_signedNumber_8 : decode cX7_signedNumber 8 = .ok (.if_icmp .ge 21, 3) := by decide +kernel
theorem dX7_signedNumber_11 : decode cX7_signedNumber 11 = .ok (.aload_n 0, 1) := by decide +kernel
theorem dX7_signedNumber_12 : decode cX7_signedNumber 12 = .ok (.getfield 7, 3) := by decide +kernel
theorem dX7_signedNumber_15 : decode cX7_signedNumber 15 = .ok (.aload_n 0, 1) := by decide +kernel
theorem dX7_signedNumber_16 : decode cX7_signedNumber 16 = .ok (.getfield 88, 3) := by decide +kernel
theorem dX7_signedNumber_19 : decode cX7_signedNumber 19 = .ok (.iaload, 1) := by decide +kernel
theorem dX7_signedNumber_20 : decode cX7_signedNumber 20 = .ok (.bipush 45, 2) := by decide +kernel
theorem dX7_signedNumber_22 : decode cX7_signedNumber 22 = .ok (.if_icmp .ne 7, 3) := by decide +kernel
theorem dX7_signedNumber_25 : decode cX7_signedNumber 25 = .ok (.iconst 1, 1) := by decide +kernel
theorem dX7_signedNumber_26 : decode cX7_signedNumber 26 = .ok (.goto 4, 3) := by decide +kernel
theorem dX7_signedNumber_29 : decode cX7_signedNumber 29 = .ok (.iconst 0, 1) := by decide +kernel
theorem dX7_signedNumber_30 : decode cX7_signedNumber 30 = .ok (.istore_n 2, 1) := by decide +kernel
theorem dX7_signedNumber_31 : decode cX7_signedNumber 31 = .ok (.iload_n 2, 1) := by decide +kernel
theorem dX7_signedNumber_32 : decode cX7_signedNumber 32 = .ok (.ifCond .ne 15, 3) := by decide +kernel
theorem dX7_signedNumber_35 : decode cX7_signedNumber 35 = .ok (.aload_n 0, 1) := by decide +kernel
theorem dX7_signedNumber_36 : decode cX7_signedNumber 36 = .ok (.bipush 43, 2) := by decide +kernel
theorem dX7_signedNumber_38 : decode cX7_signedNumber 38 = .ok (.invokevirtual 93, 3) := by decide +kernel
theorem dX7_signedNumber_41 : decode cX7_signedNumber 41 = .ok (.ifCond .ne 6, 3) := by decide +kernel
theorem dX7_signedNumber_44 : decode cX7_signedNumber 44 = .ok (.ldc 97, 2) := by decide +kernel
theorem dX7_signedNumber_46 : decode cX7_signedNumber 46 = .ok (.ireturn, 1) := by decide +kernel
theorem dX7_signedNumber_47 : decode cX7_signedNumber 47 = .ok (.aload_n 0, 1) := by decide +kernel
theorem dX7_signedNumber_48 : decode cX7_signedNumber 48 = .ok (.dup, 1) := by decide +kernel
theorem dX7_signedNumber_49 : decode cX7_signedNumber 49 = .ok (.getfield 88, 3) := by decide +kernel
theorem dX7_signedNumber_52 : decode cX7_signedNumber 52 = .ok (.iload_n 2, 1) := by decide +kernel
theorem dX7_signedNumber_53 : decode cX7_signedNumber 53 = .ok (.ifCond .eq 7, 3) := by decide +kernel
theorem dX7_signedNumber_56 : decode cX7_signedNumber 56 = .ok (.iconst 1, 1) := by decide +kernel
theorem dX7_signedNumber_57 : decode cX7_signedNumber 57 = .ok (.goto 4, 3) := by decide +kernel
theorem dX7_signedNumber_60 : decode cX7_signedNumber 60 = .ok (.iconst 0, 1) := by decide +kernel
theorem dX7_signedNumber_61 : decode cX7_signedNumber 61 = .ok (.iadd, 1) := by decide +kernel
theorem dX7_signedNumber_62 : decode cX7_signedNumber 62 = .ok (.putfield 88, 3) := by decide +kernel
theorem dX7_signedNumber_65 : decode cX7_signedNumber 65 = .ok (.aload_n 0, 1) := by decide +kernel
theorem dX7_signedNumber_66 : decode cX7_signedNumber 66 = .ok (.iconst 3, 1) := by decide +kernel
theorem dX7_signedNumber_67 : decode cX7_signedNumber 67 = .ok (.iload_n 1, 1) := by decide +kernel
theorem dX7_signedNumber_68 : decode cX7_signedNumber 68 = .ok (.invokevirtual 98, 3) := by decide +kernel
theorem dX7_signedNumber_71 : decode cX7_signedNumber 71 = .ok (.istore_n 3, 1) := by decide +kernel
theorem dX7_signedNumber_72 : decode cX7_signedNumber 72 = .ok (.iload_n 3, 1) := by decide +kernel
theorem dX7_signedNumber_73 : decode cX7_signedNumber 73 = .ok (.bipush (-9), 2) := by decide +kernel
theorem dX7_signedNumber_75 : decode cX7_signedNumber 75 = .ok (.if_icmp .ne 8, 3) := by decide +kernel
theorem dX7_signedNumber_78 : decode cX7_signedNumber 78 = .ok (.ldc 97, 2) := by decide +kernel
theorem dX7_signedNumber_80 : decode cX7_signedNumber 80 = .ok (.goto 13, 3) := by decide +kernel
theorem dX7_signedNumber_83 : decode cX7_signedNumber 83 = .ok (.iload_n 2, 1) := by decide +kernel
theorem dX7_signedNumber_84 : decode cX7_signedNumber 84 = .ok (.ifCond .eq 8, 3) := by decide +kernel
theorem dX7_signedNumber_87 : decode cX7_signedNumber 87 = .ok (.iload_n 3, 1) := by decide +kernel
theorem dX7_signedNumber_88 : decode cX7_signedNumber 88 = .ok (.ineg, 1) := by decide +kernel
theorem dX7_signedNumber_89 : decode cX7_signedNumber 89 = .ok (.goto 4, 3) := by decide +kernel
theorem dX7_signedNumber_92 : decode cX7_signedNumber 92 = .ok (.iload_n 3, 1) := by decide +kernel
theorem dX7_signedNumber_93 : decode cX7_signedNumber 93 = .ok (.ireturn, 1) := by decide +kernel
theorem dX7_readItem_0 : decode cX7_readItem 0 = .ok (.bipush 9, 2) := by decide +kernel
theorem dX7_readItem_2 : decode cX7_readItem 2 = .ok (.iconst 3, 1) := by decide +kernel
theorem dX7_readItem_3 : decode cX7_readItem 3 = .ok (.aload_n 0, 1) := by decide +kernel
theorem dX7_readItem_4 : decode cX7_readItem 4 = .ok (.getfield 19, 3) := by decide +kernel
theorem dX7_readItem_7 : decode cX7_readItem 7 = .ok (.iconst 5, 1) := by decide +kernel
theorem dX7_readItem_8 : decode cX7_readItem 8 = .ok (.iaload, 1) := by decide +kernel
theorem dX7_readItem_9 : decode cX7_readItem 9 = .ok (.imul, 1) := by decide +kernel
theorem dX7_readItem_10 : decode cX7_readItem 10 = .ok (.iadd, 1) := by decide +kernel
theorem dX7_readItem_11 : decode cX7_readItem 11 = .ok (.istore_n 1, 1) := by decide +kernel
theorem dX7_readItem_12 : decode cX7_readItem 12 = .ok (.aload_n 0, 1) := by decide +kernel
theorem dX7_readItem_13 : decode cX7_readItem 13 = .ok (.getfield 19, 3) := by decide +kernel
theorem dX7_readItem_16 : decode cX7_readItem 16 = .ok (.iconst 5, 1) := by decide +kernel
theorem dX7_readItem_17 : decode cX7_readItem 17 = .ok (.iaload, 1) := by decide +kernel
theorem dX7_readItem_18 : decode cX7_readItem 18 = .ok (.bipush 8, 2) := by decide +kernel
theorem dX7_readItem_20 : decode cX7_readItem 20 = .ok (.if_icmp .ne 5, 3) := by decide +kernel
theorem dX7_readItem_23 : decode cX7_readItem 23 = .ok (.iconst 0, 1) := by decide +kernel
theorem dX7_readItem_24 : decode cX7_readItem 24 = .ok (.ireturn, 1) := by decide +kernel
theorem dX7_readItem_25 : decode cX7_readItem 25 = .ok (.aload_n 0, 1) := by decide +kernel
theorem dX7_readItem_26 : decode cX7_readItem 26 = .ok (.bipush 119, 2) := by decide +kernel
theorem dX7_readItem_28 : decode cX7_readItem 28 = .ok (.invokevirtual 93, 3) := by decide +kernel
theorem dX7_readItem_31 : decode cX7_readItem 31 = .ok (.ifCond .eq 46, 3) := by decide +kernel
theorem dX7_readItem_34 : decode cX7_readItem 34 = .ok (.aload_n 0, 1) := by decide +kernel
theorem dX7_readItem_35 : decode cX7_readItem 35 = .ok (.getfield 19, 3) := by decide +kernel
theorem dX7_readItem_38 : decode cX7_readItem 38 = .ok (.iload_n 1, 1) := by decide +kernel
theorem dX7_readItem_39 : decode cX7_readItem 39 = .ok (.iconst 2, 1) := by decide +kernel
theorem dX7_readItem_40 : decode cX7_readItem 40 = .ok (.iadd, 1) := by decide +kernel
theorem dX7_readItem_41 : decode cX7_readItem 41 = .ok (.aload_n 0, 1) := by decide +kernel
theorem dX7_readItem_42 : decode cX7_readItem 42 = .ok (.iconst 4, 1) := by decide +kernel
theorem dX7_readItem_43 : decode cX7_readItem 43 = .ok (.iconst 1, 1) := by decide +kernel
theorem dX7_readItem_44 : decode cX7_readItem 44 = .ok (.invokevirtual 98, 3) := by decide +kernel
theorem dX7_readItem_47 : decode cX7_readItem 47 = .ok (.iastore, 1) := by decide +kernel
theorem dX7_readItem_48 : decode cX7_readItem 48 = .ok (.aload_n 0, 1) := by decide +kernel
theorem dX7_readItem_49 : decode cX7_readItem 49 = .ok (.getfield 19, 3) := by decide +kernel
theorem dX7_readItem_52 : decode cX7_readItem 52 = .ok (.iconst 5, 1) := by decide +kernel
theorem dX7_readItem_53 : decode cX7_readItem 53 = .ok (.dup2, 1) := by decide +kernel
theorem dX7_readItem_54 : decode cX7_readItem 54 = .ok (.iaload, 1) := by decide +kernel
theorem dX7_readItem_55 : decode cX7_readItem 55 = .ok (.iconst 1, 1) := by decide +kernel
theorem dX7_readItem_56 : decode cX7_readItem 56 = .ok (.iadd, 1) := by decide +kernel
theorem dX7_readItem_57 : decode cX7_readItem 57 = .ok (.iastore, 1) := by decide +kernel
theorem dX7_readItem_58 : decode cX7_readItem 58 = .ok (.aload_n 0, 1) := by decide +kernel
theorem dX7_readItem_59 : decode cX7_readItem 59 = .ok (.getfield 19, 3) := by decide +kernel
theorem dX7_readItem_62 : decode cX7_readItem 62 = .ok (.iload_n 1, 1) := by decide +kernel
theorem dX7_readItem_63 : decode cX7_readItem 63 = .ok (.iconst 2, 1) := by decide +kernel
theorem dX7_readItem_64 : decode cX7_readItem 64 = .ok (.iadd, 1) := by decide +kernel
theorem dX7_readItem_65 : decode cX7_readItem 65 = .ok (.iaload, 1) := by decide +kernel
theorem dX7_readItem_66 : decode cX7_readItem 66 = .ok (.bipush (-9), 2) := by decide +kernel
theorem dX7_readItem_68 : decode cX7_readItem 68 = .ok (.if_icmp .eq 7, 3) := by decide +kernel
theorem dX7_readItem_71 : decode cX7_readItem 71 = .ok (.iconst 1, 1) := by decide +kernel
theorem dX7_readItem_72 : decode cX7_readItem 72 = .ok (.goto 4, 3) := by decide +kernel
theorem dX7_readItem_75 : decode cX7_readItem 75 = .ok (.iconst 0, 1) := by decide +kernel
theorem dX7_readItem_76 : decode cX7_readItem 76 = .ok (.ireturn, 1) := by decide +kernel
theorem dX7_readItem_77 : decode cX7_readItem 77 = .ok (.aload_n 0, 1) := by decide +kernel
theorem dX7_readItem_78 : decode cX7_readItem 78 = .ok (.bipush 109, 2) := by decide +kernel
theorem dX7_readItem_80 : decode cX7_readItem 80 = .ok (.invokevirtual 93, 3) := by decide +kernel
theorem dX7_readItem_83 : decode cX7_readItem 83 = .ok (.ifCond .ne 5, 3) := by decide +kernel
theorem dX7_readItem_86 : decode cX7_readItem 86 = .ok (.iconst 0, 1) := by decide +kernel
theorem dX7_readItem_87 : decode cX7_readItem 87 = .ok (.ireturn, 1) := by decide +kernel
theorem dX7_readItem_88 : decode cX7_readItem 88 = .ok (.aload_n 0, 1) := by decide +kernel
theorem dX7_readItem_89 : decode cX7_readItem 89 = .ok (.getfield 19, 3) := by decide +kernel
theorem dX7_readItem_92 : decode cX7_readItem 92 = .ok (.iload_n 1, 1) := by decide +kernel
theorem dX7_readItem_93 : decode cX7_readItem 93 = .ok (.aload_n 0, 1) := by decide +kernel
theorem dX7_readItem_94 : decode cX7_readItem 94 = .ok (.iconst 0, 1) := by decide +kernel
theorem dX7_readItem_95 : decode cX7_readItem 95 = .ok (.invokevirtual 101, 3) := by decide +kernel
theorem dX7_readItem_98 : decode cX7_readItem 98 = .ok (.iastore, 1) := by decide +kernel
theorem dX7_readItem_99 : decode cX7_readItem 99 = .ok (.aload_n 0, 1) := by decide +kernel
theorem dX7_readItem_100 : decode cX7_readItem 100 = .ok (.getfield 19, 3) := by decide +kernel
theorem dX7_readItem_103 : decode cX7_readItem 103 = .ok (.iload_n 1, 1) := by decide +kernel
theorem dX7_readItem_104 : decode cX7_readItem 104 = .ok (.iaload, 1) := by decide +kernel
theorem dX7_readItem_105 : decode cX7_readItem 105 = .ok (.i2l, 1) := by decide +kernel
theorem dX7_readItem_106 : decode cX7_readItem 106 = .ok (.ldc2_w 104, 3) := by decide +kernel
theorem dX7_readItem_109 : decode cX7_readItem 109 = .ok (.ldc2_w 106, 3) := by decide +kernel
theorem dX7_readItem_112 : decode cX7_readItem 112 = .ok (.invokestatic 81, 3) := by decide +kernel
theorem dX7_readItem_115 : decode cX7_readItem 115 = .ok (.ifCond .ne 5, 3) := by decide +kernel
theorem dX7_readItem_118 : decode cX7_readItem 118 = .ok (.iconst 0, 1) := by decide +kernel
theorem dX7_readItem_119 : decode cX7_readItem 119 = .ok (.ireturn, 1) := by decide +kernel
theorem dX7_readItem_120 : decode cX7_readItem 120 = .ok (.aload_n 0, 1) := by decide +kernel
theorem dX7_readItem_121 : decode cX7_readItem 121 = .ok (.getfield 19, 3) := by decide +kernel
theorem dX7_readItem_124 : decode cX7_readItem 124 = .ok (.iload_n 1, 1) := by decide +kernel
theorem dX7_readItem_125 : decode cX7_readItem 125 = .ok (.iconst 1, 1) := by decide +kernel
theorem dX7_readItem_126 : decode cX7_readItem 126 = .ok (.iadd, 1) := by decide +kernel
theorem dX7_readItem_127 : decode cX7_readItem 127 = .ok (.aload_n 0, 1) := by decide +kernel
theorem dX7_readItem_128 : decode cX7_readItem 128 = .ok (.aload_n 0, 1) := by decide +kernel
theorem dX7_readItem_129 : decode cX7_readItem 129 = .ok (.getfield 19, 3) := by decide +kernel
theorem dX7_readItem_132 : decode cX7_readItem 132 = .ok (.iload_n 1, 1) := by decide +kernel
theorem dX7_readItem_133 : decode cX7_readItem 133 = .ok (.iaload, 1) := by decide +kernel
theorem dX7_readItem_134 : decode cX7_readItem 134 = .ok (.ifCond .ne 7, 3) := by decide +kernel
theorem dX7_readItem_137 : decode cX7_readItem 137 = .ok (.iconst 1, 1) := by decide +kernel
theorem dX7_readItem_138 : decode cX7_readItem 138 = .ok (.goto 4, 3) := by decide +kernel
theorem dX7_readItem_141 : decode cX7_readItem 141 = .ok (.iconst 0, 1) := by decide +kernel
theorem dX7_readItem_142 : decode cX7_readItem 142 = .ok (.invokevirtual 101, 3) := by decide +kernel
theorem dX7_readItem_145 : decode cX7_readItem 145 = .ok (.iastore, 1) := by decide +kernel
theorem dX7_readItem_146 : decode cX7_readItem 146 = .ok (.aload_n 0, 1) := by decide +kernel
theorem dX7_readItem_147 : decode cX7_readItem 147 = .ok (.getfield 19, 3) := by decide +kernel
theorem dX7_readItem_150 : decode cX7_readItem 150 = .ok (.iconst 5, 1) := by decide +kernel
theorem dX7_readItem_151 : decode cX7_readItem 151 = .ok (.dup2, 1) := by decide +kernel
theorem dX7_readItem_152 : decode cX7_readItem 152 = .ok (.iaload, 1) := by decide +kernel
theorem dX7_readItem_153 : decode cX7_readItem 153 = .ok (.iconst 1, 1) := by decide +kernel
theorem dX7_readItem_154 : decode cX7_readItem 154 = .ok (.iadd, 1) := by decide +kernel
theorem dX7_readItem_155 : decode cX7_readItem 155 = .ok (.iastore, 1) := by decide +kernel
theorem dX7_readItem_156 : decode cX7_readItem 156 = .ok (.aload_n 0, 1) := by decide +kernel
theorem dX7_readItem_157 : decode cX7_readItem 157 = .ok (.getfield 19, 3) := by decide +kernel
theorem dX7_readItem_160 : decode cX7_readItem 160 = .ok (.iload_n 1, 1) := by decide +kernel
theorem dX7_readItem_161 : decode cX7_readItem 161 = .ok (.iconst 1, 1) := by decide +kernel
theorem dX7_readItem_162 : decode cX7_readItem 162 = .ok (.iadd, 1) := by decide +kernel
theorem dX7_readItem_163 : decode cX7_readItem 163 = .ok (.iaload, 1) := by decide +kernel
theorem dX7_readItem_164 : decode cX7_readItem 164 = .ok (.i2l, 1) := by decide +kernel
theorem dX7_readItem_165 : decode cX7_readItem 165 = .ok (.ldc2_w 104, 3) := by decide +kernel
theorem dX7_readItem_168 : decode cX7_readItem 168 = .ok (.ldc2_w 106, 3) := by decide +kernel
theorem dX7_readItem_171 : decode cX7_readItem 171 = .ok (.invokestatic 81, 3) := by decide +kernel
theorem dX7_readItem_174 : decode cX7_readItem 174 = .ok (.ireturn, 1) := by decide +kernel
theorem dX7_readText_0 : decode cX7_readText 0 = .ok (.iconst 0, 1) := by decide +kernel
theorem dX7_readText_1 : decode cX7_readText 1 = .ok (.istore_n 1, 1) := by decide +kernel
theorem dX7_readText_2 : decode cX7_readText 2 = .ok (.iload_n 1, 1) := by decide +kernel
theorem dX7_readText_3 : decode cX7_readText 3 = .ok (.bipush 33, 2) := by decide +kernel
theorem dX7_readText_5 : decode cX7_readText 5 = .ok (.if_icmp .ge 16, 3) := by decide +kernel
theorem dX7_readText_8 : decode cX7_readText 8 = .ok (.aload_n 0, 1) := by decide +kernel
theorem dX7_readText_9 : decode cX7_readText 9 = .ok (.getfield 19, 3) := by decide +kernel
theorem dX7_readText_12 : decode cX7_readText 12 = .ok (.iload_n 1, 1) := by decide +kernel
theorem dX7_readText_13 : decode cX7_readText 13 = .ok (.iconst 0, 1) := by decide +kernel
theorem dX7_readText_14 : decode cX7_readText 14 = .ok (.iastore, 1) := by decide +kernel
theorem dX7_readText_15 : decode cX7_readText 15 = .ok (.iinc 1 1, 3) := by decide +kernel
theorem dX7_readText_18 : decode cX7_readText 18 = .ok (.goto (-16), 3) := by decide +kernel
theorem dX7_readText_21 : decode cX7_readText 21 = .ok (.aload_n 0, 1) := by decide +kernel
theorem dX7_readText_22 : decode cX7_readText 22 = .ok (.getfield 19, 3) := by decide +kernel
theorem dX7_readText_25 : decode cX7_readText 25 = .ok (.bipush 7, 2) := by decide +kernel
theorem dX7_readText_27 : decode cX7_readText 27 = .ok (.bipush (-9), 2) := by decide +kernel
theorem dX7_readText_29 : decode cX7_readText 29 = .ok (.iastore, 1) := by decide +kernel
theorem dX7_readText_30 : decode cX7_readText 30 = .ok (.aload_n 0, 1) := by decide +kernel
theorem dX7_readText_31 : decode cX7_readText 31 = .ok (.iconst 0, 1) := by decide +kernel
theorem dX7_readText_32 : decode cX7_readText 32 = .ok (.putfield 88, 3) := by decide +kernel
theorem dX7_readText_35 : decode cX7_readText 35 = .ok (.aload_n 0, 1) := by decide +kernel
theorem dX7_readText_36 : decode cX7_readText 36 = .ok (.bipush 97, 2) := by decide +kernel
theorem dX7_readText_38 : decode cX7_readText 38 = .ok (.invokevirtual 93, 3) := by decide +kernel
theorem dX7_readText_41 : decode cX7_readText 41 = .ok (.ifCond .ne 8, 3) := by decide +kernel
theorem dX7_readText_44 : decode cX7_readText 44 = .ok (.aload_n 0, 1) := by decide +kernel
theorem dX7_readText_45 : decode cX7_readText 45 = .ok (.getfield 88, 3) := by decide +kernel
theorem dX7_readText_48 : decode cX7_readText 48 = .ok (.ireturn, 1) := by decide +kernel
theorem dX7_readText_49 : decode cX7_readText 49 = .ok (.aload_n 0, 1) := by decide +kernel
theorem dX7_readText_50 : decode cX7_readText 50 = .ok (.getfield 19, 3) := by decide +kernel
theorem dX7_readText_53 : decode cX7_readText 53 = .ok (.iconst 0, 1) := by decide +kernel
theorem dX7_readText_54 : decode cX7_readText 54 = .ok (.aload_n 0, 1) := by decide +kernel
theorem dX7_readText_55 : decode cX7_readText 55 = .ok (.iconst 3, 1) := by decide +kernel
theorem dX7_readText_56 : decode cX7_readText 56 = .ok (.iconst 1, 1) := by decide +kernel
theorem dX7_readText_57 : decode cX7_readText 57 = .ok (.invokevirtual 98, 3) := by decide +kernel
theorem dX7_readText_60 : decode cX7_readText 60 = .ok (.iastore, 1) := by decide +kernel
theorem dX7_readText_61 : decode cX7_readText 61 = .ok (.aload_n 0, 1) := by decide +kernel
theorem dX7_readText_62 : decode cX7_readText 62 = .ok (.getfield 19, 3) := by decide +kernel
theorem dX7_readText_65 : decode cX7_readText 65 = .ok (.iconst 0, 1) := by decide +kernel
theorem dX7_readText_66 : decode cX7_readText 66 = .ok (.iaload, 1) := by decide +kernel
theorem dX7_readText_67 : decode cX7_readText 67 = .ok (.bipush (-9), 2) := by decide +kernel
theorem dX7_readText_69 : decode cX7_readText 69 = .ok (.if_icmp .eq 12, 3) := by decide +kernel
theorem dX7_readText_72 : decode cX7_readText 72 = .ok (.aload_n 0, 1) := by decide +kernel
theorem dX7_readText_73 : decode cX7_readText 73 = .ok (.bipush 118, 2) := by decide +kernel
theorem dX7_readText_75 : decode cX7_readText 75 = .ok (.invokevirtual 93, 3) := by decide +kernel
theorem dX7_readText_78 : decode cX7_readText 78 = .ok (.ifCond .ne 8, 3) := by decide +kernel
theorem dX7_readText_81 : decode cX7_readText 81 = .ok (.aload_n 0, 1) := by decide +kernel
theorem dX7_readText_82 : decode cX7_readText 82 = .ok (.getfield 88, 3) := by decide +kernel
theorem dX7_readText_85 : decode cX7_readText 85 = .ok (.ireturn, 1) := by decide +kernel
theorem dX7_readText_86 : decode cX7_readText 86 = .ok (.aload_n 0, 1) := by decide +kernel
theorem dX7_readText_87 : decode cX7_readText 87 = .ok (.getfield 19, 3) := by decide +kernel
theorem dX7_readText_90 : decode cX7_readText 90 = .ok (.iconst 1, 1) := by decide +kernel
theorem dX7_readText_91 : decode cX7_readText 91 = .ok (.aload_n 0, 1) := by decide +kernel
theorem dX7_readText_92 : decode cX7_readText 92 = .ok (.iconst 3, 1) := by decide +kernel
theorem dX7_readText_93 : decode cX7_readText 93 = .ok (.iconst 1, 1) := by decide +kernel
theorem dX7_readText_94 : decode cX7_readText 94 = .ok (.invokevirtual 98, 3) := by decide +kernel
theorem dX7_readText_97 : decode cX7_readText 97 = .ok (.iastore, 1) := by decide +kernel
theorem dX7_readText_98 : decode cX7_readText 98 = .ok (.aload_n 0, 1) := by decide +kernel
theorem dX7_readText_99 : decode cX7_readText 99 = .ok (.getfield 19, 3) := by decide +kernel
theorem dX7_readText_102 : decode cX7_readText 102 = .ok (.iconst 1, 1) := by decide +kernel
theorem dX7_readText_103 : decode cX7_readText 103 = .ok (.iaload, 1) := by decide +kernel
theorem dX7_readText_104 : decode cX7_readText 104 = .ok (.bipush (-9), 2) := by decide +kernel
theorem dX7_readText_106 : decode cX7_readText 106 = .ok (.if_icmp .ne 8, 3) := by decide +kernel
theorem dX7_readText_109 : decode cX7_readText 109 = .ok (.aload_n 0, 1) := by decide +kernel
theorem dX7_readText_110 : decode cX7_readText 110 = .ok (.getfield 88, 3) := by decide +kernel
theorem dX7_readText_113 : decode cX7_readText 113 = .ok (.ireturn, 1) := by decide +kernel
theorem dX7_readText_114 : decode cX7_readText 114 = .ok (.aload_n 0, 1) := by decide +kernel
theorem dX7_readText_115 : decode cX7_readText 115 = .ok (.getfield 88, 3) := by decide +kernel
theorem dX7_readText_118 : decode cX7_readText 118 = .ok (.aload_n 0, 1) := by decide +kernel
theorem dX7_readText_119 : decode cX7_readText 119 = .ok (.getfield 85, 3) := by decide +kernel
theorem dX7_readText_122 : decode cX7_readText 122 = .ok (.if_icmp .ge 15, 3) := by decide +kernel
theorem dX7_readText_125 : decode cX7_readText 125 = .ok (.aload_n 0, 1) := by decide +kernel
theorem dX7_readText_126 : decode cX7_readText 126 = .ok (.invokevirtual 108, 3) := by decide +kernel
theorem dX7_readText_129 : decode cX7_readText 129 = .ok (.ifCond .ne (-15), 3) := by decide +kernel
theorem dX7_readText_132 : decode cX7_readText 132 = .ok (.aload_n 0, 1) := by decide +kernel
theorem dX7_readText_133 : decode cX7_readText 133 = .ok (.getfield 88, 3) := by decide +kernel
theorem dX7_readText_136 : decode cX7_readText 136 = .ok (.ireturn, 1) := by decide +kernel
theorem dX7_readText_137 : decode cX7_readText 137 = .ok (.bipush (-9), 2) := by decide +kernel
theorem dX7_readText_139 : decode cX7_readText 139 = .ok (.ireturn, 1) := by decide +kernel
theorem dX7_errorPosition_0 : decode cX7_errorPosition 0 = .ok (.aload_n 0, 1) := by decide +kernel
theorem dX7_errorPosition_1 : decode cX7_errorPosition 1 = .ok (.invokevirtual 112, 3) := by decide +kernel
theorem dX7_errorPosition_4 : decode cX7_errorPosition 4 = .ok (.ireturn, 1) := by decide +kernel
theorem dX7_load_0 : decode cX7_load 0 = .ok (.aload_n 0, 1) := by decide +kernel
theorem dX7_load_1 : decode cX7_load 1 = .ok (.invokevirtual 112, 3) := by decide +kernel
theorem dX7_load_4 : decode cX7_load 4 = .ok (.bipush (-9), 2) := by decide +kernel
theorem dX7_load_6 : decode cX7_load 6 = .ok (.if_icmp .eq 6, 3) := by decide +kernel
theorem dX7_load_9 : decode cX7_load 9 = .ok (.bipush (-3), 2) := by decide +kernel
theorem dX7_load_11 : decode cX7_load 11 = .ok (.ireturn, 1) := by decide +kernel
theorem dX7_load_12 : decode cX7_load 12 = .ok (.aload_n 0, 1) := by decide +kernel
theorem dX7_load_13 : decode cX7_load 13 = .ok (.getfield 19, 3) := by decide +kernel
theorem dX7_load_16 : decode cX7_load 16 = .ok (.aload_n 0, 1) := by decide +kernel
theorem dX7_load_17 : decode cX7_load 17 = .ok (.getfield 13, 3) := by decide +kernel
theorem dX7_load_20 : decode cX7_load 20 = .ok (.invokestatic 116, 3) := by decide +kernel
theorem dX7_load_23 : decode cX7_load 23 = .ok (.aload_n 0, 1) := by decide +kernel
theorem dX7_load_24 : decode cX7_load 24 = .ok (.iconst 0, 1) := by decide +kernel
theorem dX7_load_25 : decode cX7_load 25 = .ok (.putfield 120, 3) := by decide +kernel
theorem dX7_load_28 : decode cX7_load 28 = .ok (.aload_n 0, 1) := by decide +kernel
theorem dX7_load_29 : decode cX7_load 29 = .ok (.getfield 28, 3) := by decide +kernel
theorem dX7_load_32 : decode cX7_load 32 = .ok (.iconst 0, 1) := by decide +kernel
theorem dX7_load_33 : decode cX7_load 33 = .ok (.iconst 0, 1) := by decide +kernel
theorem dX7_load_34 : decode cX7_load 34 = .ok (.bastore, 1) := by decide +kernel
theorem dX7_load_35 : decode cX7_load 35 = .ok (.aload_n 0, 1) := by decide +kernel
theorem dX7_load_36 : decode cX7_load 36 = .ok (.getfield 28, 3) := by decide +kernel
theorem dX7_load_39 : decode cX7_load 39 = .ok (.iconst 1, 1) := by decide +kernel
theorem dX7_load_40 : decode cX7_load 40 = .ok (.iconst 0, 1) := by decide +kernel
theorem dX7_load_41 : decode cX7_load 41 = .ok (.bastore, 1) := by decide +kernel
theorem dX7_load_42 : decode cX7_load 42 = .ok (.aload_n 0, 1) := by decide +kernel
theorem dX7_load_43 : decode cX7_load 43 = .ok (.getfield 13, 3) := by decide +kernel
theorem dX7_load_46 : decode cX7_load 46 = .ok (.iconst 5, 1) := by decide +kernel
theorem dX7_load_47 : decode cX7_load 47 = .ok (.iaload, 1) := by decide +kernel
theorem dX7_load_48 : decode cX7_load 48 = .ok (.ireturn, 1) := by decide +kernel
theorem dX7_position_0 : decode cX7_position 0 = .ok (.iload_n 1, 1) := by decide +kernel
theorem dX7_position_1 : decode cX7_position 1 = .ok (.i2l, 1) := by decide +kernel
theorem dX7_position_2 : decode cX7_position 2 = .ok (.lconst 0, 1) := by decide +kernel
theorem dX7_position_3 : decode cX7_position 3 = .ok (.lconst 1, 1) := by decide +kernel
theorem dX7_position_4 : decode cX7_position 4 = .ok (.invokestatic 81, 3) := by decide +kernel
theorem dX7_position_7 : decode cX7_position 7 = .ok (.ifCond .eq 17, 3) := by decide +kernel
theorem dX7_position_10 : decode cX7_position 10 = .ok (.aload_n 0, 1) := by decide +kernel
theorem dX7_position_11 : decode cX7_position 11 = .ok (.getfield 13, 3) := by decide +kernel
theorem dX7_position_14 : decode cX7_position 14 = .ok (.iconst 2, 1) := by decide +kernel
theorem dX7_position_15 : decode cX7_position 15 = .ok (.iload_n 1, 1) := by decide +kernel
theorem dX7_position_16 : decode cX7_position 16 = .ok (.iadd, 1) := by decide +kernel
theorem dX7_position_17 : decode cX7_position 17 = .ok (.iaload, 1) := by decide +kernel
theorem dX7_position_18 : decode cX7_position 18 = .ok (.ldc 123, 2) := by decide +kernel
theorem dX7_position_20 : decode cX7_position 20 = .ok (.iadd, 1) := by decide +kernel
theorem dX7_position_21 : decode cX7_position 21 = .ok (.goto 4, 3) := by decide +kernel
theorem dX7_position_24 : decode cX7_position 24 = .ok (.iconst (-1), 1) := by decide +kernel
theorem dX7_position_25 : decode cX7_position 25 = .ok (.ireturn, 1) := by decide +kernel
theorem dX7_clock_0 : decode cX7_clock 0 = .ok (.aload_n 0, 1) := by decide +kernel
theorem dX7_clock_1 : decode cX7_clock 1 = .ok (.getfield 13, 3) := by decide +kernel
theorem dX7_clock_4 : decode cX7_clock 4 = .ok (.iconst 4, 1) := by decide +kernel
theorem dX7_clock_5 : decode cX7_clock 5 = .ok (.iaload, 1) := by decide +kernel
theorem dX7_clock_6 : decode cX7_clock 6 = .ok (.ireturn, 1) := by decide +kernel
theorem dX7_queueLength_0 : decode cX7_queueLength 0 = .ok (.aload_n 0, 1) := by decide +kernel
theorem dX7_queueLength_1 : decode cX7_queueLength 1 = .ok (.getfield 13, 3) := by decide +kernel
theorem dX7_queueLength_4 : decode cX7_queueLength 4 = .ok (.iconst 5, 1) := by decide +kernel
theorem dX7_queueLength_5 : decode cX7_queueLength 5 = .ok (.iaload, 1) := by decide +kernel
theorem dX7_queueLength_6 : decode cX7_queueLength 6 = .ok (.ireturn, 1) := by decide +kernel
theorem dX7_lengthOf_0 : decode cX7_lengthOf 0 = .ok (.aload_n 0, 1) := by decide +kernel
theorem dX7_lengthOf_1 : decode cX7_lengthOf 1 = .ok (.bipush 9, 2) := by decide +kernel
theorem dX7_lengthOf_3 : decode cX7_lengthOf 3 = .ok (.iconst 3, 1) := by decide +kernel
theorem dX7_lengthOf_4 : decode cX7_lengthOf 4 = .ok (.iload_n 1, 1) := by decide +kernel
theorem dX7_lengthOf_5 : decode cX7_lengthOf 5 = .ok (.imul, 1) := by decide +kernel
theorem dX7_lengthOf_6 : decode cX7_lengthOf 6 = .ok (.iadd, 1) := by decide +kernel
theorem dX7_lengthOf_7 : decode cX7_lengthOf 7 = .ok (.iaload, 1) := by decide +kernel
theorem dX7_lengthOf_8 : decode cX7_lengthOf 8 = .ok (.invokestatic 124, 3) := by decide +kernel
theorem dX7_lengthOf_11 : decode cX7_lengthOf 11 = .ok (.istore_n 2, 1) := by decide +kernel
theorem dX7_lengthOf_12 : decode cX7_lengthOf 12 = .ok (.aload_n 0, 1) := by decide +kernel
theorem dX7_lengthOf_13 : decode cX7_lengthOf 13 = .ok (.bipush 9, 2) := by decide +kernel
theorem dX7_lengthOf_15 : decode cX7_lengthOf 15 = .ok (.iconst 3, 1) := by decide +kernel
theorem dX7_lengthOf_16 : decode cX7_lengthOf 16 = .ok (.iload_n 1, 1) := by decide +kernel
theorem dX7_lengthOf_17 : decode cX7_lengthOf 17 = .ok (.imul, 1) := by decide +kernel
theorem dX7_lengthOf_18 : decode cX7_lengthOf 18 = .ok (.iadd, 1) := by decide +kernel
theorem dX7_lengthOf_19 : decode cX7_lengthOf 19 = .ok (.iconst 1, 1) := by decide +kernel
theorem dX7_lengthOf_20 : decode cX7_lengthOf 20 = .ok (.iadd, 1) := by decide +kernel
theorem dX7_lengthOf_21 : decode cX7_lengthOf 21 = .ok (.iaload, 1) := by decide +kernel
theorem dX7_lengthOf_22 : decode cX7_lengthOf 22 = .ok (.invokestatic 124, 3) := by decide +kernel
theorem dX7_lengthOf_25 : decode cX7_lengthOf 25 = .ok (.istore_n 3, 1) := by decide +kernel
theorem dX7_lengthOf_26 : decode cX7_lengthOf 26 = .ok (.iload_n 2, 1) := by decide +kernel
theorem dX7_lengthOf_27 : decode cX7_lengthOf 27 = .ok (.iload_n 3, 1) := by decide +kernel
theorem dX7_lengthOf_28 : decode cX7_lengthOf 28 = .ok (.if_icmp .le 7, 3) := by decide +kernel
theorem dX7_lengthOf_31 : decode cX7_lengthOf 31 = .ok (.iload_n 2, 1) := by decide +kernel
theorem dX7_lengthOf_32 : decode cX7_lengthOf 32 = .ok (.goto 4, 3) := by decide +kernel
theorem dX7_lengthOf_35 : decode cX7_lengthOf 35 = .ok (.iload_n 3, 1) := by decide +kernel
theorem dX7_lengthOf_36 : decode cX7_lengthOf 36 = .ok (.ireturn, 1) := by decide +kernel
theorem dX7_isUnderWay_0 : decode cX7_isUnderWay 0 = .ok (.aload_n 0, 1) := by decide +kernel
theorem dX7_isUnderWay_1 : decode cX7_isUnderWay 1 = .ok (.bipush 7, 2) := by decide +kernel
theorem dX7_isUnderWay_3 : decode cX7_isUnderWay 3 = .ok (.iaload, 1) := by decide +kernel
theorem dX7_isUnderWay_4 : decode cX7_isUnderWay 4 = .ok (.bipush (-9), 2) := by decide +kernel
theorem dX7_isUnderWay_6 : decode cX7_isUnderWay 6 = .ok (.if_icmp .eq 7, 3) := by decide +kernel
theorem dX7_isUnderWay_9 : decode cX7_isUnderWay 9 = .ok (.iconst 1, 1) := by decide +kernel
theorem dX7_isUnderWay_10 : decode cX7_isUnderWay 10 = .ok (.goto 4, 3) := by decide +kernel
theorem dX7_isUnderWay_13 : decode cX7_isUnderWay 13 = .ok (.iconst 0, 1) := by decide +kernel
theorem dX7_isUnderWay_14 : decode cX7_isUnderWay 14 = .ok (.ireturn, 1) := by decide +kernel
theorem dX7_itemAt_0 : decode cX7_itemAt 0 = .ok (.iload_n 1, 1) := by decide +kernel
theorem dX7_itemAt_1 : decode cX7_itemAt 1 = .ok (.i2l, 1) := by decide +kernel
theorem dX7_itemAt_2 : decode cX7_itemAt 2 = .ok (.lconst 0, 1) := by decide +kernel
theorem dX7_itemAt_3 : decode cX7_itemAt 3 = .ok (.aload_n 0, 1) := by decide +kernel
theorem dX7_itemAt_4 : decode cX7_itemAt 4 = .ok (.getfield 13, 3) := by decide +kernel
theorem dX7_itemAt_7 : decode cX7_itemAt 7 = .ok (.iconst 5, 1) := by decide +kernel
theorem dX7_itemAt_8 : decode cX7_itemAt 8 = .ok (.iaload, 1) := by decide +kernel
theorem dX7_itemAt_9 : decode cX7_itemAt 9 = .ok (.iconst 1, 1) := by decide +kernel
theorem dX7_itemAt_10 : decode cX7_itemAt 10 = .ok (.isub, 1) := by decide +kernel
theorem dX7_itemAt_11 : decode cX7_itemAt 11 = .ok (.i2l, 1) := by decide +kernel
theorem dX7_itemAt_12 : decode cX7_itemAt 12 = .ok (.invokestatic 81, 3) := by decide +kernel
theorem dX7_itemAt_15 : decode cX7_itemAt 15 = .ok (.ifCond .ne 5, 3) := by decide +kernel
theorem dX7_itemAt_18 : decode cX7_itemAt 18 = .ok (.iconst (-1), 1) := by decide +kernel
theorem dX7_itemAt_19 : decode cX7_itemAt 19 = .ok (.ireturn, 1) := by decide +kernel
theorem dX7_itemAt_20 : decode cX7_itemAt 20 = .ok (.aload_n 0, 1) := by decide +kernel
theorem dX7_itemAt_21 : decode cX7_itemAt 21 = .ok (.getfield 13, 3) := by decide +kernel
theorem dX7_itemAt_24 : decode cX7_itemAt 24 = .ok (.bipush 9, 2) := by decide +kernel
theorem dX7_itemAt_26 : decode cX7_itemAt 26 = .ok (.iconst 3, 1) := by decide +kernel
theorem dX7_itemAt_27 : decode cX7_itemAt 27 = .ok (.iload_n 1, 1) := by decide +kernel
theorem dX7_itemAt_28 : decode cX7_itemAt 28 = .ok (.imul, 1) := by decide +kernel
theorem dX7_itemAt_29 : decode cX7_itemAt 29 = .ok (.iadd, 1) := by decide +kernel
theorem dX7_itemAt_30 : decode cX7_itemAt 30 = .ok (.iconst 2, 1) := by decide +kernel
theorem dX7_itemAt_31 : decode cX7_itemAt 31 = .ok (.iadd, 1) := by decide +kernel
theorem dX7_itemAt_32 : decode cX7_itemAt 32 = .ok (.iaload, 1) := by decide +kernel
theorem dX7_itemAt_33 : decode cX7_itemAt 33 = .ok (.istore_n 2, 1) := by decide +kernel
theorem dX7_itemAt_34 : decode cX7_itemAt 34 = .ok (.iload_n 2, 1) := by decide +kernel
theorem dX7_itemAt_35 : decode cX7_itemAt 35 = .ok (.ifCond .le 11, 3) := by decide +kernel
theorem dX7_itemAt_38 : decode cX7_itemAt 38 = .ok (.iload_n 2, 1) := by decide +kernel
theorem dX7_itemAt_39 : decode cX7_itemAt 39 = .ok (.sipush 10000, 3) := by decide +kernel
theorem dX7_itemAt_42 : decode cX7_itemAt 42 = .ok (.iadd, 1) := by decide +kernel
theorem dX7_itemAt_43 : decode cX7_itemAt 43 = .ok (.goto 35, 3) := by decide +kernel
theorem dX7_itemAt_46 : decode cX7_itemAt 46 = .ok (.iload_n 1, 1) := by decide +kernel
theorem dX7_itemAt_47 : decode cX7_itemAt 47 = .ok (.ifCond .ne 23, 3) := by decide +kernel
theorem dX7_itemAt_50 : decode cX7_itemAt 50 = .ok (.aload_n 0, 1) := by decide +kernel
theorem dX7_itemAt_51 : decode cX7_itemAt 51 = .ok (.getfield 13, 3) := by decide +kernel
theorem dX7_itemAt_54 : decode cX7_itemAt 54 = .ok (.invokestatic 127, 3) := by decide +kernel
theorem dX7_itemAt_57 : decode cX7_itemAt 57 = .ok (.ifCond .eq 13, 3) := by decide +kernel
theorem dX7_itemAt_60 : decode cX7_itemAt 60 = .ok (.aload_n 0, 1) := by decide +kernel
theorem dX7_itemAt_61 : decode cX7_itemAt 61 = .ok (.getfield 13, 3) := by decide +kernel
theorem dX7_itemAt_64 : decode cX7_itemAt 64 = .ok (.bipush 8, 2) := by decide +kernel
theorem dX7_itemAt_66 : decode cX7_itemAt 66 = .ok (.iaload, 1) := by decide +kernel
theorem dX7_itemAt_67 : decode cX7_itemAt 67 = .ok (.goto 11, 3) := by decide +kernel
theorem dX7_itemAt_70 : decode cX7_itemAt 70 = .ok (.aload_n 0, 1) := by decide +kernel
theorem dX7_itemAt_71 : decode cX7_itemAt 71 = .ok (.getfield 13, 3) := by decide +kernel
theorem dX7_itemAt_74 : decode cX7_itemAt 74 = .ok (.iload_n 1, 1) := by decide +kernel
theorem dX7_itemAt_75 : decode cX7_itemAt 75 = .ok (.invokestatic 131, 3) := by decide +kernel
theorem dX7_itemAt_78 : decode cX7_itemAt 78 = .ok (.ireturn, 1) := by decide +kernel
theorem dX7_rampIndex_0 : decode cX7_rampIndex 0 = .ok (.aload_n 0, 1) := by decide +kernel
theorem dX7_rampIndex_1 : decode cX7_rampIndex 1 = .ok (.getfield 13, 3) := by decide +kernel
theorem dX7_rampIndex_4 : decode cX7_rampIndex 4 = .ok (.bipush 7, 2) := by decide +kernel
theorem dX7_rampIndex_6 : decode cX7_rampIndex 6 = .ok (.iaload, 1) := by decide +kernel
theorem dX7_rampIndex_7 : decode cX7_rampIndex 7 = .ok (.ireturn, 1) := by decide +kernel
theorem dX7_topIndex_0 : decode cX7_topIndex 0 = .ok (.aload_n 0, 1) := by decide +kernel
theorem dX7_topIndex_1 : decode cX7_topIndex 1 = .ok (.aload_n 0, 1) := by decide +kernel
theorem dX7_topIndex_2 : decode cX7_topIndex 2 = .ok (.getfield 13, 3) := by decide +kernel
theorem dX7_topIndex_5 : decode cX7_topIndex 5 = .ok (.iconst 0, 1) := by decide +kernel
theorem dX7_topIndex_6 : decode cX7_topIndex 6 = .ok (.iaload, 1) := by decide +kernel
theorem dX7_topIndex_7 : decode cX7_topIndex 7 = .ok (.aload_n 0, 1) := by decide +kernel
theorem dX7_topIndex_8 : decode cX7_topIndex 8 = .ok (.getfield 13, 3) := by decide +kernel
theorem dX7_topIndex_11 : decode cX7_topIndex 11 = .ok (.iconst 1, 1) := by decide +kernel
theorem dX7_topIndex_12 : decode cX7_topIndex 12 = .ok (.iaload, 1) := by decide +kernel
theorem dX7_topIndex_13 : decode cX7_topIndex 13 = .ok (.invokevirtual 135, 3) := by decide +kernel
theorem dX7_topIndex_16 : decode cX7_topIndex 16 = .ok (.ireturn, 1) := by decide +kernel
theorem dX7_interval_0 : decode cX7_interval 0 = .ok (.iload_n 1, 1) := by decide +kernel
theorem dX7_interval_1 : decode cX7_interval 1 = .ok (.i2l, 1) := by decide +kernel
theorem dX7_interval_2 : decode cX7_interval 2 = .ok (.lconst 0, 1) := by decide +kernel
theorem dX7_interval_3 : decode cX7_interval 3 = .ok (.ldc2_w 106, 3) := by decide +kernel
theorem dX7_interval_6 : decode cX7_interval 6 = .ok (.invokestatic 81, 3) := by decide +kernel
theorem dX7_interval_9 : decode cX7_interval 9 = .ok (.ifCond .eq 23, 3) := by decide +kernel
theorem dX7_interval_12 : decode cX7_interval 12 = .ok (.aload_n 0, 1) := by decide +kernel
theorem dX7_interval_13 : decode cX7_interval 13 = .ok (.aload_n 0, 1) := by decide +kernel
theorem dX7_interval_14 : decode cX7_interval 14 = .ok (.getfield 13, 3) := by decide +kernel
theorem dX7_interval_17 : decode cX7_interval 17 = .ok (.iconst 0, 1) := by decide +kernel
theorem dX7_interval_18 : decode cX7_interval 18 = .ok (.iaload, 1) := by decide +kernel
theorem dX7_interval_19 : decode cX7_interval 19 = .ok (.aload_n 0, 1) := by decide +kernel
theorem dX7_interval_20 : decode cX7_interval 20 = .ok (.getfield 13, 3) := by decide +kernel
theorem dX7_interval_23 : decode cX7_interval 23 = .ok (.iconst 1, 1) := by decide +kernel
theorem dX7_interval_24 : decode cX7_interval 24 = .ok (.iaload, 1) := by decide +kernel
theorem dX7_interval_25 : decode cX7_interval 25 = .ok (.iload_n 1, 1) := by decide +kernel
theorem dX7_interval_26 : decode cX7_interval 26 = .ok (.invokevirtual 73, 3) := by decide +kernel
theorem dX7_interval_29 : decode cX7_interval 29 = .ok (.goto 5, 3) := by decide +kernel
theorem dX7_interval_32 : decode cX7_interval 32 = .ok (.bipush (-2), 2) := by decide +kernel
theorem dX7_interval_34 : decode cX7_interval 34 = .ok (.ireturn, 1) := by decide +kernel
theorem dX7_approximateInterval_0 : decode cX7_approximateInterval 0 = .ok (.iload_n 1, 1) := by decide +kernel
theorem dX7_approximateInterval_1 : decode cX7_approximateInterval 1 = .ok (.i2l, 1) := by decide +kernel
theorem dX7_approximateInterval_2 : decode cX7_approximateInterval 2 = .ok (.lconst 0, 1) := by decide +kernel
theorem dX7_approximateInterval_3 : decode cX7_approximateInterval 3 = .ok (.ldc2_w 106, 3) := by decide +kernel
theorem dX7_approximateInterval_6 : decode cX7_approximateInterval 6 = .ok (.invokestatic 81, 3) := by decide +kernel
theorem dX7_approximateInterval_9 : decode cX7_approximateInterval 9 = .ok (.ifCond .ne 6, 3) := by decide +kernel
theorem dX7_approximateInterval_12 : decode cX7_approximateInterval 12 = .ok (.bipush (-2), 2) := by decide +kernel
theorem dX7_approximateInterval_14 : decode cX7_approximateInterval 14 = .ok (.ireturn, 1) := by decide +kernel
theorem dX7_approximateInterval_15 : decode cX7_approximateInterval 15 = .ok (.aload_n 0, 1) := by decide +kernel
theorem dX7_approximateInterval_16 : decode cX7_approximateInterval 16 = .ok (.aload_n 0, 1) := by decide +kernel
theorem dX7_approximateInterval_17 : decode cX7_approximateInterval 17 = .ok (.getfield 13, 3) := by decide +kernel
theorem dX7_approximateInterval_20 : decode cX7_approximateInterval 20 = .ok (.iconst 0, 1) := by decide +kernel
theorem dX7_approximateInterval_21 : decode cX7_approximateInterval 21 = .ok (.iaload, 1) := by decide +kernel
theorem dX7_approximateInterval_22 : decode cX7_approximateInterval 22 = .ok (.iconst 2, 1) := by decide +kernel
theorem dX7_approximateInterval_23 : decode cX7_approximateInterval 23 = .ok (.invokevirtual 48, 3) := by decide +kernel
theorem dX7_approximateInterval_26 : decode cX7_approximateInterval 26 = .ok (.sipush 676, 3) := by decide +kernel
theorem dX7_approximateInterval_29 : decode cX7_approximateInterval 29 = .ok (.aload_n 0, 1) := by decide +kernel
theorem dX7_approximateInterval_30 : decode cX7_approximateInterval 30 = .ok (.getfield 32, 3) := by decide +kernel
theorem dX7_approximateInterval_33 : decode cX7_approximateInterval 33 = .ok (.iconst 1, 1) := by decide +kernel
theorem dX7_approximateInterval_34 : decode cX7_approximateInterval 34 = .ok (.iaload, 1) := by decide +kernel
theorem dX7_approximateInterval_35 : decode cX7_approximateInterval 35 = .ok (.imul, 1) := by decide +kernel
theorem dX7_approximateInterval_36 : decode cX7_approximateInterval 36 = .ok (.sipush 1000, 3) := by decide +kernel
theorem dX7_approximateInterval_39 : decode cX7_approximateInterval 39 = .ok (.idiv, 1) := by decide +kernel
theorem dX7_approximateInterval_40 : decode cX7_approximateInterval 40 = .ok (.istore_n 2, 1) := by decide +kernel
theorem dX7_approximateInterval_41 : decode cX7_approximateInterval 41 = .ok (.iconst 0, 1) := by decide +kernel
theorem dX7_approximateInterval_42 : decode cX7_approximateInterval 42 = .ok (.istore_n 3, 1) := by decide +kernel
theorem dX7_approximateInterval_43 : decode cX7_approximateInterval 43 = .ok (.iconst 1, 1) := by decide +kernel
theorem dX7_approximateInterval_44 : decode cX7_approximateInterval 44 = .ok (.istore 4, 2) := by decide +kernel
theorem dX7_approximateInterval_46 : decode cX7_approximateInterval 46 = .ok (.iload 4, 2) := by decide +kernel
theorem dX7_approximateInterval_48 : decode cX7_approximateInterval 48 = .ok (.iload_n 1, 1) := by decide +kernel
theorem dX7_approximateInterval_49 : decode cX7_approximateInterval 49 = .ok (.if_icmp .gt 38, 3) := by decide +kernel
theorem dX7_approximateInterval_52 : decode cX7_approximateInterval 52 = .ok (.iconst 2, 1) := by decide +kernel
theorem dX7_approximateInterval_53 : decode cX7_approximateInterval 53 = .ok (.iload_n 2, 1) := by decide +kernel
theorem dX7_approximateInterval_54 : decode cX7_approximateInterval 54 = .ok (.imul, 1) := by decide +kernel
theorem dX7_approximateInterval_55 : decode cX7_approximateInterval 55 = .ok (.iload_n 3, 1) := by decide +kernel
theorem dX7_approximateInterval_56 : decode cX7_approximateInterval 56 = .ok (.iadd, 1) := by decide +kernel
theorem dX7_approximateInterval_57 : decode cX7_approximateInterval 57 = .ok (.istore 5, 2) := by decide +kernel
theorem dX7_approximateInterval_59 : decode cX7_approximateInterval 59 = .ok (.iload_n 2, 1) := by decide +kernel
theorem dX7_approximateInterval_60 : decode cX7_approximateInterval 60 = .ok (.iload 5, 2) := by decide +kernel
theorem dX7_approximateInterval_62 : decode cX7_approximateInterval 62 = .ok (.iconst 4, 1) := by decide +kernel
theorem dX7_approximateInterval_63 : decode cX7_approximateInterval 63 = .ok (.iload 4, 2) := by decide +kernel
theorem dX7_approximateInterval_65 : decode cX7_approximateInterval 65 = .ok (.imul, 1) := by decide +kernel
theorem dX7_approximateInterval_66 : decode cX7_approximateInterval 66 = .ok (.iconst 1, 1) := by decide +kernel
theorem dX7_approximateInterval_67 : decode cX7_approximateInterval 67 = .ok (.iadd, 1) := by decide +kernel
theorem dX7_approximateInterval_68 : decode cX7_approximateInterval 68 = .ok (.idiv, 1) := by decide +kernel
theorem dX7_approximateInterval_69 : decode cX7_approximateInterval 69 = .ok (.isub, 1) := by decide +kernel
theorem dX7_approximateInterval_70 : decode cX7_approximateInterval 70 = .ok (.istore_n 2, 1) := by decide +kernel
theorem dX7_approximateInterval_71 : decode cX7_approximateInterval 71 = .ok (.iload 5, 2) := by decide +kernel
theorem dX7_approximateInterval_73 : decode cX7_approximateInterval 73 = .ok (.iconst 4, 1) := by decide +kernel
theorem dX7_approximateInterval_74 : decode cX7_approximateInterval 74 = .ok (.iload 4, 2) := by decide +kernel
theorem dX7_approximateInterval_76 : decode cX7_approximateInterval 76 = .ok (.imul, 1) := by decide +kernel
theorem dX7_approximateInterval_77 : decode cX7_approximateInterval 77 = .ok (.iconst 1, 1) := by decide +kernel
theorem dX7_approximateInterval_78 : decode cX7_approximateInterval 78 = .ok (.iadd, 1) := by decide +kernel
theorem dX7_approximateInterval_79 : decode cX7_approximateInterval 79 = .ok (.irem, 1) := by decide +kernel
theorem dX7_approximateInterval_80 : decode cX7_approximateInterval 80 = .ok (.istore_n 3, 1) := by decide +kernel
theorem dX7_approximateInterval_81 : decode cX7_approximateInterval 81 = .ok (.iinc 4 1, 3) := by decide +kernel
theorem dX7_approximateInterval_84 : decode cX7_approximateInterval 84 = .ok (.goto (-38), 3) := by decide +kernel
theorem dX7_approximateInterval_87 : decode cX7_approximateInterval 87 = .ok (.iload_n 2, 1) := by decide +kernel
theorem dX7_approximateInterval_88 : decode cX7_approximateInterval 88 = .ok (.ireturn, 1) := by decide +kernel
theorem dX7_note_0 : decode cX7_note 0 = .ok (.iconst 0, 1) := by decide +kernel
theorem dX7_note_1 : decode cX7_note 1 = .ok (.istore_n 1, 1) := by decide +kernel
theorem dX7_note_2 : decode cX7_note 2 = .ok (.iload_n 1, 1) := by decide +kernel
theorem dX7_note_3 : decode cX7_note 3 = .ok (.bipush 33, 2) := by decide +kernel
theorem dX7_note_5 : decode cX7_note 5 = .ok (.if_icmp .ge 29, 3) := by decide +kernel
theorem dX7_note_8 : decode cX7_note 8 = .ok (.aload_n 0, 1) := by decide +kernel
theorem dX7_note_9 : decode cX7_note 9 = .ok (.getfield 22, 3) := by decide +kernel
theorem dX7_note_12 : decode cX7_note 12 = .ok (.bipush 33, 2) := by decide +kernel
theorem dX7_note_14 : decode cX7_note 14 = .ok (.aload_n 0, 1) := by decide +kernel
theorem dX7_note_15 : decode cX7_note 15 = .ok (.getfield 138, 3) := by decide +kernel
theorem dX7_note_18 : decode cX7_note 18 = .ok (.imul, 1) := by decide +kernel
theorem dX7_note_19 : decode cX7_note 19 = .ok (.iload_n 1, 1) := by decide +kernel
theorem dX7_note_20 : decode cX7_note 20 = .ok (.iadd, 1) := by decide +kernel
theorem dX7_note_21 : decode cX7_note 21 = .ok (.aload_n 0, 1) := by decide +kernel
theorem dX7_note_22 : decode cX7_note 22 = .ok (.getfield 13, 3) := by decide +kernel
theorem dX7_note_25 : decode cX7_note 25 = .ok (.iload_n 1, 1) := by decide +kernel
theorem dX7_note_26 : decode cX7_note 26 = .ok (.iaload, 1) := by decide +kernel
theorem dX7_note_27 : decode cX7_note 27 = .ok (.iastore, 1) := by decide +kernel
theorem dX7_note_28 : decode cX7_note 28 = .ok (.iinc 1 1, 3) := by decide +kernel
theorem dX7_note_31 : decode cX7_note 31 = .ok (.goto (-29), 3) := by decide +kernel
theorem dX7_note_34 : decode cX7_note 34 = .ok (.aload_n 0, 1) := by decide +kernel
theorem dX7_note_35 : decode cX7_note 35 = .ok (.aload_n 0, 1) := by decide +kernel
theorem dX7_note_36 : decode cX7_note 36 = .ok (.getfield 138, 3) := by decide +kernel
theorem dX7_note_39 : decode cX7_note 39 = .ok (.iconst 1, 1) := by decide +kernel
theorem dX7_note_40 : decode cX7_note 40 = .ok (.iadd, 1) := by decide +kernel
theorem dX7_note_41 : decode cX7_note 41 = .ok (.bipush 14, 2) := by decide +kernel
theorem dX7_note_43 : decode cX7_note 43 = .ok (.irem, 1) := by decide +kernel
theorem dX7_note_44 : decode cX7_note 44 = .ok (.putfield 138, 3) := by decide +kernel
theorem dX7_note_47 : decode cX7_note 47 = .ok (.aload_n 0, 1) := by decide +kernel
theorem dX7_note_48 : decode cX7_note 48 = .ok (.aload_n 0, 1) := by decide +kernel
theorem dX7_note_49 : decode cX7_note 49 = .ok (.getfield 120, 3) := by decide +kernel
theorem dX7_note_52 : decode cX7_note 52 = .ok (.bipush 14, 2) := by decide +kernel
theorem dX7_note_54 : decode cX7_note 54 = .ok (.if_icmp .ge 12, 3) := by decide +kernel
theorem dX7_note_57 : decode cX7_note 57 = .ok (.aload_n 0, 1) := by decide +kernel
theorem dX7_note_58 : decode cX7_note 58 = .ok (.getfield 120, 3) := by decide +kernel
theorem dX7_note_61 : decode cX7_note 61 = .ok (.iconst 1, 1) := by decide +kernel
theorem dX7_note_62 : decode cX7_note 62 = .ok (.iadd, 1) := by decide +kernel
theorem dX7_note_63 : decode cX7_note 63 = .ok (.goto 5, 3) := by decide +kernel
theorem dX7_note_66 : decode cX7_note 66 = .ok (.bipush 14, 2) := by decide +kernel
theorem dX7_note_68 : decode cX7_note 68 = .ok (.putfield 120, 3) := by decide +kernel
theorem dX7_note_71 : decode cX7_note 71 = .ok (.return_, 1) := by decide +kernel
theorem dX7_setAcceleration_0 : decode cX7_setAcceleration 0 = .ok (.iload_n 1, 1) := by decide +kernel
theorem dX7_setAcceleration_1 : decode cX7_setAcceleration 1 = .ok (.i2l, 1) := by decide +kernel
theorem dX7_setAcceleration_2 : decode cX7_setAcceleration 2 = .ok (.lconst 1, 1) := by decide +kernel
theorem dX7_setAcceleration_3 : decode cX7_setAcceleration 3 = .ok (.ldc2_w 106, 3) := by decide +kernel
theorem dX7_setAcceleration_6 : decode cX7_setAcceleration 6 = .ok (.invokestatic 81, 3) := by decide +kernel
theorem dX7_setAcceleration_9 : decode cX7_setAcceleration 9 = .ok (.ifCond .ne 6, 3) := by decide +kernel
theorem dX7_setAcceleration_12 : decode cX7_setAcceleration 12 = .ok (.bipush (-2), 2) := by decide +kernel
theorem dX7_setAcceleration_14 : decode cX7_setAcceleration 14 = .ok (.ireturn, 1) := by decide +kernel
theorem dX7_setAcceleration_15 : decode cX7_setAcceleration 15 = .ok (.aload_n 0, 1) := by decide +kernel
theorem dX7_setAcceleration_16 : decode cX7_setAcceleration 16 = .ok (.getfield 13, 3) := by decide +kernel
theorem dX7_setAcceleration_19 : decode cX7_setAcceleration 19 = .ok (.invokestatic 127, 3) := by decide +kernel
theorem dX7_setAcceleration_22 : decode cX7_setAcceleration 22 = .ok (.ifCond .eq 6, 3) := by decide +kernel
theorem dX7_setAcceleration_25 : decode cX7_setAcceleration 25 = .ok (.bipush (-3), 2) := by decide +kernel
theorem dX7_setAcceleration_27 : decode cX7_setAcceleration 27 = .ok (.ireturn, 1) := by decide +kernel
theorem dX7_setAcceleration_28 : decode cX7_setAcceleration 28 = .ok (.aload_n 0, 1) := by decide +kernel
theorem dX7_setAcceleration_29 : decode cX7_setAcceleration 29 = .ok (.invokevirtual 141, 3) := by decide +kernel
theorem dX7_setAcceleration_32 : decode cX7_setAcceleration 32 = .ok (.aload_n 0, 1) := by decide +kernel
theorem dX7_setAcceleration_33 : decode cX7_setAcceleration 33 = .ok (.getfield 13, 3) := by decide +kernel
theorem dX7_setAcceleration_36 : decode cX7_setAcceleration 36 = .ok (.iconst 0, 1) := by decide +kernel
theorem dX7_setAcceleration_37 : decode cX7_setAcceleration 37 = .ok (.iaload, 1) := by decide +kernel
theorem dX7_setAcceleration_38 : decode cX7_setAcceleration 38 = .ok (.istore_n 2, 1) := by decide +kernel
theorem dX7_setAcceleration_39 : decode cX7_setAcceleration 39 = .ok (.aload_n 0, 1) := by decide +kernel
theorem dX7_setAcceleration_40 : decode cX7_setAcceleration 40 = .ok (.getfield 13, 3) := by decide +kernel
theorem dX7_setAcceleration_43 : decode cX7_setAcceleration 43 = .ok (.iconst 0, 1) := by decide +kernel
theorem dX7_setAcceleration_44 : decode cX7_setAcceleration 44 = .ok (.iload_n 1, 1) := by decide +kernel
theorem dX7_setAcceleration_45 : decode cX7_setAcceleration 45 = .ok (.iastore, 1) := by decide +kernel
theorem dX7_setAcceleration_46 : decode cX7_setAcceleration 46 = .ok (.iload_n 2, 1) := by decide +kernel
theorem dX7_setAcceleration_47 : decode cX7_setAcceleration 47 = .ok (.ireturn, 1) := by decide +kernel
theorem dX7_setSpeedLimit_0 : decode cX7_setSpeedLimit 0 = .ok (.iload_n 1, 1) := by decide +kernel
theorem dX7_setSpeedLimit_1 : decode cX7_setSpeedLimit 1 = .ok (.i2l, 1) := by decide +kernel
theorem dX7_setSpeedLimit_2 : decode cX7_setSpeedLimit 2 = .ok (.lconst 1, 1) := by decide +kernel
theorem dX7_setSpeedLimit_3 : decode cX7_setSpeedLimit 3 = .ok (.ldc2_w 106, 3) := by decide +kernel
theorem dX7_setSpeedLimit_6 : decode cX7_setSpeedLimit 6 = .ok (.invokestatic 81, 3) := by decide +kernel
theorem dX7_setSpeedLimit_9 : decode cX7_setSpeedLimit 9 = .ok (.ifCond .ne 6, 3) := by decide +kernel
theorem dX7_setSpeedLimit_12 : decode cX7_setSpeedLimit 12 = .ok (.bipush (-2), 2) := by decide +kernel
theorem dX7_setSpeedLimit_14 : decode cX7_setSpeedLimit 14 = .ok (.ireturn, 1) := by decide +kernel
theorem dX7_setSpeedLimit_15 : decode cX7_setSpeedLimit 15 = .ok (.aload_n 0, 1) := by decide +kernel
theorem dX7_setSpeedLimit_16 : decode cX7_setSpeedLimit 16 = .ok (.invokevirtual 141, 3) := by decide +kernel
theorem dX7_setSpeedLimit_19 : decode cX7_setSpeedLimit 19 = .ok (.aload_n 0, 1) := by decide +kernel
theorem dX7_setSpeedLimit_20 : decode cX7_setSpeedLimit 20 = .ok (.getfield 13, 3) := by decide +kernel
theorem dX7_setSpeedLimit_23 : decode cX7_setSpeedLimit 23 = .ok (.iconst 1, 1) := by decide +kernel
theorem dX7_setSpeedLimit_24 : decode cX7_setSpeedLimit 24 = .ok (.iaload, 1) := by decide +kernel
theorem dX7_setSpeedLimit_25 : decode cX7_setSpeedLimit 25 = .ok (.istore_n 2, 1) := by decide +kernel
theorem dX7_setSpeedLimit_26 : decode cX7_setSpeedLimit 26 = .ok (.aload_n 0, 1) := by decide +kernel
theorem dX7_setSpeedLimit_27 : decode cX7_setSpeedLimit 27 = .ok (.getfield 13, 3) := by decide +kernel
theorem dX7_setSpeedLimit_30 : decode cX7_setSpeedLimit 30 = .ok (.iconst 1, 1) := by decide +kernel
theorem dX7_setSpeedLimit_31 : decode cX7_setSpeedLimit 31 = .ok (.iload_n 1, 1) := by decide +kernel
theorem dX7_setSpeedLimit_32 : decode cX7_setSpeedLimit 32 = .ok (.iastore, 1) := by decide +kernel
theorem dX7_setSpeedLimit_33 : decode cX7_setSpeedLimit 33 = .ok (.iload_n 2, 1) := by decide +kernel
theorem dX7_setSpeedLimit_34 : decode cX7_setSpeedLimit 34 = .ok (.ireturn, 1) := by decide +kernel
theorem dX7_addItem_0 : decode cX7_addItem 0 = .ok (.aload_n 0, 1) := by decide +kernel
theorem dX7_addItem_1 : decode cX7_addItem 1 = .ok (.getfield 13, 3) := by decide +kernel
theorem dX7_addItem_4 : decode cX7_addItem 4 = .ok (.iconst 5, 1) := by decide +kernel
theorem dX7_addItem_5 : decode cX7_addItem 5 = .ok (.iaload, 1) := by decide +kernel
theorem dX7_addItem_6 : decode cX7_addItem 6 = .ok (.bipush 8, 2) := by decide +kernel
theorem dX7_addItem_8 : decode cX7_addItem 8 = .ok (.if_icmp .ne 6, 3) := by decide +kernel
theorem dX7_addItem_11 : decode cX7_addItem 11 = .ok (.bipush (-4), 2) := by decide +kernel
theorem dX7_addItem_13 : decode cX7_addItem 13 = .ok (.ireturn, 1) := by decide +kernel
theorem dX7_addItem_14 : decode cX7_addItem 14 = .ok (.aload_n 0, 1) := by decide +kernel
theorem dX7_addItem_15 : decode cX7_addItem 15 = .ok (.invokevirtual 141, 3) := by decide +kernel
theorem dX7_addItem_18 : decode cX7_addItem 18 = .ok (.bipush 9, 2) := by decide +kernel
theorem dX7_addItem_20 : decode cX7_addItem 20 = .ok (.iconst 3, 1) := by decide +kernel
theorem dX7_addItem_21 : decode cX7_addItem 21 = .ok (.aload_n 0, 1) := by decide +kernel
theorem dX7_addItem_22 : decode cX7_addItem 22 = .ok (.getfield 13, 3) := by decide +kernel
theorem dX7_addItem_25 : decode cX7_addItem 25 = .ok (.iconst 5, 1) := by decide +kernel
theorem dX7_addItem_26 : decode cX7_addItem 26 = .ok (.iaload, 1) := by decide +kernel
theorem dX7_addItem_27 : decode cX7_addItem 27 = .ok (.imul, 1) := by decide +kernel
theorem dX7_addItem_28 : decode cX7_addItem 28 = .ok (.iadd, 1) := by decide +kernel
theorem dX7_addItem_29 : decode cX7_addItem 29 = .ok (.istore 4, 2) := by decide +kernel
theorem dX7_addItem_31 : decode cX7_addItem 31 = .ok (.aload_n 0, 1) := by decide +kernel
theorem dX7_addItem_32 : decode cX7_addItem 32 = .ok (.getfield 13, 3) := by decide +kernel
theorem dX7_addItem_35 : decode cX7_addItem 35 = .ok (.iload 4, 2) := by decide +kernel
theorem dX7_addItem_37 : decode cX7_addItem 37 = .ok (.iload_n 1, 1) := by decide +kernel
theorem dX7_addItem_38 : decode cX7_addItem 38 = .ok (.iastore, 1) := by decide +kernel
theorem dX7_addItem_39 : decode cX7_addItem 39 = .ok (.aload_n 0, 1) := by decide +kernel
theorem dX7_addItem_40 : decode cX7_addItem 40 = .ok (.getfield 13, 3) := by decide +kernel
theorem dX7_addItem_43 : decode cX7_addItem 43 = .ok (.iload 4, 2) := by decide +kernel
theorem dX7_addItem_45 : decode cX7_addItem 45 = .ok (.iconst 1, 1) := by decide +kernel
theorem dX7_addItem_46 : decode cX7_addItem 46 = .ok (.iadd, 1) := by decide +kernel
theorem dX7_addItem_47 : decode cX7_addItem 47 = .ok (.iload_n 2, 1) := by decide +kernel
theorem dX7_addItem_48 : decode cX7_addItem 48 = .ok (.iastore, 1) := by decide +kernel
theorem dX7_addItem_49 : decode cX7_addItem 49 = .ok (.aload_n 0, 1) := by decide +kernel
theorem dX7_addItem_50 : decode cX7_addItem 50 = .ok (.getfield 13, 3) := by decide +kernel
theorem dX7_addItem_53 : decode cX7_addItem 53 = .ok (.iload 4, 2) := by decide +kernel
theorem dX7_addItem_55 : decode cX7_addItem 55 = .ok (.iconst 2, 1) := by decide +kernel
theorem dX7_addItem_56 : decode cX7_addItem 56 = .ok (.iadd, 1) := by decide +kernel
theorem dX7_addItem_57 : decode cX7_addItem 57 = .ok (.iload_n 3, 1) := by decide +kernel
theorem dX7_addItem_58 : decode cX7_addItem 58 = .ok (.iastore, 1) := by decide +kernel
theorem dX7_addItem_59 : decode cX7_addItem 59 = .ok (.aload_n 0, 1) := by decide +kernel
theorem dX7_addItem_60 : decode cX7_addItem 60 = .ok (.getfield 13, 3) := by decide +kernel
theorem dX7_addItem_63 : decode cX7_addItem 63 = .ok (.iconst 5, 1) := by decide +kernel
theorem dX7_addItem_64 : decode cX7_addItem 64 = .ok (.dup2, 1) := by decide +kernel
theorem dX7_addItem_65 : decode cX7_addItem 65 = .ok (.iaload, 1) := by decide +kernel
theorem dX7_addItem_66 : decode cX7_addItem 66 = .ok (.iconst 1, 1) := by decide +kernel
theorem dX7_addItem_67 : decode cX7_addItem 67 = .ok (.iadd, 1) := by decide +kernel
theorem dX7_addItem_68 : decode cX7_addItem 68 = .ok (.iastore, 1) := by decide +kernel
theorem dX7_addItem_69 : decode cX7_addItem 69 = .ok (.aload_n 0, 1) := by decide +kernel
theorem dX7_addItem_70 : decode cX7_addItem 70 = .ok (.getfield 13, 3) := by decide +kernel
theorem dX7_addItem_73 : decode cX7_addItem 73 = .ok (.iconst 5, 1) := by decide +kernel
theorem dX7_addItem_74 : decode cX7_addItem 74 = .ok (.iaload, 1) := by decide +kernel
theorem dX7_addItem_75 : decode cX7_addItem 75 = .ok (.ireturn, 1) := by decide +kernel
theorem dX7_addMove_0 : decode cX7_addMove 0 = .ok (.iload_n 1, 1) := by decide +kernel
theorem dX7_addMove_1 : decode cX7_addMove 1 = .ok (.i2l, 1) := by decide +kernel
theorem dX7_addMove_2 : decode cX7_addMove 2 = .ok (.ldc2_w 104, 3) := by decide +kernel
theorem dX7_addMove_5 : decode cX7_addMove 5 = .ok (.ldc2_w 106, 3) := by decide +kernel
theorem dX7_addMove_8 : decode cX7_addMove 8 = .ok (.invokestatic 81, 3) := by decide +kernel
theorem dX7_addMove_11 : decode cX7_addMove 11 = .ok (.ifCond .eq 25, 3) := by decide +kernel
theorem dX7_addMove_14 : decode cX7_addMove 14 = .ok (.iload_n 2, 1) := by decide +kernel
theorem dX7_addMove_15 : decode cX7_addMove 15 = .ok (.i2l, 1) := by decide +kernel
theorem dX7_addMove_16 : decode cX7_addMove 16 = .ok (.ldc2_w 104, 3) := by decide +kernel
theorem dX7_addMove_19 : decode cX7_addMove 19 = .ok (.ldc2_w 106, 3) := by decide +kernel
theorem dX7_addMove_22 : decode cX7_addMove 22 = .ok (.invokestatic 81, 3) := by decide +kernel
theorem dX7_addMove_25 : decode cX7_addMove 25 = .ok (.ifCond .eq 11, 3) := by decide +kernel
theorem dX7_addMove_28 : decode cX7_addMove 28 = .ok (.iload_n 1, 1) := by decide +kernel
theorem dX7_addMove_29 : decode cX7_addMove 29 = .ok (.ifCond .ne 10, 3) := by decide +kernel
theorem dX7_addMove_32 : decode cX7_addMove 32 = .ok (.iload_n 2, 1) := by decide +kernel
theorem dX7_addMove_33 : decode cX7_addMove 33 = .ok (.ifCond .ne 6, 3) := by decide +kernel
theorem dX7_addMove_36 : decode cX7_addMove 36 = .ok (.bipush (-2), 2) := by decide +kernel
theorem dX7_addMove_38 : decode cX7_addMove 38 = .ok (.ireturn, 1) := by decide +kernel
theorem dX7_addMove_39 : decode cX7_addMove 39 = .ok (.aload_n 0, 1) := by decide +kernel
theorem dX7_addMove_40 : decode cX7_addMove 40 = .ok (.iload_n 1, 1) := by decide +kernel
theorem dX7_addMove_41 : decode cX7_addMove 41 = .ok (.iload_n 2, 1) := by decide +kernel
theorem dX7_addMove_42 : decode cX7_addMove 42 = .ok (.iconst 0, 1) := by decide +kernel
theorem dX7_addMove_43 : decode cX7_addMove 43 = .ok (.invokevirtual 144, 3) := by decide +kernel
theorem dX7_addMove_46 : decode cX7_addMove 46 = .ok (.ireturn, 1) := by decide +kernel
theorem dX7_addWait_0 : decode cX7_addWait 0 = .ok (.iload_n 1, 1) := by decide +kernel
theorem dX7_addWait_1 : decode cX7_addWait 1 = .ok (.i2l, 1) := by decide +kernel
theorem dX7_addWait_2 : decode cX7_addWait 2 = .ok (.lconst 1, 1) := by decide +kernel
theorem dX7_addWait_3 : decode cX7_addWait 3 = .ok (.ldc2_w 147, 3) := by decide +kernel
theorem dX7_addWait_6 : decode cX7_addWait 6 = .ok (.invokestatic 81, 3) := by decide +kernel
theorem dX7_addWait_9 : decode cX7_addWait 9 = .ok (.ifCond .eq 13, 3) := by decide +kernel
theorem dX7_addWait_12 : decode cX7_addWait 12 = .ok (.aload_n 0, 1) := by decide +kernel
theorem dX7_addWait_13 : decode cX7_addWait 13 = .ok (.iconst 0, 1) := by decide +kernel
theorem dX7_addWait_14 : decode cX7_addWait 14 = .ok (.iconst 0, 1) := by decide +kernel
theorem dX7_addWait_15 : decode cX7_addWait 15 = .ok (.iload_n 1, 1) := by decide +kernel
theorem dX7_addWait_16 : decode cX7_addWait 16 = .ok (.invokevirtual 144, 3) := by decide +kernel
theorem dX7_addWait_19 : decode cX7_addWait 19 = .ok (.goto 5, 3) := by decide +kernel
theorem dX7_addWait_22 : decode cX7_addWait 22 = .ok (.bipush (-2), 2) := by decide +kernel
theorem dX7_addWait_24 : decode cX7_addWait 24 = .ok (.ireturn, 1) := by decide +kernel
theorem dX7_dropItem_0 : decode cX7_dropItem 0 = .ok (.aload_n 0, 1) := by decide +kernel
theorem dX7_dropItem_1 : decode cX7_dropItem 1 = .ok (.iconst 5, 1) := by decide +kernel
theorem dX7_dropItem_2 : decode cX7_dropItem 2 = .ok (.dup2, 1) := by decide +kernel
theorem dX7_dropItem_3 : decode cX7_dropItem 3 = .ok (.iaload, 1) := by decide +kernel
theorem dX7_dropItem_4 : decode cX7_dropItem 4 = .ok (.iconst 1, 1) := by decide +kernel
theorem dX7_dropItem_5 : decode cX7_dropItem 5 = .ok (.isub, 1) := by decide +kernel
theorem dX7_dropItem_6 : decode cX7_dropItem 6 = .ok (.iastore, 1) := by decide +kernel
theorem dX7_dropItem_7 : decode cX7_dropItem 7 = .ok (.bipush 9, 2) := by decide +kernel
theorem dX7_dropItem_9 : decode cX7_dropItem 9 = .ok (.iconst 3, 1) := by decide +kernel
theorem dX7_dropItem_10 : decode cX7_dropItem 10 = .ok (.iload_n 1, 1) := by decide +kernel
theorem dX7_dropItem_11 : decode cX7_dropItem 11 = .ok (.imul, 1) := by decide +kernel
theorem dX7_dropItem_12 : decode cX7_dropItem 12 = .ok (.iadd, 1) := by decide +kernel
theorem dX7_dropItem_13 : decode cX7_dropItem 13 = .ok (.istore_n 2, 1) := by decide +kernel
theorem dX7_dropItem_14 : decode cX7_dropItem 14 = .ok (.iload_n 2, 1) := by decide +kernel
theorem dX7_dropItem_15 : decode cX7_dropItem 15 = .ok (.bipush 9, 2) := by decide +kernel
theorem dX7_dropItem_17 : decode cX7_dropItem 17 = .ok (.iconst 3, 1) := by decide +kernel
theorem dX7_dropItem_18 : decode cX7_dropItem 18 = .ok (.aload_n 0, 1) := by decide +kernel
theorem dX7_dropItem_19 : decode cX7_dropItem 19 = .ok (.iconst 5, 1) := by decide +kernel
theorem dX7_dropItem_20 : decode cX7_dropItem 20 = .ok (.iaload, 1) := by decide +kernel
theorem dX7_dropItem_21 : decode cX7_dropItem 21 = .ok (.imul, 1) := by decide +kernel
theorem dX7_dropItem_22 : decode cX7_dropItem 22 = .ok (.iadd, 1) := by decide +kernel
theorem dX7_dropItem_23 : decode cX7_dropItem 23 = .ok (.if_icmp .ge 17, 3) := by decide +kernel
theorem dX7_dropItem_26 : decode cX7_dropItem 26 = .ok (.aload_n 0, 1) := by decide +kernel
theorem dX7_dropItem_27 : decode cX7_dropItem 27 = .ok (.iload_n 2, 1) := by decide +kernel
theorem dX7_dropItem_28 : decode cX7_dropItem 28 = .ok (.aload_n 0, 1) := by decide +kernel
theorem dX7_dropItem_29 : decode cX7_dropItem 29 = .ok (.iload_n 2, 1) := by decide +kernel
theorem dX7_dropItem_30 : decode cX7_dropItem 30 = .ok (.iconst 3, 1) := by decide +kernel
theorem dX7_dropItem_31 : decode cX7_dropItem 31 = .ok (.iadd, 1) := by decide +kernel
theorem dX7_dropItem_32 : decode cX7_dropItem 32 = .ok (.iaload, 1) := by decide +kernel
theorem dX7_dropItem_33 : decode cX7_dropItem 33 = .ok (.iastore, 1) := by decide +kernel
theorem dX7_dropItem_34 : decode cX7_dropItem 34 = .ok (.iinc 2 1, 3) := by decide +kernel
theorem dX7_dropItem_37 : decode cX7_dropItem 37 = .ok (.goto (-23), 3) := by decide +kernel
theorem dX7_dropItem_40 : decode cX7_dropItem 40 = .ok (.bipush 9, 2) := by decide +kernel
theorem dX7_dropItem_42 : decode cX7_dropItem 42 = .ok (.iconst 3, 1) := by decide +kernel
theorem dX7_dropItem_43 : decode cX7_dropItem 43 = .ok (.aload_n 0, 1) := by decide +kernel
theorem dX7_dropItem_44 : decode cX7_dropItem 44 = .ok (.iconst 5, 1) := by decide +kernel
theorem dX7_dropItem_45 : decode cX7_dropItem 45 = .ok (.iaload, 1) := by decide +kernel
theorem dX7_dropItem_46 : decode cX7_dropItem 46 = .ok (.imul, 1) := by decide +kernel
theorem dX7_dropItem_47 : decode cX7_dropItem 47 = .ok (.iadd, 1) := by decide +kernel
theorem dX7_dropItem_48 : decode cX7_dropItem 48 = .ok (.istore_n 2, 1) := by decide +kernel
theorem dX7_dropItem_49 : decode cX7_dropItem 49 = .ok (.iload_n 2, 1) := by decide +kernel
theorem dX7_dropItem_50 : decode cX7_dropItem 50 = .ok (.bipush 33, 2) := by decide +kernel
theorem dX7_dropItem_52 : decode cX7_dropItem 52 = .ok (.if_icmp .ge 13, 3) := by decide +kernel
theorem dX7_dropItem_55 : decode cX7_dropItem 55 = .ok (.aload_n 0, 1) := by decide +kernel
theorem dX7_dropItem_56 : decode cX7_dropItem 56 = .ok (.iload_n 2, 1) := by decide +kernel
theorem dX7_dropItem_57 : decode cX7_dropItem 57 = .ok (.iconst 0, 1) := by decide +kernel
theorem dX7_dropItem_58 : decode cX7_dropItem 58 = .ok (.iastore, 1) := by decide +kernel
theorem dX7_dropItem_59 : decode cX7_dropItem 59 = .ok (.iinc 2 1, 3) := by decide +kernel
theorem dX7_dropItem_62 : decode cX7_dropItem 62 = .ok (.goto (-13), 3) := by decide +kernel
theorem dX7_dropItem_65 : decode cX7_dropItem 65 = .ok (.return_, 1) := by decide +kernel
theorem dX7_endMove_0 : decode cX7_endMove 0 = .ok (.aload_n 0, 1) := by decide +kernel
theorem dX7_endMove_1 : decode cX7_endMove 1 = .ok (.iconst 0, 1) := by decide +kernel
theorem dX7_endMove_2 : decode cX7_endMove 2 = .ok (.invokestatic 149, 3) := by decide +kernel
theorem dX7_endMove_5 : decode cX7_endMove 5 = .ok (.aload_n 0, 1) := by decide +kernel
theorem dX7_endMove_6 : decode cX7_endMove 6 = .ok (.bipush 6, 2) := by decide +kernel
theorem dX7_endMove_8 : decode cX7_endMove 8 = .ok (.iconst 0, 1) := by decide +kernel
theorem dX7_endMove_9 : decode cX7_endMove 9 = .ok (.iastore, 1) := by decide +kernel
theorem dX7_endMove_10 : decode cX7_endMove 10 = .ok (.aload_n 0, 1) := by decide +kernel
theorem dX7_endMove_11 : decode cX7_endMove 11 = .ok (.bipush 7, 2) := by decide +kernel
theorem dX7_endMove_13 : decode cX7_endMove 13 = .ok (.bipush (-9), 2) := by decide +kernel
theorem dX7_endMove_15 : decode cX7_endMove 15 = .ok (.iastore, 1) := by decide +kernel
theorem dX7_endMove_16 : decode cX7_endMove 16 = .ok (.aload_n 0, 1) := by decide +kernel
theorem dX7_endMove_17 : decode cX7_endMove 17 = .ok (.bipush 8, 2) := by decide +kernel
theorem dX7_endMove_19 : decode cX7_endMove 19 = .ok (.iconst 0, 1) := by decide +kernel
theorem dX7_endMove_20 : decode cX7_endMove 20 = .ok (.iastore, 1) := by decide +kernel
theorem dX7_endMove_21 : decode cX7_endMove 21 = .ok (.return_, 1) := by decide +kernel
theorem dX7_nextIndex_0 : decode cX7_nextIndex 0 = .ok (.aload_n 1, 1) := by decide +kernel
theorem dX7_nextIndex_1 : decode cX7_nextIndex 1 = .ok (.invokestatic 127, 3) := by decide +kernel
theorem dX7_nextIndex_4 : decode cX7_nextIndex 4 = .ok (.ifCond .eq 27, 3) := by decide +kernel
theorem dX7_nextIndex_7 : decode cX7_nextIndex 7 = .ok (.aload_n 1, 1) := by decide +kernel
theorem dX7_nextIndex_8 : decode cX7_nextIndex 8 = .ok (.bipush 7, 2) := by decide +kernel
theorem dX7_nextIndex_10 : decode cX7_nextIndex 10 = .ok (.iaload, 1) := by decide +kernel
theorem dX7_nextIndex_11 : decode cX7_nextIndex 11 = .ok (.aload_n 1, 1) := by decide +kernel
theorem dX7_nextIndex_12 : decode cX7_nextIndex 12 = .ok (.bipush 8, 2) := by decide +kernel
theorem dX7_nextIndex_14 : decode cX7_nextIndex 14 = .ok (.iaload, 1) := by decide +kernel
theorem dX7_nextIndex_15 : decode cX7_nextIndex 15 = .ok (.aload_n 0, 1) := by decide +kernel
theorem dX7_nextIndex_16 : decode cX7_nextIndex 16 = .ok (.aload_n 1, 1) := by decide +kernel
theorem dX7_nextIndex_17 : decode cX7_nextIndex 17 = .ok (.iconst 0, 1) := by decide +kernel
theorem dX7_nextIndex_18 : decode cX7_nextIndex 18 = .ok (.iaload, 1) := by decide +kernel
theorem dX7_nextIndex_19 : decode cX7_nextIndex 19 = .ok (.aload_n 1, 1) := by decide +kernel
theorem dX7_nextIndex_20 : decode cX7_nextIndex 20 = .ok (.iconst 1, 1) := by decide +kernel
theorem dX7_nextIndex_21 : decode cX7_nextIndex 21 = .ok (.iaload, 1) := by decide +kernel
theorem dX7_nextIndex_22 : decode cX7_nextIndex 22 = .ok (.invokevirtual 135, 3) := by decide +kernel
theorem dX7_nextIndex_25 : decode cX7_nextIndex 25 = .ok (.invokestatic 76, 3) := by decide +kernel
theorem dX7_nextIndex_28 : decode cX7_nextIndex 28 = .ok (.goto 4, 3) := by decide +kernel
theorem dX7_nextIndex_31 : decode cX7_nextIndex 31 = .ok (.iconst 0, 1) := by decide +kernel
theorem dX7_nextIndex_32 : decode cX7_nextIndex 32 = .ok (.ireturn, 1) := by decide +kernel
theorem dX7_nextTicks_0 : decode cX7_nextTicks 0 = .ok (.aload_n 1, 1) := by decide +kernel
theorem dX7_nextTicks_1 : decode cX7_nextTicks 1 = .ok (.bipush 11, 2) := by decide +kernel
theorem dX7_nextTicks_3 : decode cX7_nextTicks 3 = .ok (.iaload, 1) := by decide +kernel
theorem dX7_nextTicks_4 : decode cX7_nextTicks 4 = .ok (.istore_n 2, 1) := by decide +kernel
theorem dX7_nextTicks_5 : decode cX7_nextTicks 5 = .ok (.iload_n 2, 1) := by decide +kernel
theorem dX7_nextTicks_6 : decode cX7_nextTicks 6 = .ok (.ifCond .le 7, 3) := by decide +kernel
theorem dX7_nextTicks_9 : decode cX7_nextTicks 9 = .ok (.iload_n 2, 1) := by decide +kernel
theorem dX7_nextTicks_10 : decode cX7_nextTicks 10 = .ok (.goto 18, 3) := by decide +kernel
theorem dX7_nextTicks_13 : decode cX7_nextTicks 13 = .ok (.aload_n 0, 1) := by decide +kernel
theorem dX7_nextTicks_14 : decode cX7_nextTicks 14 = .ok (.aload_n 1, 1) := by decide +kernel
theorem dX7_nextTicks_15 : decode cX7_nextTicks 15 = .ok (.iconst 0, 1) := by decide +kernel
theorem dX7_nextTicks_16 : decode cX7_nextTicks 16 = .ok (.iaload, 1) := by decide +kernel
theorem dX7_nextTicks_17 : decode cX7_nextTicks 17 = .ok (.aload_n 1, 1) := by decide +kernel
theorem dX7_nextTicks_18 : decode cX7_nextTicks 18 = .ok (.iconst 1, 1) := by decide +kernel
theorem dX7_nextTicks_19 : decode cX7_nextTicks 19 = .ok (.iaload, 1) := by decide +kernel
theorem dX7_nextTicks_20 : decode cX7_nextTicks 20 = .ok (.aload_n 0, 1) := by decide +kernel
theorem dX7_nextTicks_21 : decode cX7_nextTicks 21 = .ok (.aload_n 1, 1) := by decide +kernel
theorem dX7_nextTicks_22 : decode cX7_nextTicks 22 = .ok (.invokevirtual 153, 3) := by decide +kernel
theorem dX7_nextTicks_25 : decode cX7_nextTicks 25 = .ok (.invokevirtual 73, 3) := by decide +kernel
theorem dX7_nextTicks_28 : decode cX7_nextTicks 28 = .ok (.ireturn, 1) := by decide +kernel
theorem dX7_gone_0 : decode cX7_gone 0 = .ok (.iconst 2, 1) := by decide +kernel
theorem dX7_gone_1 : decode cX7_gone 1 = .ok (.iload_n 0, 1) := by decide +kernel
theorem dX7_gone_2 : decode cX7_gone 2 = .ok (.imul, 1) := by decide +kernel
theorem dX7_gone_3 : decode cX7_gone 3 = .ok (.iload_n 1, 1) := by decide +kernel
theorem dX7_gone_4 : decode cX7_gone 4 = .ok (.imul, 1) := by decide +kernel
theorem dX7_gone_5 : decode cX7_gone 5 = .ok (.iload_n 2, 1) := by decide +kernel
theorem dX7_gone_6 : decode cX7_gone 6 = .ok (.iadd, 1) := by decide +kernel
theorem dX7_gone_7 : decode cX7_gone 7 = .ok (.iconst 2, 1) := by decide +kernel
theorem dX7_gone_8 : decode cX7_gone 8 = .ok (.iload_n 2, 1) := by decide +kernel
theorem dX7_gone_9 : decode cX7_gone 9 = .ok (.imul, 1) := by decide +kernel
theorem dX7_gone_10 : decode cX7_gone 10 = .ok (.idiv, 1) := by decide +kernel
theorem dX7_gone_11 : decode cX7_gone 11 = .ok (.ireturn, 1) := by decide +kernel
theorem dX7_stepIn_0 : decode cX7_stepIn 0 = .ok (.aload_n 0, 1) := by decide +kernel
theorem dX7_stepIn_1 : decode cX7_stepIn 1 = .ok (.aload_n 1, 1) := by decide +kernel
theorem dX7_stepIn_2 : decode cX7_stepIn 2 = .ok (.invokevirtual 157, 3) := by decide +kernel
theorem dX7_stepIn_5 : decode cX7_stepIn 5 = .ok (.istore_n 2, 1) := by decide +kernel
theorem dX7_stepIn_6 : decode cX7_stepIn 6 = .ok (.aload_n 1, 1) := by decide +kernel
theorem dX7_stepIn_7 : decode cX7_stepIn 7 = .ok (.iconst 4, 1) := by decide +kernel
theorem dX7_stepIn_8 : decode cX7_stepIn 8 = .ok (.dup2, 1) := by decide +kernel
theorem dX7_stepIn_9 : decode cX7_stepIn 9 = .ok (.iaload, 1) := by decide +kernel
theorem dX7_stepIn_10 : decode cX7_stepIn 10 = .ok (.iload_n 2, 1) := by decide +kernel
theorem dX7_stepIn_11 : decode cX7_stepIn 11 = .ok (.iadd, 1) := by decide +kernel
theorem dX7_stepIn_12 : decode cX7_stepIn 12 = .ok (.iastore, 1) := by decide +kernel
theorem dX7_stepIn_13 : decode cX7_stepIn 13 = .ok (.aload_n 1, 1) := by decide +kernel
theorem dX7_stepIn_14 : decode cX7_stepIn 14 = .ok (.bipush 11, 2) := by decide +kernel
theorem dX7_stepIn_16 : decode cX7_stepIn 16 = .ok (.iaload, 1) := by decide +kernel
theorem dX7_stepIn_17 : decode cX7_stepIn 17 = .ok (.ifCond .le 10, 3) := by decide +kernel
theorem dX7_stepIn_20 : decode cX7_stepIn 20 = .ok (.aload_n 1, 1) := by decide +kernel
theorem dX7_stepIn_21 : decode cX7_stepIn 21 = .ok (.iconst 0, 1) := by decide +kernel
theorem dX7_stepIn_22 : decode cX7_stepIn 22 = .ok (.invokestatic 149, 3) := by decide +kernel
theorem dX7_stepIn_25 : decode cX7_stepIn 25 = .ok (.iload_n 2, 1) := by decide +kernel
theorem dX7_stepIn_26 : decode cX7_stepIn 26 = .ok (.ireturn, 1) := by decide +kernel
theorem dX7_stepIn_27 : decode cX7_stepIn 27 = .ok (.aload_n 1, 1) := by decide +kernel
theorem dX7_stepIn_28 : decode cX7_stepIn 28 = .ok (.iconst 0, 1) := by decide +kernel
theorem dX7_stepIn_29 : decode cX7_stepIn 29 = .ok (.invokestatic 131, 3) := by decide +kernel
theorem dX7_stepIn_32 : decode cX7_stepIn 32 = .ok (.istore_n 3, 1) := by decide +kernel
theorem dX7_stepIn_33 : decode cX7_stepIn 33 = .ok (.aload_n 0, 1) := by decide +kernel
theorem dX7_stepIn_34 : decode cX7_stepIn 34 = .ok (.aload_n 1, 1) := by decide +kernel
theorem dX7_stepIn_35 : decode cX7_stepIn 35 = .ok (.invokevirtual 153, 3) := by decide +kernel
theorem dX7_stepIn_38 : decode cX7_stepIn 38 = .ok (.istore 4, 2) := by decide +kernel
theorem dX7_stepIn_40 : decode cX7_stepIn 40 = .ok (.aload_n 1, 1) := by decide +kernel
theorem dX7_stepIn_41 : decode cX7_stepIn 41 = .ok (.bipush 8, 2) := by decide +kernel
theorem dX7_stepIn_43 : decode cX7_stepIn 43 = .ok (.aload_n 1, 1) := by decide +kernel
theorem dX7_stepIn_44 : decode cX7_stepIn 44 = .ok (.invokestatic 127, 3) := by decide +kernel
theorem dX7_stepIn_47 : decode cX7_stepIn 47 = .ok (.ifCond .eq 10, 3) := by decide +kernel
theorem dX7_stepIn_50 : decode cX7_stepIn 50 = .ok (.aload_n 1, 1) := by decide +kernel
theorem dX7_stepIn_51 : decode cX7_stepIn 51 = .ok (.bipush 8, 2) := by decide +kernel
theorem dX7_stepIn_53 : decode cX7_stepIn 53 = .ok (.iaload, 1) := by decide +kernel
theorem dX7_stepIn_54 : decode cX7_stepIn 54 = .ok (.goto 4, 3) := by decide +kernel
theorem dX7_stepIn_57 : decode cX7_stepIn 57 = .ok (.iload_n 3, 1) := by decide +kernel
theorem dX7_stepIn_58 : decode cX7_stepIn 58 = .ok (.iastore, 1) := by decide +kernel
theorem dX7_stepIn_59 : decode cX7_stepIn 59 = .ok (.aload_n 1, 1) := by decide +kernel
theorem dX7_stepIn_60 : decode cX7_stepIn 60 = .ok (.bipush 7, 2) := by decide +kernel
theorem dX7_stepIn_62 : decode cX7_stepIn 62 = .ok (.iload 4, 2) := by decide +kernel
theorem dX7_stepIn_64 : decode cX7_stepIn 64 = .ok (.iastore, 1) := by decide +kernel
theorem dX7_stepIn_65 : decode cX7_stepIn 65 = .ok (.iconst 0, 1) := by decide +kernel
theorem dX7_stepIn_66 : decode cX7_stepIn 66 = .ok (.istore 5, 2) := by decide +kernel
theorem dX7_stepIn_68 : decode cX7_stepIn 68 = .ok (.iload 5, 2) := by decide +kernel
theorem dX7_stepIn_70 : decode cX7_stepIn 70 = .ok (.iconst 2, 1) := by decide +kernel
theorem dX7_stepIn_71 : decode cX7_stepIn 71 = .ok (.if_icmp .ge 71, 3) := by decide +kernel
theorem dX7_stepIn_74 : decode cX7_stepIn 74 = .ok (.aload_n 1, 1) := by decide +kernel
theorem dX7_stepIn_75 : decode cX7_stepIn 75 = .ok (.bipush 9, 2) := by decide +kernel
theorem dX7_stepIn_77 : decode cX7_stepIn 77 = .ok (.iload 5, 2) := by decide +kernel
theorem dX7_stepIn_79 : decode cX7_stepIn 79 = .ok (.iadd, 1) := by decide +kernel
theorem dX7_stepIn_80 : decode cX7_stepIn 80 = .ok (.iaload, 1) := by decide +kernel
theorem dX7_stepIn_81 : decode cX7_stepIn 81 = .ok (.istore 6, 2) := by decide +kernel
theorem dX7_stepIn_83 : decode cX7_stepIn 83 = .ok (.aload_n 1, 1) := by decide +kernel
theorem dX7_stepIn_84 : decode cX7_stepIn 84 = .ok (.bipush 6, 2) := by decide +kernel
theorem dX7_stepIn_86 : decode cX7_stepIn 86 = .ok (.iaload, 1) := by decide +kernel
theorem dX7_stepIn_87 : decode cX7_stepIn 87 = .ok (.iconst 1, 1) := by decide +kernel
theorem dX7_stepIn_88 : decode cX7_stepIn 88 = .ok (.iadd, 1) := by decide +kernel
theorem dX7_stepIn_89 : decode cX7_stepIn 89 = .ok (.iload 6, 2) := by decide +kernel
theorem dX7_stepIn_91 : decode cX7_stepIn 91 = .ok (.invokestatic 124, 3) := by decide +kernel
theorem dX7_stepIn_94 : decode cX7_stepIn 94 = .ok (.iload_n 3, 1) := by decide +kernel
theorem dX7_stepIn_95 : decode cX7_stepIn 95 = .ok (.invokestatic 160, 3) := by decide +kernel
theorem dX7_stepIn_98 : decode cX7_stepIn 98 = .ok (.aload_n 1, 1) := by decide +kernel
theorem dX7_stepIn_99 : decode cX7_stepIn 99 = .ok (.bipush 6, 2) := by decide +kernel
theorem dX7_stepIn_101 : decode cX7_stepIn 101 = .ok (.iaload, 1) := by decide +kernel
theorem dX7_stepIn_102 : decode cX7_stepIn 102 = .ok (.iload 6, 2) := by decide +kernel
theorem dX7_stepIn_104 : decode cX7_stepIn 104 = .ok (.invokestatic 124, 3) := by decide +kernel
theorem dX7_stepIn_107 : decode cX7_stepIn 107 = .ok (.iload_n 3, 1) := by decide +kernel
theorem dX7_stepIn_108 : decode cX7_stepIn 108 = .ok (.invokestatic 160, 3) := by decide +kernel
theorem dX7_stepIn_111 : decode cX7_stepIn 111 = .ok (.isub, 1) := by decide +kernel
theorem dX7_stepIn_112 : decode cX7_stepIn 112 = .ok (.istore 7, 2) := by decide +kernel
theorem dX7_stepIn_114 : decode cX7_stepIn 114 = .ok (.aload_n 1, 1) := by decide +kernel
theorem dX7_stepIn_115 : decode cX7_stepIn 115 = .ok (.iconst 2, 1) := by decide +kernel
theorem dX7_stepIn_116 : decode cX7_stepIn 116 = .ok (.iload 5, 2) := by decide +kernel
theorem dX7_stepIn_118 : decode cX7_stepIn 118 = .ok (.iadd, 1) := by decide +kernel
theorem dX7_stepIn_119 : decode cX7_stepIn 119 = .ok (.dup2, 1) := by decide +kernel
theorem dX7_stepIn_120 : decode cX7_stepIn 120 = .ok (.iaload, 1) := by decide +kernel
theorem dX7_stepIn_121 : decode cX7_stepIn 121 = .ok (.iload 6, 2) := by decide +kernel
theorem dX7_stepIn_123 : decode cX7_stepIn 123 = .ok (.ifCond .ge 9, 3) := by decide +kernel
theorem dX7_stepIn_126 : decode cX7_stepIn 126 = .ok (.iload 7, 2) := by decide +kernel
theorem dX7_stepIn_128 : decode cX7_stepIn 128 = .ok (.ineg, 1) := by decide +kernel
theorem dX7_stepIn_129 : decode cX7_stepIn 129 = .ok (.goto 5, 3) := by decide +kernel
theorem dX7_stepIn_132 : decode cX7_stepIn 132 = .ok (.iload 7, 2) := by decide +kernel
theorem dX7_stepIn_134 : decode cX7_stepIn 134 = .ok (.iadd, 1) := by decide +kernel
theorem dX7_stepIn_135 : decode cX7_stepIn 135 = .ok (.iastore, 1) := by decide +kernel
theorem dX7_stepIn_136 : decode cX7_stepIn 136 = .ok (.iinc 5 1, 3) := by decide +kernel
theorem dX7_stepIn_139 : decode cX7_stepIn 139 = .ok (.goto (-71), 3) := by decide +kernel
theorem dX7_stepIn_142 : decode cX7_stepIn 142 = .ok (.aload_n 1, 1) := by decide +kernel
theorem dX7_stepIn_143 : decode cX7_stepIn 143 = .ok (.bipush 6, 2) := by decide +kernel
theorem dX7_stepIn_145 : decode cX7_stepIn 145 = .ok (.dup2, 1) := by decide +kernel
theorem dX7_stepIn_146 : decode cX7_stepIn 146 = .ok (.iaload, 1) := by decide +kernel
theorem dX7_stepIn_147 : decode cX7_stepIn 147 = .ok (.iconst 1, 1) := by decide +kernel
theorem dX7_stepIn_148 : decode cX7_stepIn 148 = .ok (.iadd, 1) := by decide +kernel
theorem dX7_stepIn_149 : decode cX7_stepIn 149 = .ok (.iastore, 1) := by decide +kernel
theorem dX7_stepIn_150 : decode cX7_stepIn 150 = .ok (.aload_n 1, 1) := by decide +kernel
theorem dX7_stepIn_151 : decode cX7_stepIn 151 = .ok (.bipush 8, 2) := by decide +kernel
theorem dX7_stepIn_153 : decode cX7_stepIn 153 = .ok (.dup2, 1) := by decide +kernel
theorem dX7_stepIn_154 : decode cX7_stepIn 154 = .ok (.iaload, 1) := by decide +kernel
theorem dX7_stepIn_155 : decode cX7_stepIn 155 = .ok (.iconst 1, 1) := by decide +kernel
theorem dX7_stepIn_156 : decode cX7_stepIn 156 = .ok (.isub, 1) := by decide +kernel
theorem dX7_stepIn_157 : decode cX7_stepIn 157 = .ok (.iastore, 1) := by decide +kernel
theorem dX7_stepIn_158 : decode cX7_stepIn 158 = .ok (.aload_n 1, 1) := by decide +kernel
theorem dX7_stepIn_159 : decode cX7_stepIn 159 = .ok (.bipush 8, 2) := by decide +kernel
theorem dX7_stepIn_161 : decode cX7_stepIn 161 = .ok (.iaload, 1) := by decide +kernel
theorem dX7_stepIn_162 : decode cX7_stepIn 162 = .ok (.ifCond .ne 7, 3) := by decide +kernel
theorem dX7_stepIn_165 : decode cX7_stepIn 165 = .ok (.aload_n 1, 1) := by decide +kernel
theorem dX7_stepIn_166 : decode cX7_stepIn 166 = .ok (.invokestatic 163, 3) := by decide +kernel
theorem dX7_stepIn_169 : decode cX7_stepIn 169 = .ok (.iload_n 2, 1) := by decide +kernel
theorem dX7_stepIn_170 : decode cX7_stepIn 170 = .ok (.ireturn, 1) := by decide +kernel
theorem dX7_step_0 : decode cX7_step 0 = .ok (.aload_n 0, 1) := by decide +kernel
theorem dX7_step_1 : decode cX7_step 1 = .ok (.getfield 13, 3) := by decide +kernel
theorem dX7_step_4 : decode cX7_step 4 = .ok (.iconst 5, 1) := by decide +kernel
theorem dX7_step_5 : decode cX7_step 5 = .ok (.iaload, 1) := by decide +kernel
theorem dX7_step_6 : decode cX7_step 6 = .ok (.ifCond .ne 6, 3) := by decide +kernel
theorem dX7_step_9 : decode cX7_step 9 = .ok (.bipush (-3), 2) := by decide +kernel
theorem dX7_step_11 : decode cX7_step 11 = .ok (.ireturn, 1) := by decide +kernel
theorem dX7_step_12 : decode cX7_step 12 = .ok (.aload_n 0, 1) := by decide +kernel
theorem dX7_step_13 : decode cX7_step 13 = .ok (.invokevirtual 141, 3) := by decide +kernel
theorem dX7_step_16 : decode cX7_step 16 = .ok (.aload_n 0, 1) := by decide +kernel
theorem dX7_step_17 : decode cX7_step 17 = .ok (.aload_n 0, 1) := by decide +kernel
theorem dX7_step_18 : decode cX7_step 18 = .ok (.getfield 13, 3) := by decide +kernel
theorem dX7_step_21 : decode cX7_step 21 = .ok (.invokevirtual 167, 3) := by decide +kernel
theorem dX7_step_24 : decode cX7_step 24 = .ok (.ireturn, 1) := by decide +kernel
theorem dX7_runIn_0 : decode cX7_runIn 0 = .ok (.iconst 0, 1) := by decide +kernel
theorem dX7_runIn_1 : decode cX7_runIn 1 = .ok (.istore_n 3, 1) := by decide +kernel
theorem dX7_runIn_2 : decode cX7_runIn 2 = .ok (.iload_n 2, 1) := by decide +kernel
theorem dX7_runIn_3 : decode cX7_runIn 3 = .ok (.istore 4, 2) := by decide +kernel
theorem dX7_runIn_5 : decode cX7_runIn 5 = .ok (.aload_n 1, 1) := by decide +kernel
theorem dX7_runIn_6 : decode cX7_runIn 6 = .ok (.iconst 5, 1) := by decide +kernel
theorem dX7_runIn_7 : decode cX7_runIn 7 = .ok (.iaload, 1) := by decide +kernel
theorem dX7_runIn_8 : decode cX7_runIn 8 = .ok (.ifCond .le 29, 3) := by decide +kernel
theorem dX7_runIn_11 : decode cX7_runIn 11 = .ok (.aload_n 0, 1) := by decide +kernel
theorem dX7_runIn_12 : decode cX7_runIn 12 = .ok (.aload_n 1, 1) := by decide +kernel
theorem dX7_runIn_13 : decode cX7_runIn 13 = .ok (.invokevirtual 157, 3) := by decide +kernel
theorem dX7_runIn_16 : decode cX7_runIn 16 = .ok (.iload 4, 2) := by decide +kernel
theorem dX7_runIn_18 : decode cX7_runIn 18 = .ok (.if_icmp .gt 19, 3) := by decide +kernel
theorem dX7_runIn_21 : decode cX7_runIn 21 = .ok (.iload 4, 2) := by decide +kernel
theorem dX7_runIn_23 : decode cX7_runIn 23 = .ok (.aload_n 0, 1) := by decide +kernel
theorem dX7_runIn_24 : decode cX7_runIn 24 = .ok (.aload_n 1, 1) := by decide +kernel
theorem dX7_runIn_25 : decode cX7_runIn 25 = .ok (.invokevirtual 167, 3) := by decide +kernel
theorem dX7_runIn_28 : decode cX7_runIn 28 = .ok (.isub, 1) := by decide +kernel
theorem dX7_runIn_29 : decode cX7_runIn 29 = .ok (.istore 4, 2) := by decide +kernel
theorem dX7_runIn_31 : decode cX7_runIn 31 = .ok (.iinc 3 1, 3) := by decide +kernel
theorem dX7_runIn_34 : decode cX7_runIn 34 = .ok (.goto (-29), 3) := by decide +kernel
theorem dX7_runIn_37 : decode cX7_runIn 37 = .ok (.iload_n 3, 1) := by decide +kernel
theorem dX7_runIn_38 : decode cX7_runIn 38 = .ok (.ireturn, 1) := by decide +kernel
theorem dX7_run_0 : decode cX7_run 0 = .ok (.iload_n 1, 1) := by decide +kernel
theorem dX7_run_1 : decode cX7_run 1 = .ok (.i2l, 1) := by decide +kernel
theorem dX7_run_2 : decode cX7_run 2 = .ok (.lconst 1, 1) := by decide +kernel
theorem dX7_run_3 : decode cX7_run 3 = .ok (.ldc2_w 170, 3) := by decide +kernel
theorem dX7_run_6 : decode cX7_run 6 = .ok (.invokestatic 81, 3) := by decide +kernel
theorem dX7_run_9 : decode cX7_run 9 = .ok (.ifCond .ne 6, 3) := by decide +kernel
theorem dX7_run_12 : decode cX7_run 12 = .ok (.bipush (-2), 2) := by decide +kernel
theorem dX7_run_14 : decode cX7_run 14 = .ok (.ireturn, 1) := by decide +kernel
theorem dX7_run_15 : decode cX7_run 15 = .ok (.aload_n 0, 1) := by decide +kernel
theorem dX7_run_16 : decode cX7_run 16 = .ok (.getfield 13, 3) := by decide +kernel
theorem dX7_run_19 : decode cX7_run 19 = .ok (.iconst 5, 1) := by decide +kernel
theorem dX7_run_20 : decode cX7_run 20 = .ok (.iaload, 1) := by decide +kernel
theorem dX7_run_21 : decode cX7_run 21 = .ok (.ifCond .ne 6, 3) := by decide +kernel
theorem dX7_run_24 : decode cX7_run 24 = .ok (.bipush (-3), 2) := by decide +kernel
theorem dX7_run_26 : decode cX7_run 26 = .ok (.ireturn, 1) := by decide +kernel
theorem dX7_run_27 : decode cX7_run 27 = .ok (.aload_n 0, 1) := by decide +kernel
theorem dX7_run_28 : decode cX7_run 28 = .ok (.invokevirtual 141, 3) := by decide +kernel
theorem dX7_run_31 : decode cX7_run 31 = .ok (.aload_n 0, 1) := by decide +kernel
theorem dX7_run_32 : decode cX7_run 32 = .ok (.aload_n 0, 1) := by decide +kernel
theorem dX7_run_33 : decode cX7_run 33 = .ok (.getfield 13, 3) := by decide +kernel
theorem dX7_run_36 : decode cX7_run 36 = .ok (.iload_n 1, 1) := by decide +kernel
theorem dX7_run_37 : decode cX7_run 37 = .ok (.invokevirtual 172, 3) := by decide +kernel
theorem dX7_run_40 : decode cX7_run 40 = .ok (.ireturn, 1) := by decide +kernel
theorem dX7_stopIn_0 : decode cX7_stopIn 0 = .ok (.aload_n 0, 1) := by decide +kernel
theorem dX7_stopIn_1 : decode cX7_stopIn 1 = .ok (.iconst 5, 1) := by decide +kernel
theorem dX7_stopIn_2 : decode cX7_stopIn 2 = .ok (.iconst 1, 1) := by decide +kernel
theorem dX7_stopIn_3 : decode cX7_stopIn 3 = .ok (.iastore, 1) := by decide +kernel
theorem dX7_stopIn_4 : decode cX7_stopIn 4 = .ok (.bipush 12, 2) := by decide +kernel
theorem dX7_stopIn_6 : decode cX7_stopIn 6 = .ok (.istore_n 1, 1) := by decide +kernel
theorem dX7_stopIn_7 : decode cX7_stopIn 7 = .ok (.iload_n 1, 1) := by decide +kernel
theorem dX7_stopIn_8 : decode cX7_stopIn 8 = .ok (.bipush 33, 2) := by decide +kernel
theorem dX7_stopIn_10 : decode cX7_stopIn 10 = .ok (.if_icmp .ge 13, 3) := by decide +kernel
theorem dX7_stopIn_13 : decode cX7_stopIn 13 = .ok (.aload_n 0, 1) := by decide +kernel
theorem dX7_stopIn_14 : decode cX7_stopIn 14 = .ok (.iload_n 1, 1) := by decide +kernel
theorem dX7_stopIn_15 : decode cX7_stopIn 15 = .ok (.iconst 0, 1) := by decide +kernel
theorem dX7_stopIn_16 : decode cX7_stopIn 16 = .ok (.iastore, 1) := by decide +kernel
theorem dX7_stopIn_17 : decode cX7_stopIn 17 = .ok (.iinc 1 1, 3) := by decide +kernel
theorem dX7_stopIn_20 : decode cX7_stopIn 20 = .ok (.goto (-13), 3) := by decide +kernel
theorem dX7_stopIn_23 : decode cX7_stopIn 23 = .ok (.aload_n 0, 1) := by decide +kernel
theorem dX7_stopIn_24 : decode cX7_stopIn 24 = .ok (.bipush 8, 2) := by decide +kernel
theorem dX7_stopIn_26 : decode cX7_stopIn 26 = .ok (.aload_n 0, 1) := by decide +kernel
theorem dX7_stopIn_27 : decode cX7_stopIn 27 = .ok (.bipush 7, 2) := by decide +kernel
theorem dX7_stopIn_29 : decode cX7_stopIn 29 = .ok (.iaload, 1) := by decide +kernel
theorem dX7_stopIn_30 : decode cX7_stopIn 30 = .ok (.iastore, 1) := by decide +kernel
theorem dX7_stopIn_31 : decode cX7_stopIn 31 = .ok (.aload_n 0, 1) := by decide +kernel
theorem dX7_stopIn_32 : decode cX7_stopIn 32 = .ok (.bipush 8, 2) := by decide +kernel
theorem dX7_stopIn_34 : decode cX7_stopIn 34 = .ok (.iaload, 1) := by decide +kernel
theorem dX7_stopIn_35 : decode cX7_stopIn 35 = .ok (.ifCond .ne 7, 3) := by decide +kernel
theorem dX7_stopIn_38 : decode cX7_stopIn 38 = .ok (.aload_n 0, 1) := by decide +kernel
theorem dX7_stopIn_39 : decode cX7_stopIn 39 = .ok (.invokestatic 163, 3) := by decide +kernel
theorem dX7_stopIn_42 : decode cX7_stopIn 42 = .ok (.aload_n 0, 1) := by decide +kernel
theorem dX7_stopIn_43 : decode cX7_stopIn 43 = .ok (.bipush 8, 2) := by decide +kernel
theorem dX7_stopIn_45 : decode cX7_stopIn 45 = .ok (.iaload, 1) := by decide +kernel
theorem dX7_stopIn_46 : decode cX7_stopIn 46 = .ok (.ireturn, 1) := by decide +kernel
theorem dX7_stop_0 : decode cX7_stop 0 = .ok (.aload_n 0, 1) := by decide +kernel
theorem dX7_stop_1 : decode cX7_stop 1 = .ok (.getfield 13, 3) := by decide +kernel
theorem dX7_stop_4 : decode cX7_stop 4 = .ok (.invokestatic 127, 3) := by decide +kernel
theorem dX7_stop_7 : decode cX7_stop 7 = .ok (.ifCond .ne 6, 3) := by decide +kernel
theorem dX7_stop_10 : decode cX7_stop 10 = .ok (.bipush (-3), 2) := by decide +kernel
theorem dX7_stop_12 : decode cX7_stop 12 = .ok (.ireturn, 1) := by decide +kernel
theorem dX7_stop_13 : decode cX7_stop 13 = .ok (.aload_n 0, 1) := by decide +kernel
theorem dX7_stop_14 : decode cX7_stop 14 = .ok (.invokevirtual 141, 3) := by decide +kernel
theorem dX7_stop_17 : decode cX7_stop 17 = .ok (.aload_n 0, 1) := by decide +kernel
theorem dX7_stop_18 : decode cX7_stop 18 = .ok (.getfield 13, 3) := by decide +kernel
theorem dX7_stop_21 : decode cX7_stop 21 = .ok (.invokestatic 175, 3) := by decide +kernel
theorem dX7_stop_24 : decode cX7_stop 24 = .ok (.ireturn, 1) := by decide +kernel
theorem dX7_removeItem_0 : decode cX7_removeItem 0 = .ok (.iload_n 1, 1) := by decide +kernel
theorem dX7_removeItem_1 : decode cX7_removeItem 1 = .ok (.i2l, 1) := by decide +kernel
theorem dX7_removeItem_2 : decode cX7_removeItem 2 = .ok (.lconst 0, 1) := by decide +kernel
theorem dX7_removeItem_3 : decode cX7_removeItem 3 = .ok (.aload_n 0, 1) := by decide +kernel
theorem dX7_removeItem_4 : decode cX7_removeItem 4 = .ok (.getfield 13, 3) := by decide +kernel
theorem dX7_removeItem_7 : decode cX7_removeItem 7 = .ok (.iconst 5, 1) := by decide +kernel
theorem dX7_removeItem_8 : decode cX7_removeItem 8 = .ok (.iaload, 1) := by decide +kernel
theorem dX7_removeItem_9 : decode cX7_removeItem 9 = .ok (.iconst 1, 1) := by decide +kernel
theorem dX7_removeItem_10 : decode cX7_removeItem 10 = .ok (.isub, 1) := by decide +kernel
theorem dX7_removeItem_11 : decode cX7_removeItem 11 = .ok (.i2l, 1) := by decide +kernel
theorem dX7_removeItem_12 : decode cX7_removeItem 12 = .ok (.invokestatic 81, 3) := by decide +kernel
theorem dX7_removeItem_15 : decode cX7_removeItem 15 = .ok (.ifCond .ne 5, 3) := by decide +kernel
theorem dX7_removeItem_18 : decode cX7_removeItem 18 = .ok (.iconst (-1), 1) := by decide +kernel
theorem dX7_removeItem_19 : decode cX7_removeItem 19 = .ok (.ireturn, 1) := by decide +kernel
theorem dX7_removeItem_20 : decode cX7_removeItem 20 = .ok (.iload_n 1, 1) := by decide +kernel
theorem dX7_removeItem_21 : decode cX7_removeItem 21 = .ok (.ifCond .ne 16, 3) := by decide +kernel
theorem dX7_removeItem_24 : decode cX7_removeItem 24 = .ok (.aload_n 0, 1) := by decide +kernel
theorem dX7_removeItem_25 : decode cX7_removeItem 25 = .ok (.getfield 13, 3) := by decide +kernel
theorem dX7_removeItem_28 : decode cX7_removeItem 28 = .ok (.invokestatic 127, 3) := by decide +kernel
theorem dX7_removeItem_31 : decode cX7_removeItem 31 = .ok (.ifCond .eq 6, 3) := by decide +kernel
theorem dX7_removeItem_34 : decode cX7_removeItem 34 = .ok (.bipush (-3), 2) := by decide +kernel
theorem dX7_removeItem_36 : decode cX7_removeItem 36 = .ok (.ireturn, 1) := by decide +kernel
theorem dX7_removeItem_37 : decode cX7_removeItem 37 = .ok (.aload_n 0, 1) := by decide +kernel
theorem dX7_removeItem_38 : decode cX7_removeItem 38 = .ok (.invokevirtual 141, 3) := by decide +kernel
theorem dX7_removeItem_41 : decode cX7_removeItem 41 = .ok (.aload_n 0, 1) := by decide +kernel
theorem dX7_removeItem_42 : decode cX7_removeItem 42 = .ok (.getfield 13, 3) := by decide +kernel
theorem dX7_removeItem_45 : decode cX7_removeItem 45 = .ok (.iload_n 1, 1) := by decide +kernel
theorem dX7_removeItem_46 : decode cX7_removeItem 46 = .ok (.invokestatic 149, 3) := by decide +kernel
theorem dX7_removeItem_49 : decode cX7_removeItem 49 = .ok (.aload_n 0, 1) := by decide +kernel
theorem dX7_removeItem_50 : decode cX7_removeItem 50 = .ok (.getfield 13, 3) := by decide +kernel
theorem dX7_removeItem_53 : decode cX7_removeItem 53 = .ok (.iconst 5, 1) := by decide +kernel
theorem dX7_removeItem_54 : decode cX7_removeItem 54 = .ok (.iaload, 1) := by decide +kernel
theorem dX7_removeItem_55 : decode cX7_removeItem 55 = .ok (.ireturn, 1) := by decide +kernel
theorem dX7_undo_0 : decode cX7_undo 0 = .ok (.aload_n 0, 1) := by decide +kernel
theorem dX7_undo_1 : decode cX7_undo 1 = .ok (.getfield 120, 3) := by decide +kernel
theorem dX7_undo_4 : decode cX7_undo 4 = .ok (.ifCond .ne 6, 3) := by decide +kernel
theorem dX7_undo_7 : decode cX7_undo 7 = .ok (.bipush (-3), 2) := by decide +kernel
theorem dX7_undo_9 : decode cX7_undo 9 = .ok (.ireturn, 1) := by decide +kernel
theorem dX7_undo_10 : decode cX7_undo 10 = .ok (.aload_n 0, 1) := by decide +kernel
theorem dX7_undo_11 : decode cX7_undo 11 = .ok (.dup, 1) := by decide +kernel
theorem dX7_undo_12 : decode cX7_undo 12 = .ok (.getfield 120, 3) := by decide +kernel
theorem dX7_undo_15 : decode cX7_undo 15 = .ok (.iconst 1, 1) := by decide +kernel
theorem dX7_undo_16 : decode cX7_undo 16 = .ok (.isub, 1) := by decide +kernel
theorem dX7_undo_17 : decode cX7_undo 17 = .ok (.putfield 120, 3) := by decide +kernel
theorem dX7_undo_20 : decode cX7_undo 20 = .ok (.aload_n 0, 1) := by decide +kernel
theorem dX7_undo_21 : decode cX7_undo 21 = .ok (.aload_n 0, 1) := by decide +kernel
theorem dX7_undo_22 : decode cX7_undo 22 = .ok (.getfield 138, 3) := by decide +kernel
theorem dX7_undo_25 : decode cX7_undo 25 = .ok (.bipush 14, 2) := by decide +kernel
theorem dX7_undo_27 : decode cX7_undo 27 = .ok (.iadd, 1) := by decide +kernel
theorem dX7_undo_28 : decode cX7_undo 28 = .ok (.iconst 1, 1) := by decide +kernel
theorem dX7_undo_29 : decode cX7_undo 29 = .ok (.isub, 1) := by decide +kernel
theorem dX7_undo_30 : decode cX7_undo 30 = .ok (.bipush 14, 2) := by decide +kernel
theorem dX7_undo_32 : decode cX7_undo 32 = .ok (.irem, 1) := by decide +kernel
theorem dX7_undo_33 : decode cX7_undo 33 = .ok (.putfield 138, 3) := by decide +kernel
theorem dX7_undo_36 : decode cX7_undo 36 = .ok (.iconst 0, 1) := by decide +kernel
theorem dX7_undo_37 : decode cX7_undo 37 = .ok (.istore_n 1, 1) := by decide +kernel
theorem dX7_undo_38 : decode cX7_undo 38 = .ok (.iload_n 1, 1) := by decide +kernel
theorem dX7_undo_39 : decode cX7_undo 39 = .ok (.bipush 33, 2) := by decide +kernel
theorem dX7_undo_41 : decode cX7_undo 41 = .ok (.if_icmp .ge 29, 3) := by decide +kernel
theorem dX7_undo_44 : decode cX7_undo 44 = .ok (.aload_n 0, 1) := by decide +kernel
theorem dX7_undo_45 : decode cX7_undo 45 = .ok (.getfield 13, 3) := by decide +kernel
theorem dX7_undo_48 : decode cX7_undo 48 = .ok (.iload_n 1, 1) := by decide +kernel
theorem dX7_undo_49 : decode cX7_undo 49 = .ok (.aload_n 0, 1) := by decide +kernel
theorem dX7_undo_50 : decode cX7_undo 50 = .ok (.getfield 22, 3) := by decide +kernel
theorem dX7_undo_53 : decode cX7_undo 53 = .ok (.bipush 33, 2) := by decide +kernel
theorem dX7_undo_55 : decode cX7_undo 55 = .ok (.aload_n 0, 1) := by decide +kernel
theorem dX7_undo_56 : decode cX7_undo 56 = .ok (.getfield 138, 3) := by decide +kernel
theorem dX7_undo_59 : decode cX7_undo 59 = .ok (.imul, 1) := by decide +kernel
theorem dX7_undo_60 : decode cX7_undo 60 = .ok (.iload_n 1, 1) := by decide +kernel
theorem dX7_undo_61 : decode cX7_undo 61 = .ok (.iadd, 1) := by decide +kernel
theorem dX7_undo_62 : decode cX7_undo 62 = .ok (.iaload, 1) := by decide +kernel
theorem dX7_undo_63 : decode cX7_undo 63 = .ok (.iastore, 1) := by decide +kernel
theorem dX7_undo_64 : decode cX7_undo 64 = .ok (.iinc 1 1, 3) := by decide +kernel
theorem dX7_undo_67 : decode cX7_undo 67 = .ok (.goto (-29), 3) := by decide +kernel
theorem dX7_undo_70 : decode cX7_undo 70 = .ok (.aload_n 0, 1) := by decide +kernel
theorem dX7_undo_71 : decode cX7_undo 71 = .ok (.getfield 120, 3) := by decide +kernel
theorem dX7_undo_74 : decode cX7_undo 74 = .ok (.ireturn, 1) := by decide +kernel
theorem dX7_ticksLeft_0 : decode cX7_ticksLeft 0 = .ok (.aload_n 0, 1) := by decide +kernel
theorem dX7_ticksLeft_1 : decode cX7_ticksLeft 1 = .ok (.getfield 13, 3) := by decide +kernel
theorem dX7_ticksLeft_4 : decode cX7_ticksLeft 4 = .ok (.aload_n 0, 1) := by decide +kernel
theorem dX7_ticksLeft_5 : decode cX7_ticksLeft 5 = .ok (.getfield 16, 3) := by decide +kernel
theorem dX7_ticksLeft_8 : decode cX7_ticksLeft 8 = .ok (.invokestatic 116, 3) := by decide +kernel
theorem dX7_ticksLeft_11 : decode cX7_ticksLeft 11 = .ok (.iconst 0, 1) := by decide +kernel
theorem dX7_ticksLeft_12 : decode cX7_ticksLeft 12 = .ok (.istore_n 1, 1) := by decide +kernel
theorem dX7_ticksLeft_13 : decode cX7_ticksLeft 13 = .ok (.aload_n 0, 1) := by decide +kernel
theorem dX7_ticksLeft_14 : decode cX7_ticksLeft 14 = .ok (.getfield 16, 3) := by decide +kernel
theorem dX7_ticksLeft_17 : decode cX7_ticksLeft 17 = .ok (.iconst 5, 1) := by decide +kernel
theorem dX7_ticksLeft_18 : decode cX7_ticksLeft 18 = .ok (.iaload, 1) := by decide +kernel
theorem dX7_ticksLeft_19 : decode cX7_ticksLeft 19 = .ok (.ifCond .le 17, 3) := by decide +kernel
theorem dX7_ticksLeft_22 : decode cX7_ticksLeft 22 = .ok (.iload_n 1, 1) := by decide +kernel
theorem dX7_ticksLeft_23 : decode cX7_ticksLeft 23 = .ok (.aload_n 0, 1) := by decide +kernel
theorem dX7_ticksLeft_24 : decode cX7_ticksLeft 24 = .ok (.aload_n 0, 1) := by decide +kernel
theorem dX7_ticksLeft_25 : decode cX7_ticksLeft 25 = .ok (.getfield 16, 3) := by decide +kernel
theorem dX7_ticksLeft_28 : decode cX7_ticksLeft 28 = .ok (.invokevirtual 167, 3) := by decide +kernel
theorem dX7_ticksLeft_31 : decode cX7_ticksLeft 31 = .ok (.iadd, 1) := by decide +kernel
theorem dX7_ticksLeft_32 : decode cX7_ticksLeft 32 = .ok (.istore_n 1, 1) := by decide +kernel
theorem dX7_ticksLeft_33 : decode cX7_ticksLeft 33 = .ok (.goto (-20), 3) := by decide +kernel
theorem dX7_ticksLeft_36 : decode cX7_ticksLeft 36 = .ok (.iload_n 1, 1) := by decide +kernel
theorem dX7_ticksLeft_37 : decode cX7_ticksLeft 37 = .ok (.ireturn, 1) := by decide +kernel
theorem dX7_moveTicks_0 : decode cX7_moveTicks 0 = .ok (.iload_n 1, 1) := by decide +kernel
theorem dX7_moveTicks_1 : decode cX7_moveTicks 1 = .ok (.i2l, 1) := by decide +kernel
theorem dX7_moveTicks_2 : decode cX7_moveTicks 2 = .ok (.lconst 1, 1) := by decide +kernel
theorem dX7_moveTicks_3 : decode cX7_moveTicks 3 = .ok (.ldc2_w 106, 3) := by decide +kernel
theorem dX7_moveTicks_6 : decode cX7_moveTicks 6 = .ok (.invokestatic 81, 3) := by decide +kernel
theorem dX7_moveTicks_9 : decode cX7_moveTicks 9 = .ok (.ifCond .eq 23, 3) := by decide +kernel
theorem dX7_moveTicks_12 : decode cX7_moveTicks 12 = .ok (.aload_n 0, 1) := by decide +kernel
theorem dX7_moveTicks_13 : decode cX7_moveTicks 13 = .ok (.aload_n 0, 1) := by decide +kernel
theorem dX7_moveTicks_14 : decode cX7_moveTicks 14 = .ok (.getfield 13, 3) := by decide +kernel
theorem dX7_moveTicks_17 : decode cX7_moveTicks 17 = .ok (.iconst 0, 1) := by decide +kernel
theorem dX7_moveTicks_18 : decode cX7_moveTicks 18 = .ok (.iaload, 1) := by decide +kernel
theorem dX7_moveTicks_19 : decode cX7_moveTicks 19 = .ok (.aload_n 0, 1) := by decide +kernel
theorem dX7_moveTicks_20 : decode cX7_moveTicks 20 = .ok (.getfield 13, 3) := by decide +kernel
theorem dX7_moveTicks_23 : decode cX7_moveTicks 23 = .ok (.iconst 1, 1) := by decide +kernel
theorem dX7_moveTicks_24 : decode cX7_moveTicks 24 = .ok (.iaload, 1) := by decide +kernel
theorem dX7_moveTicks_25 : decode cX7_moveTicks 25 = .ok (.iload_n 1, 1) := by decide +kernel
theorem dX7_moveTicks_26 : decode cX7_moveTicks 26 = .ok (.invokevirtual 178, 3) := by decide +kernel
theorem dX7_moveTicks_29 : decode cX7_moveTicks 29 = .ok (.goto 5, 3) := by decide +kernel
theorem dX7_moveTicks_32 : decode cX7_moveTicks 32 = .ok (.bipush (-2), 2) := by decide +kernel
theorem dX7_moveTicks_34 : decode cX7_moveTicks 34 = .ok (.ireturn, 1) := by decide +kernel
theorem dX7_positionAfter_0 : decode cX7_positionAfter 0 = .ok (.iload_n 1, 1) := by decide +kernel
theorem dX7_positionAfter_1 : decode cX7_positionAfter 1 = .ok (.i2l, 1) := by decide +kernel
theorem dX7_positionAfter_2 : decode cX7_positionAfter 2 = .ok (.lconst 0, 1) := by decide +kernel
theorem dX7_positionAfter_3 : decode cX7_positionAfter 3 = .ok (.lconst 1, 1) := by decide +kernel
theorem dX7_positionAfter_4 : decode cX7_positionAfter 4 = .ok (.invokestatic 81, 3) := by decide +kernel
theorem dX7_positionAfter_7 : decode cX7_positionAfter 7 = .ok (.ifCond .ne 5, 3) := by decide +kernel
theorem dX7_positionAfter_10 : decode cX7_positionAfter 10 = .ok (.iconst (-1), 1) := by decide +kernel
theorem dX7_positionAfter_11 : decode cX7_positionAfter 11 = .ok (.ireturn, 1) := by decide +kernel
theorem dX7_positionAfter_12 : decode cX7_positionAfter 12 = .ok (.iload_n 2, 1) := by decide +kernel
theorem dX7_positionAfter_13 : decode cX7_positionAfter 13 = .ok (.i2l, 1) := by decide +kernel
theorem dX7_positionAfter_14 : decode cX7_positionAfter 14 = .ok (.lconst 0, 1) := by decide +kernel
theorem dX7_positionAfter_15 : decode cX7_positionAfter 15 = .ok (.ldc2_w 170, 3) := by decide +kernel
theorem dX7_positionAfter_18 : decode cX7_positionAfter 18 = .ok (.invokestatic 81, 3) := by decide +kernel
theorem dX7_positionAfter_21 : decode cX7_positionAfter 21 = .ok (.ifCond .ne 6, 3) := by decide +kernel
theorem dX7_positionAfter_24 : decode cX7_positionAfter 24 = .ok (.bipush (-2), 2) := by decide +kernel
theorem dX7_positionAfter_26 : decode cX7_positionAfter 26 = .ok (.ireturn, 1) := by decide +kernel
theorem dX7_positionAfter_27 : decode cX7_positionAfter 27 = .ok (.aload_n 0, 1) := by decide +kernel
theorem dX7_positionAfter_28 : decode cX7_positionAfter 28 = .ok (.getfield 13, 3) := by decide +kernel
theorem dX7_positionAfter_31 : decode cX7_positionAfter 31 = .ok (.aload_n 0, 1) := by decide +kernel
theorem dX7_positionAfter_32 : decode cX7_positionAfter 32 = .ok (.getfield 16, 3) := by decide +kernel
theorem dX7_positionAfter_35 : decode cX7_positionAfter 35 = .ok (.invokestatic 116, 3) := by decide +kernel
theorem dX7_positionAfter_38 : decode cX7_positionAfter 38 = .ok (.aload_n 0, 1) := by decide +kernel
theorem dX7_positionAfter_39 : decode cX7_positionAfter 39 = .ok (.aload_n 0, 1) := by decide +kernel
theorem dX7_positionAfter_40 : decode cX7_positionAfter 40 = .ok (.getfield 16, 3) := by decide +kernel
theorem dX7_positionAfter_43 : decode cX7_positionAfter 43 = .ok (.iload_n 2, 1) := by decide +kernel
theorem dX7_positionAfter_44 : decode cX7_positionAfter 44 = .ok (.invokevirtual 172, 3) := by decide +kernel
theorem dX7_positionAfter_47 : decode cX7_positionAfter 47 = .ok (.istore_n 3, 1) := by decide +kernel
theorem dX7_positionAfter_48 : decode cX7_positionAfter 48 = .ok (.aload_n 0, 1) := by decide +kernel
theorem dX7_positionAfter_49 : decode cX7_positionAfter 49 = .ok (.getfield 16, 3) := by decide +kernel
theorem dX7_positionAfter_52 : decode cX7_positionAfter 52 = .ok (.iconst 2, 1) := by decide +kernel
theorem dX7_positionAfter_53 : decode cX7_positionAfter 53 = .ok (.iload_n 1, 1) := by decide +kernel
theorem dX7_positionAfter_54 : decode cX7_positionAfter 54 = .ok (.iadd, 1) := by decide +kernel
theorem dX7_positionAfter_55 : decode cX7_positionAfter 55 = .ok (.iaload, 1) := by decide +kernel
theorem dX7_positionAfter_56 : decode cX7_positionAfter 56 = .ok (.ldc 123, 2) := by decide +kernel
theorem dX7_positionAfter_58 : decode cX7_positionAfter 58 = .ok (.iadd, 1) := by decide +kernel
theorem dX7_positionAfter_59 : decode cX7_positionAfter 59 = .ok (.ireturn, 1) := by decide +kernel
theorem dX7_leastAcceleration_0 : decode cX7_leastAcceleration 0 = .ok (.iload_n 1, 1) := by decide +kernel
theorem dX7_leastAcceleration_1 : decode cX7_leastAcceleration 1 = .ok (.i2l, 1) := by decide +kernel
theorem dX7_leastAcceleration_2 : decode cX7_leastAcceleration 2 = .ok (.lconst 1, 1) := by decide +kernel
theorem dX7_leastAcceleration_3 : decode cX7_leastAcceleration 3 = .ok (.ldc2_w 106, 3) := by decide +kernel
theorem dX7_leastAcceleration_6 : decode cX7_leastAcceleration 6 = .ok (.invokestatic 81, 3) := by decide +kernel
theorem dX7_leastAcceleration_9 : decode cX7_leastAcceleration 9 = .ok (.ifCond .eq 15, 3) := by decide +kernel
theorem dX7_leastAcceleration_12 : decode cX7_leastAcceleration 12 = .ok (.iload_n 2, 1) := by decide +kernel
theorem dX7_leastAcceleration_13 : decode cX7_leastAcceleration 13 = .ok (.i2l, 1) := by decide +kernel
theorem dX7_leastAcceleration_14 : decode cX7_leastAcceleration 14 = .ok (.lconst 1, 1) := by decide +kernel
theorem dX7_leastAcceleration_15 : decode cX7_leastAcceleration 15 = .ok (.ldc2_w 170, 3) := by decide +kernel
theorem dX7_leastAcceleration_18 : decode cX7_leastAcceleration 18 = .ok (.invokestatic 81, 3) := by decide +kernel
theorem dX7_leastAcceleration_21 : decode cX7_leastAcceleration 21 = .ok (.ifCond .ne 6, 3) := by decide +kernel
theorem dX7_leastAcceleration_24 : decode cX7_leastAcceleration 24 = .ok (.bipush (-2), 2) := by decide +kernel
theorem dX7_leastAcceleration_26 : decode cX7_leastAcceleration 26 = .ok (.ireturn, 1) := by decide +kernel
theorem dX7_leastAcceleration_27 : decode cX7_leastAcceleration 27 = .ok (.iconst 1, 1) := by decide +kernel
theorem dX7_leastAcceleration_28 : decode cX7_leastAcceleration 28 = .ok (.istore_n 3, 1) := by decide +kernel
theorem dX7_leastAcceleration_29 : decode cX7_leastAcceleration 29 = .ok (.iload_n 3, 1) := by decide +kernel
theorem dX7_leastAcceleration_30 : decode cX7_leastAcceleration 30 = .ok (.sipush 999, 3) := by decide +kernel
theorem dX7_leastAcceleration_33 : decode cX7_leastAcceleration 33 = .ok (.if_icmp .gt 27, 3) := by decide +kernel
theorem dX7_leastAcceleration_36 : decode cX7_leastAcceleration 36 = .ok (.aload_n 0, 1) := by decide +kernel
theorem dX7_leastAcceleration_37 : decode cX7_leastAcceleration 37 = .ok (.iload_n 3, 1) := by decide +kernel
theorem dX7_leastAcceleration_38 : decode cX7_leastAcceleration 38 = .ok (.aload_n 0, 1) := by decide +kernel
theorem dX7_leastAcceleration_39 : decode cX7_leastAcceleration 39 = .ok (.getfield 13, 3) := by decide +kernel
theorem dX7_leastAcceleration_42 : decode cX7_leastAcceleration 42 = .ok (.iconst 1, 1) := by decide +kernel
theorem dX7_leastAcceleration_43 : decode cX7_leastAcceleration 43 = .ok (.iaload, 1) := by decide +kernel
theorem dX7_leastAcceleration_44 : decode cX7_leastAcceleration 44 = .ok (.iload_n 1, 1) := by decide +kernel
theorem dX7_leastAcceleration_45 : decode cX7_leastAcceleration 45 = .ok (.invokevirtual 178, 3) := by decide +kernel
theorem dX7_leastAcceleration_48 : decode cX7_leastAcceleration 48 = .ok (.iload_n 2, 1) := by decide +kernel
theorem dX7_leastAcceleration_49 : decode cX7_leastAcceleration 49 = .ok (.if_icmp .gt 5, 3) := by decide +kernel
theorem dX7_leastAcceleration_52 : decode cX7_leastAcceleration 52 = .ok (.iload_n 3, 1) := by decide +kernel
theorem dX7_leastAcceleration_53 : decode cX7_leastAcceleration 53 = .ok (.ireturn, 1) := by decide +kernel
theorem dX7_leastAcceleration_54 : decode cX7_leastAcceleration 54 = .ok (.iinc 3 1, 3) := by decide +kernel
theorem dX7_leastAcceleration_57 : decode cX7_leastAcceleration 57 = .ok (.goto (-28), 3) := by decide +kernel
theorem dX7_leastAcceleration_60 : decode cX7_leastAcceleration 60 = .ok (.bipush (-9), 2) := by decide +kernel
theorem dX7_leastAcceleration_62 : decode cX7_leastAcceleration 62 = .ok (.ireturn, 1) := by decide +kernel
theorem dX7_greatestLength_0 : decode cX7_greatestLength 0 = .ok (.iload_n 1, 1) := by decide +kernel
theorem dX7_greatestLength_1 : decode cX7_greatestLength 1 = .ok (.i2l, 1) := by decide +kernel
theorem dX7_greatestLength_2 : decode cX7_greatestLength 2 = .ok (.lconst 1, 1) := by decide +kernel
theorem dX7_greatestLength_3 : decode cX7_greatestLength 3 = .ok (.ldc2_w 170, 3) := by decide +kernel
theorem dX7_greatestLength_6 : decode cX7_greatestLength 6 = .ok (.invokestatic 81, 3) := by decide +kernel
theorem dX7_greatestLength_9 : decode cX7_greatestLength 9 = .ok (.ifCond .ne 6, 3) := by decide +kernel
theorem dX7_greatestLength_12 : decode cX7_greatestLength 12 = .ok (.bipush (-2), 2) := by decide +kernel
theorem dX7_greatestLength_14 : decode cX7_greatestLength 14 = .ok (.ireturn, 1) := by decide +kernel
theorem dX7_greatestLength_15 : decode cX7_greatestLength 15 = .ok (.sipush 999, 3) := by decide +kernel
theorem dX7_greatestLength_18 : decode cX7_greatestLength 18 = .ok (.istore_n 2, 1) := by decide +kernel
theorem dX7_greatestLength_19 : decode cX7_greatestLength 19 = .ok (.iload_n 2, 1) := by decide +kernel
theorem dX7_greatestLength_20 : decode cX7_greatestLength 20 = .ok (.ifCond .le 32, 3) := by decide +kernel
theorem dX7_greatestLength_23 : decode cX7_greatestLength 23 = .ok (.aload_n 0, 1) := by decide +kernel
theorem dX7_greatestLength_24 : decode cX7_greatestLength 24 = .ok (.aload_n 0, 1) := by decide +kernel
theorem dX7_greatestLength_25 : decode cX7_greatestLength 25 = .ok (.getfield 13, 3) := by decide +kernel
theorem dX7_greatestLength_28 : decode cX7_greatestLength 28 = .ok (.iconst 0, 1) := by decide +kernel
theorem dX7_greatestLength_29 : decode cX7_greatestLength 29 = .ok (.iaload, 1) := by decide +kernel
theorem dX7_greatestLength_30 : decode cX7_greatestLength 30 = .ok (.aload_n 0, 1) := by decide +kernel
theorem dX7_greatestLength_31 : decode cX7_greatestLength 31 = .ok (.getfield 13, 3) := by decide +kernel
theorem dX7_greatestLength_34 : decode cX7_greatestLength 34 = .ok (.iconst 1, 1) := by decide +kernel
theorem dX7_greatestLength_35 : decode cX7_greatestLength 35 = .ok (.iaload, 1) := by decide +kernel
theorem dX7_greatestLength_36 : decode cX7_greatestLength 36 = .ok (.iload_n 2, 1) := by decide +kernel
theorem dX7_greatestLength_37 : decode cX7_greatestLength 37 = .ok (.invokevirtual 178, 3) := by decide +kernel
theorem dX7_greatestLength_40 : decode cX7_greatestLength 40 = .ok (.iload_n 1, 1) := by decide +kernel
theorem dX7_greatestLength_41 : decode cX7_greatestLength 41 = .ok (.if_icmp .gt 5, 3) := by decide +kernel
theorem dX7_greatestLength_44 : decode cX7_greatestLength 44 = .ok (.iload_n 2, 1) := by decide +kernel
theorem dX7_greatestLength_45 : decode cX7_greatestLength 45 = .ok (.ireturn, 1) := by decide +kernel
theorem dX7_greatestLength_46 : decode cX7_greatestLength 46 = .ok (.iinc 2 (-1), 3) := by decide +kernel
theorem dX7_greatestLength_49 : decode cX7_greatestLength 49 = .ok (.goto (-30), 3) := by decide +kernel
theorem dX7_greatestLength_52 : decode cX7_greatestLength 52 = .ok (.bipush (-9), 2) := by decide +kernel
theorem dX7_greatestLength_54 : decode cX7_greatestLength 54 = .ok (.ireturn, 1) := by decide +kernel
theorem dX7_command_0 : decode cX7_command 0 = .ok (.iconst 0, 1) := by decide +kernel
theorem dX7_command_1 : decode cX7_command 1 = .ok (.istore_n 3, 1) := by decide +kernel
theorem dX7_command_2 : decode cX7_command 2 = .ok (.iload_n 1, 1) := by decide +kernel
theorem dX7_command_3 : decode cX7_command 3 = .ok (.tableswitch 195 1 6 #[37, 89, 104, 130, 146, 173], 37) := by decide +kernel
theorem dX7_command_40 : decode cX7_command 40 = .ok (.iload_n 2, 1) := by decide +kernel
theorem dX7_command_41 : decode cX7_command 41 = .ok (.ifCond .eq 12, 3) := by decide +kernel
theorem dX7_command_44 : decode cX7_command 44 = .ok (.aload_n 0, 1) := by decide +kernel
theorem dX7_command_45 : decode cX7_command 45 = .ok (.getfield 16, 3) := by decide +kernel
theorem dX7_command_48 : decode cX7_command 48 = .ok (.iconst 5, 1) := by decide +kernel
theorem dX7_command_49 : decode cX7_command 49 = .ok (.iaload, 1) := by decide +kernel
theorem dX7_command_50 : decode cX7_command 50 = .ok (.ifCond .ne 5, 3) := by decide +kernel
theorem dX7_command_53 : decode cX7_command 53 = .ok (.iconst 0, 1) := by decide +kernel
theorem dX7_command_54 : decode cX7_command 54 = .ok (.ireturn, 1) := by decide +kernel
theorem dX7_command_55 : decode cX7_command 55 = .ok (.iconst 0, 1) := by decide +kernel
theorem dX7_command_56 : decode cX7_command 56 = .ok (.istore 4, 2) := by decide +kernel
theorem dX7_command_58 : decode cX7_command 58 = .ok (.iload 4, 2) := by decide +kernel
theorem dX7_command_60 : decode cX7_command 60 = .ok (.iload_n 2, 1) := by decide +kernel
theorem dX7_command_61 : decode cX7_command 61 = .ok (.if_icmp .ge 29, 3) := by decide +kernel
theorem dX7_command_64 : decode cX7_command 64 = .ok (.aload_n 0, 1) := by decide +kernel
theorem dX7_command_65 : decode cX7_command 65 = .ok (.getfield 16, 3) := by decide +kernel
theorem dX7_command_68 : decode cX7_command 68 = .ok (.iconst 5, 1) := by decide +kernel
theorem dX7_command_69 : decode cX7_command 69 = .ok (.iaload, 1) := by decide +kernel
theorem dX7_command_70 : decode cX7_command 70 = .ok (.ifCond .le 20, 3) := by decide +kernel
theorem dX7_command_73 : decode cX7_command 73 = .ok (.iload_n 3, 1) := by decide +kernel
theorem dX7_command_74 : decode cX7_command 74 = .ok (.aload_n 0, 1) := by decide +kernel
theorem dX7_command_75 : decode cX7_command 75 = .ok (.aload_n 0, 1) := by decide +kernel
theorem dX7_command_76 : decode cX7_command 76 = .ok (.getfield 16, 3) := by decide +kernel
theorem dX7_command_79 : decode cX7_command 79 = .ok (.invokevirtual 167, 3) := by decide +kernel
theorem dX7_command_82 : decode cX7_command 82 = .ok (.iadd, 1) := by decide +kernel
theorem dX7_command_83 : decode cX7_command 83 = .ok (.istore_n 3, 1) := by decide +kernel
theorem dX7_command_84 : decode cX7_command 84 = .ok (.iinc 4 1, 3) := by decide +kernel
theorem dX7_command_87 : decode cX7_command 87 = .ok (.goto (-29), 3) := by decide +kernel
theorem dX7_command_90 : decode cX7_command 90 = .ok (.iconst 1, 1) := by decide +kernel
theorem dX7_command_91 : decode cX7_command 91 = .ok (.ireturn, 1) := by decide +kernel
theorem dX7_command_92 : decode cX7_command 92 = .ok (.iload_n 2, 1) := by decide +kernel
theorem dX7_command_93 : decode cX7_command 93 = .ok (.ifCond .ne 5, 3) := by decide +kernel
theorem dX7_command_96 : decode cX7_command 96 = .ok (.iconst 0, 1) := by decide +kernel
theorem dX7_command_97 : decode cX7_command 97 = .ok (.ireturn, 1) := by decide +kernel
theorem dX7_command_98 : decode cX7_command 98 = .ok (.aload_n 0, 1) := by decide +kernel
theorem dX7_command_99 : decode cX7_command 99 = .ok (.getfield 16, 3) := by decide +kernel
theorem dX7_command_102 : decode cX7_command 102 = .ok (.iconst 1, 1) := by decide +kernel
theorem dX7_command_103 : decode cX7_command 103 = .ok (.iload_n 2, 1) := by decide +kernel
theorem dX7_command_104 : decode cX7_command 104 = .ok (.iastore, 1) := by decide +kernel
theorem dX7_command_105 : decode cX7_command 105 = .ok (.iconst 1, 1) := by decide +kernel
theorem dX7_command_106 : decode cX7_command 106 = .ok (.ireturn, 1) := by decide +kernel
theorem dX7_command_107 : decode cX7_command 107 = .ok (.iload_n 2, 1) := by decide +kernel
theorem dX7_command_108 : decode cX7_command 108 = .ok (.ifCond .ne 13, 3) := by decide +kernel
theorem dX7_command_111 : decode cX7_command 111 = .ok (.aload_n 0, 1) := by decide +kernel
theorem dX7_command_112 : decode cX7_command 112 = .ok (.getfield 16, 3) := by decide +kernel
theorem dX7_command_115 : decode cX7_command 115 = .ok (.invokestatic 127, 3) := by decide +kernel
theorem dX7_command_118 : decode cX7_command 118 = .ok (.ifCond .ne 5, 3) := by decide +kernel
theorem dX7_command_121 : decode cX7_command 121 = .ok (.iconst 0, 1) := by decide +kernel
theorem dX7_command_122 : decode cX7_command 122 = .ok (.ireturn, 1) := by decide +kernel
theorem dX7_command_123 : decode cX7_command 123 = .ok (.aload_n 0, 1) := by decide +kernel
theorem dX7_command_124 : decode cX7_command 124 = .ok (.getfield 16, 3) := by decide +kernel
theorem dX7_command_127 : decode cX7_command 127 = .ok (.invokestatic 175, 3) := by decide +kernel
theorem dX7_command_130 : decode cX7_command 130 = .ok (.istore_n 3, 1) := by decide +kernel
theorem dX7_command_131 : decode cX7_command 131 = .ok (.iconst 1, 1) := by decide +kernel
theorem dX7_command_132 : decode cX7_command 132 = .ok (.ireturn, 1) := by decide +kernel
theorem dX7_command_133 : decode cX7_command 133 = .ok (.aload_n 0, 1) := by decide +kernel
theorem dX7_command_134 : decode cX7_command 134 = .ok (.getfield 16, 3) := by decide +kernel
theorem dX7_command_137 : decode cX7_command 137 = .ok (.iconst 2, 1) := by decide +kernel
theorem dX7_command_138 : decode cX7_command 138 = .ok (.iaload, 1) := by decide +kernel
theorem dX7_command_139 : decode cX7_command 139 = .ok (.iload_n 2, 1) := by decide +kernel
theorem dX7_command_140 : decode cX7_command 140 = .ok (.if_icmp .ne 7, 3) := by decide +kernel
theorem dX7_command_143 : decode cX7_command 143 = .ok (.iconst 1, 1) := by decide +kernel
theorem dX7_command_144 : decode cX7_command 144 = .ok (.goto 4, 3) := by decide +kernel
theorem dX7_command_147 : decode cX7_command 147 = .ok (.iconst 0, 1) := by decide +kernel
theorem dX7_command_148 : decode cX7_command 148 = .ok (.ireturn, 1) := by decide +kernel
theorem dX7_command_149 : decode cX7_command 149 = .ok (.aload_n 0, 1) := by decide +kernel
theorem dX7_command_150 : decode cX7_command 150 = .ok (.getfield 16, 3) := by decide +kernel
theorem dX7_command_153 : decode cX7_command 153 = .ok (.invokestatic 127, 3) := by decide +kernel
theorem dX7_command_156 : decode cX7_command 156 = .ok (.ifCond .eq 18, 3) := by decide +kernel
theorem dX7_command_159 : decode cX7_command 159 = .ok (.aload_n 0, 1) := by decide +kernel
theorem dX7_command_160 : decode cX7_command 160 = .ok (.getfield 16, 3) := by decide +kernel
theorem dX7_command_163 : decode cX7_command 163 = .ok (.bipush 7, 2) := by decide +kernel
theorem dX7_command_165 : decode cX7_command 165 = .ok (.iaload, 1) := by decide +kernel
theorem dX7_command_166 : decode cX7_command 166 = .ok (.iload_n 2, 1) := by decide +kernel
theorem dX7_command_167 : decode cX7_command 167 = .ok (.if_icmp .ne 7, 3) := by decide +kernel
theorem dX7_command_170 : decode cX7_command 170 = .ok (.iconst 1, 1) := by decide +kernel
theorem dX7_command_171 : decode cX7_command 171 = .ok (.goto 4, 3) := by decide +kernel
theorem dX7_command_174 : decode cX7_command 174 = .ok (.iconst 0, 1) := by decide +kernel
theorem dX7_command_175 : decode cX7_command 175 = .ok (.ireturn, 1) := by decide +kernel
theorem dX7_command_176 : decode cX7_command 176 = .ok (.iload_n 2, 1) := by decide +kernel
theorem dX7_command_177 : decode cX7_command 177 = .ok (.bipush 10, 2) := by decide +kernel
theorem dX7_command_179 : decode cX7_command 179 = .ok (.if_icmp .ge 17, 3) := by decide +kernel
theorem dX7_command_182 : decode cX7_command 182 = .ok (.aload_n 0, 1) := by decide +kernel
theorem dX7_command_183 : decode cX7_command 183 = .ok (.getfield 16, 3) := by decide +kernel
theorem dX7_command_186 : decode cX7_command 186 = .ok (.iconst 5, 1) := by decide +kernel
theorem dX7_command_187 : decode cX7_command 187 = .ok (.iaload, 1) := by decide +kernel
theorem dX7_command_188 : decode cX7_command 188 = .ok (.iload_n 2, 1) := by decide +kernel
theorem dX7_command_189 : decode cX7_command 189 = .ok (.if_icmp .ne 7, 3) := by decide +kernel
theorem dX7_command_192 : decode cX7_command 192 = .ok (.iconst 1, 1) := by decide +kernel
theorem dX7_command_193 : decode cX7_command 193 = .ok (.goto 4, 3) := by decide +kernel
theorem dX7_command_196 : decode cX7_command 196 = .ok (.iconst 0, 1) := by decide +kernel
theorem dX7_command_197 : decode cX7_command 197 = .ok (.ireturn, 1) := by decide +kernel
theorem dX7_command_198 : decode cX7_command 198 = .ok (.iconst 0, 1) := by decide +kernel
theorem dX7_command_199 : decode cX7_command 199 = .ok (.ireturn, 1) := by decide +kernel
theorem dX7_tenThousands_0 : decode cX7_tenThousands 0 = .ok (.lconst 1, 1) := by decide +kernel
theorem dX7_tenThousands_1 : decode cX7_tenThousands 1 = .ok (.lstore_n 1, 1) := by decide +kernel
theorem dX7_tenThousands_2 : decode cX7_tenThousands 2 = .ok (.iconst 0, 1) := by decide +kernel
theorem dX7_tenThousands_3 : decode cX7_tenThousands 3 = .ok (.istore_n 3, 1) := by decide +kernel
theorem dX7_tenThousands_4 : decode cX7_tenThousands 4 = .ok (.iload_n 3, 1) := by decide +kernel
theorem dX7_tenThousands_5 : decode cX7_tenThousands 5 = .ok (.iload_n 0, 1) := by decide +kernel
theorem dX7_tenThousands_6 : decode cX7_tenThousands 6 = .ok (.if_icmp .ge 15, 3) := by decide +kernel
theorem dX7_tenThousands_9 : decode cX7_tenThousands 9 = .ok (.lload_n 1, 1) := by decide +kernel
theorem dX7_tenThousands_10 : decode cX7_tenThousands 10 = .ok (.ldc2_w 181, 3) := by decide +kernel
theorem dX7_tenThousands_13 : decode cX7_tenThousands 13 = .ok (.lmul, 1) := by decide +kernel
theorem dX7_tenThousands_14 : decode cX7_tenThousands 14 = .ok (.lstore_n 1, 1) := by decide +kernel
theorem dX7_tenThousands_15 : decode cX7_tenThousands 15 = .ok (.iinc 3 1, 3) := by decide +kernel
theorem dX7_tenThousands_18 : decode cX7_tenThousands 18 = .ok (.goto (-14), 3) := by decide +kernel
theorem dX7_tenThousands_21 : decode cX7_tenThousands 21 = .ok (.lload_n 1, 1) := by decide +kernel
theorem dX7_tenThousands_22 : decode cX7_tenThousands 22 = .ok (.lreturn, 1) := by decide +kernel
theorem dX7_runScript_0 : decode cX7_runScript 0 = .ok (.iload_n 1, 1) := by decide +kernel
theorem dX7_runScript_1 : decode cX7_runScript 1 = .ok (.i2l, 1) := by decide +kernel
theorem dX7_runScript_2 : decode cX7_runScript 2 = .ok (.lconst 1, 1) := by decide +kernel
theorem dX7_runScript_3 : decode cX7_runScript 3 = .ok (.ldc2_w 183, 3) := by decide +kernel
theorem dX7_runScript_6 : decode cX7_runScript 6 = .ok (.invokestatic 81, 3) := by decide +kernel
theorem dX7_runScript_9 : decode cX7_runScript 9 = .ok (.ifCond .eq 17, 3) := by decide +kernel
theorem dX7_runScript_12 : decode cX7_runScript 12 = .ok (.lload_n 2, 1) := by decide +kernel
theorem dX7_runScript_13 : decode cX7_runScript 13 = .ok (.lconst 0, 1) := by decide +kernel
theorem dX7_runScript_14 : decode cX7_runScript 14 = .ok (.iload_n 1, 1) := by decide +kernel
theorem dX7_runScript_15 : decode cX7_runScript 15 = .ok (.invokestatic 185, 3) := by decide +kernel
theorem dX7_runScript_18 : decode cX7_runScript 18 = .ok (.lconst 1, 1) := by decide +kernel
theorem dX7_runScript_19 : decode cX7_runScript 19 = .ok (.lsub, 1) := by decide +kernel
theorem dX7_runScript_20 : decode cX7_runScript 20 = .ok (.invokestatic 81, 3) := by decide +kernel
theorem dX7_runScript_23 : decode cX7_runScript 23 = .ok (.ifCond .ne 6, 3) := by decide +kernel
theorem dX7_runScript_26 : decode cX7_runScript 26 = .ok (.bipush (-2), 2) := by decide +kernel
theorem dX7_runScript_28 : decode cX7_runScript 28 = .ok (.ireturn, 1) := by decide +kernel
theorem dX7_runScript_29 : decode cX7_runScript 29 = .ok (.aload_n 0, 1) := by decide +kernel
theorem dX7_runScript_30 : decode cX7_runScript 30 = .ok (.getfield 13, 3) := by decide +kernel
theorem dX7_runScript_33 : decode cX7_runScript 33 = .ok (.aload_n 0, 1) := by decide +kernel
theorem dX7_runScript_34 : decode cX7_runScript 34 = .ok (.getfield 16, 3) := by decide +kernel
theorem dX7_runScript_37 : decode cX7_runScript 37 = .ok (.invokestatic 116, 3) := by decide +kernel
theorem dX7_runScript_40 : decode cX7_runScript 40 = .ok (.iconst 0, 1) := by decide +kernel
theorem dX7_runScript_41 : decode cX7_runScript 41 = .ok (.istore 4, 2) := by decide +kernel
theorem dX7_runScript_43 : decode cX7_runScript 43 = .ok (.iload 4, 2) := by decide +kernel
theorem dX7_runScript_45 : decode cX7_runScript 45 = .ok (.iload_n 1, 1) := by decide +kernel
theorem dX7_runScript_46 : decode cX7_runScript 46 = .ok (.if_icmp .ge 49, 3) := by decide +kernel
theorem dX7_runScript_49 : decode cX7_runScript 49 = .ok (.lload_n 2, 1) := by decide +kernel
theorem dX7_runScript_50 : decode cX7_runScript 50 = .ok (.iload_n 1, 1) := by decide +kernel
theorem dX7_runScript_51 : decode cX7_runScript 51 = .ok (.iconst 1, 1) := by decide +kernel
theorem dX7_runScript_52 : decode cX7_runScript 52 = .ok (.isub, 1) := by decide +kernel
theorem dX7_runScript_53 : decode cX7_runScript 53 = .ok (.iload 4, 2) := by decide +kernel
theorem dX7_runScript_55 : decode cX7_runScript 55 = .ok (.isub, 1) := by decide +kernel
theorem dX7_runScript_56 : decode cX7_runScript 56 = .ok (.invokestatic 185, 3) := by decide +kernel
theorem dX7_runScript_59 : decode cX7_runScript 59 = .ok (.ldiv, 1) := by decide +kernel
theorem dX7_runScript_60 : decode cX7_runScript 60 = .ok (.ldc2_w 181, 3) := by decide +kernel
theorem dX7_runScript_63 : decode cX7_runScript 63 = .ok (.lrem, 1) := by decide +kernel
theorem dX7_runScript_64 : decode cX7_runScript 64 = .ok (.l2i, 1) := by decide +kernel
theorem dX7_runScript_65 : decode cX7_runScript 65 = .ok (.istore 5, 2) := by decide +kernel
theorem dX7_runScript_67 : decode cX7_runScript 67 = .ok (.aload_n 0, 1) := by decide +kernel
theorem dX7_runScript_68 : decode cX7_runScript 68 = .ok (.iload 5, 2) := by decide +kernel
theorem dX7_runScript_70 : decode cX7_runScript 70 = .ok (.sipush 1000, 3) := by decide +kernel
theorem dX7_runScript_73 : decode cX7_runScript 73 = .ok (.idiv, 1) := by decide +kernel
theorem dX7_runScript_74 : decode cX7_runScript 74 = .ok (.iload 5, 2) := by decide +kernel
theorem dX7_runScript_76 : decode cX7_runScript 76 = .ok (.sipush 1000, 3) := by decide +kernel
theorem dX7_runScript_79 : decode cX7_runScript 79 = .ok (.irem, 1) := by decide +kernel
theorem dX7_runScript_80 : decode cX7_runScript 80 = .ok (.invokevirtual 189, 3) := by decide +kernel
theorem dX7_runScript_83 : decode cX7_runScript 83 = .ok (.ifCond .ne 6, 3) := by decide +kernel
theorem dX7_runScript_86 : decode cX7_runScript 86 = .ok (.iload 4, 2) := by decide +kernel
theorem dX7_runScript_88 : decode cX7_runScript 88 = .ok (.ireturn, 1) := by decide +kernel
theorem dX7_runScript_89 : decode cX7_runScript 89 = .ok (.iinc 4 1, 3) := by decide +kernel
theorem dX7_runScript_92 : decode cX7_runScript 92 = .ok (.goto (-49), 3) := by decide +kernel
theorem dX7_runScript_95 : decode cX7_runScript 95 = .ok (.bipush (-9), 2) := by decide +kernel
theorem dX7_runScript_97 : decode cX7_runScript 97 = .ok (.ireturn, 1) := by decide +kernel
theorem dX7_randomSpeeds_0 : decode cX7_randomSpeeds 0 = .ok (.iload_n 3, 1) := by decide +kernel
theorem dX7_randomSpeeds_1 : decode cX7_randomSpeeds 1 = .ok (.i2l, 1) := by decide +kernel
theorem dX7_randomSpeeds_2 : decode cX7_randomSpeeds 2 = .ok (.lconst 1, 1) := by decide +kernel
theorem dX7_randomSpeeds_3 : decode cX7_randomSpeeds 3 = .ok (.ldc2_w 193, 3) := by decide +kernel
theorem dX7_randomSpeeds_6 : decode cX7_randomSpeeds 6 = .ok (.invokestatic 81, 3) := by decide +kernel
theorem dX7_randomSpeeds_9 : decode cX7_randomSpeeds 9 = .ok (.ifCond .ne 6, 3) := by decide +kernel
theorem dX7_randomSpeeds_12 : decode cX7_randomSpeeds 12 = .ok (.bipush (-2), 2) := by decide +kernel
theorem dX7_randomSpeeds_14 : decode cX7_randomSpeeds 14 = .ok (.ireturn, 1) := by decide +kernel
theorem dX7_randomSpeeds_15 : decode cX7_randomSpeeds 15 = .ok (.aload_n 0, 1) := by decide +kernel
theorem dX7_randomSpeeds_16 : decode cX7_randomSpeeds 16 = .ok (.getfield 13, 3) := by decide +kernel
theorem dX7_randomSpeeds_19 : decode cX7_randomSpeeds 19 = .ok (.aload_n 0, 1) := by decide +kernel
theorem dX7_randomSpeeds_20 : decode cX7_randomSpeeds 20 = .ok (.getfield 16, 3) := by decide +kernel
theorem dX7_randomSpeeds_23 : decode cX7_randomSpeeds 23 = .ok (.invokestatic 116, 3) := by decide +kernel
theorem dX7_randomSpeeds_26 : decode cX7_randomSpeeds 26 = .ok (.lload_n 1, 1) := by decide +kernel
theorem dX7_randomSpeeds_27 : decode cX7_randomSpeeds 27 = .ok (.lstore 4, 2) := by decide +kernel
theorem dX7_randomSpeeds_29 : decode cX7_randomSpeeds 29 = .ok (.iconst 0, 1) := by decide +kernel
theorem dX7_randomSpeeds_30 : decode cX7_randomSpeeds 30 = .ok (.istore 6, 2) := by decide +kernel
theorem dX7_randomSpeeds_32 : decode cX7_randomSpeeds 32 = .ok (.iconst 0, 1) := by decide +kernel
theorem dX7_randomSpeeds_33 : decode cX7_randomSpeeds 33 = .ok (.istore 7, 2) := by decide +kernel
theorem dX7_randomSpeeds_35 : decode cX7_randomSpeeds 35 = .ok (.iload 7, 2) := by decide +kernel
theorem dX7_randomSpeeds_37 : decode cX7_randomSpeeds 37 = .ok (.iload_n 3, 1) := by decide +kernel
theorem dX7_randomSpeeds_38 : decode cX7_randomSpeeds 38 = .ok (.if_icmp .ge 74, 3) := by decide +kernel
theorem dX7_randomSpeeds_41 : decode cX7_randomSpeeds 41 = .ok (.aload_n 0, 1) := by decide +kernel
theorem dX7_randomSpeeds_42 : decode cX7_randomSpeeds 42 = .ok (.getfield 16, 3) := by decide +kernel
theorem dX7_randomSpeeds_45 : decode cX7_randomSpeeds 45 = .ok (.iconst 5, 1) := by decide +kernel
theorem dX7_randomSpeeds_46 : decode cX7_randomSpeeds 46 = .ok (.iaload, 1) := by decide +kernel
theorem dX7_randomSpeeds_47 : decode cX7_randomSpeeds 47 = .ok (.ifCond .le 65, 3) := by decide +kernel
theorem dX7_randomSpeeds_50 : decode cX7_randomSpeeds 50 = .ok (.lload 4, 2) := by decide +kernel
theorem dX7_randomSpeeds_52 : decode cX7_randomSpeeds 52 = .ok (.ldc2_w 195, 3) := by decide +kernel
theorem dX7_randomSpeeds_55 : decode cX7_randomSpeeds 55 = .ok (.lmul, 1) := by decide +kernel
theorem dX7_randomSpeeds_56 : decode cX7_randomSpeeds 56 = .ok (.ldc2_w 197, 3) := by decide +kernel
theorem dX7_randomSpeeds_59 : decode cX7_randomSpeeds 59 = .ok (.ladd, 1) := by decide +kernel
theorem dX7_randomSpeeds_60 : decode cX7_randomSpeeds 60 = .ok (.lstore 4, 2) := by decide +kernel
theorem dX7_randomSpeeds_62 : decode cX7_randomSpeeds 62 = .ok (.lload 4, 2) := by decide +kernel
theorem dX7_randomSpeeds_64 : decode cX7_randomSpeeds 64 = .ok (.bipush 33, 2) := by decide +kernel
theorem dX7_randomSpeeds_66 : decode cX7_randomSpeeds 66 = .ok (.lushr, 1) := by decide +kernel
theorem dX7_randomSpeeds_67 : decode cX7_randomSpeeds 67 = .ok (.l2i, 1) := by decide +kernel
theorem dX7_randomSpeeds_68 : decode cX7_randomSpeeds 68 = .ok (.istore 8, 2) := by decide +kernel
theorem dX7_randomSpeeds_70 : decode cX7_randomSpeeds 70 = .ok (.iload 8, 2) := by decide +kernel
theorem dX7_randomSpeeds_72 : decode cX7_randomSpeeds 72 = .ok (.iconst 4, 1) := by decide +kernel
theorem dX7_randomSpeeds_73 : decode cX7_randomSpeeds 73 = .ok (.irem, 1) := by decide +kernel
theorem dX7_randomSpeeds_74 : decode cX7_randomSpeeds 74 = .ok (.ifCond .ne 19, 3) := by decide +kernel
theorem dX7_randomSpeeds_77 : decode cX7_randomSpeeds 77 = .ok (.aload_n 0, 1) := by decide +kernel
theorem dX7_randomSpeeds_78 : decode cX7_randomSpeeds 78 = .ok (.getfield 16, 3) := by decide +kernel
theorem dX7_randomSpeeds_81 : decode cX7_randomSpeeds 81 = .ok (.iconst 1, 1) := by decide +kernel
theorem dX7_randomSpeeds_82 : decode cX7_randomSpeeds 82 = .ok (.iload 8, 2) := by decide +kernel
theorem dX7_randomSpeeds_84 : decode cX7_randomSpeeds 84 = .ok (.iconst 4, 1) := by decide +kernel
theorem dX7_randomSpeeds_85 : decode cX7_randomSpeeds 85 = .ok (.idiv, 1) := by decide +kernel
theorem dX7_randomSpeeds_86 : decode cX7_randomSpeeds 86 = .ok (.sipush 999, 3) := by decide +kernel
theorem dX7_randomSpeeds_89 : decode cX7_randomSpeeds 89 = .ok (.irem, 1) := by decide +kernel
theorem dX7_randomSpeeds_90 : decode cX7_randomSpeeds 90 = .ok (.iconst 1, 1) := by decide +kernel
theorem dX7_randomSpeeds_91 : decode cX7_randomSpeeds 91 = .ok (.iadd, 1) := by decide +kernel
theorem dX7_randomSpeeds_92 : decode cX7_randomSpeeds 92 = .ok (.iastore, 1) := by decide +kernel
theorem dX7_randomSpeeds_93 : decode cX7_randomSpeeds 93 = .ok (.iload 6, 2) := by decide +kernel
theorem dX7_randomSpeeds_95 : decode cX7_randomSpeeds 95 = .ok (.aload_n 0, 1) := by decide +kernel
theorem dX7_randomSpeeds_96 : decode cX7_randomSpeeds 96 = .ok (.aload_n 0, 1) := by decide +kernel
theorem dX7_randomSpeeds_97 : decode cX7_randomSpeeds 97 = .ok (.getfield 16, 3) := by decide +kernel
theorem dX7_randomSpeeds_100 : decode cX7_randomSpeeds 100 = .ok (.invokevirtual 167, 3) := by decide +kernel
theorem dX7_randomSpeeds_103 : decode cX7_randomSpeeds 103 = .ok (.iadd, 1) := by decide +kernel
theorem dX7_randomSpeeds_104 : decode cX7_randomSpeeds 104 = .ok (.istore 6, 2) := by decide +kernel
theorem dX7_randomSpeeds_106 : decode cX7_randomSpeeds 106 = .ok (.iinc 7 1, 3) := by decide +kernel
theorem dX7_randomSpeeds_109 : decode cX7_randomSpeeds 109 = .ok (.goto (-74), 3) := by decide +kernel
theorem dX7_randomSpeeds_112 : decode cX7_randomSpeeds 112 = .ok (.iload 6, 2) := by decide +kernel
theorem dX7_randomSpeeds_114 : decode cX7_randomSpeeds 114 = .ok (.ireturn, 1) := by decide +kernel
theorem dX7_save_0 : decode cX7_save 0 = .ok (.iload_n 1, 1) := by decide +kernel
theorem dX7_save_1 : decode cX7_save 1 = .ok (.i2l, 1) := by decide +kernel
theorem dX7_save_2 : decode cX7_save 2 = .ok (.lconst 0, 1) := by decide +kernel
theorem dX7_save_3 : decode cX7_save 3 = .ok (.lconst 1, 1) := by decide +kernel
theorem dX7_save_4 : decode cX7_save 4 = .ok (.invokestatic 81, 3) := by decide +kernel
theorem dX7_save_7 : decode cX7_save 7 = .ok (.ifCond .ne 5, 3) := by decide +kernel
theorem dX7_save_10 : decode cX7_save 10 = .ok (.iconst (-1), 1) := by decide +kernel
theorem dX7_save_11 : decode cX7_save 11 = .ok (.ireturn, 1) := by decide +kernel
theorem dX7_save_12 : decode cX7_save 12 = .ok (.aload_n 0, 1) := by decide +kernel
theorem dX7_save_13 : decode cX7_save 13 = .ok (.getfield 28, 3) := by decide +kernel
theorem dX7_save_16 : decode cX7_save 16 = .ok (.iload_n 1, 1) := by decide +kernel
theorem dX7_save_17 : decode cX7_save 17 = .ok (.iconst 1, 1) := by decide +kernel
theorem dX7_save_18 : decode cX7_save 18 = .ok (.bastore, 1) := by decide +kernel
theorem dX7_save_19 : decode cX7_save 19 = .ok (.iconst 0, 1) := by decide +kernel
theorem dX7_save_20 : decode cX7_save 20 = .ok (.istore_n 2, 1) := by decide +kernel
theorem dX7_save_21 : decode cX7_save 21 = .ok (.iload_n 2, 1) := by decide +kernel
theorem dX7_save_22 : decode cX7_save 22 = .ok (.bipush 33, 2) := by decide +kernel
theorem dX7_save_24 : decode cX7_save 24 = .ok (.if_icmp .ge 26, 3) := by decide +kernel
theorem dX7_save_27 : decode cX7_save 27 = .ok (.aload_n 0, 1) := by decide +kernel
theorem dX7_save_28 : decode cX7_save 28 = .ok (.getfield 25, 3) := by decide +kernel
theorem dX7_save_31 : decode cX7_save 31 = .ok (.bipush 33, 2) := by decide +kernel
theorem dX7_save_33 : decode cX7_save 33 = .ok (.iload_n 1, 1) := by decide +kernel
theorem dX7_save_34 : decode cX7_save 34 = .ok (.imul, 1) := by decide +kernel
theorem dX7_save_35 : decode cX7_save 35 = .ok (.iload_n 2, 1) := by decide +kernel
theorem dX7_save_36 : decode cX7_save 36 = .ok (.iadd, 1) := by decide +kernel
theorem dX7_save_37 : decode cX7_save 37 = .ok (.aload_n 0, 1) := by decide +kernel
theorem dX7_save_38 : decode cX7_save 38 = .ok (.getfield 13, 3) := by decide +kernel
theorem dX7_save_41 : decode cX7_save 41 = .ok (.iload_n 2, 1) := by decide +kernel
theorem dX7_save_42 : decode cX7_save 42 = .ok (.iaload, 1) := by decide +kernel
theorem dX7_save_43 : decode cX7_save 43 = .ok (.iastore, 1) := by decide +kernel
theorem dX7_save_44 : decode cX7_save 44 = .ok (.iinc 2 1, 3) := by decide +kernel
theorem dX7_save_47 : decode cX7_save 47 = .ok (.goto (-26), 3) := by decide +kernel
theorem dX7_save_50 : decode cX7_save 50 = .ok (.aload_n 0, 1) := by decide +kernel
theorem dX7_save_51 : decode cX7_save 51 = .ok (.getfield 13, 3) := by decide +kernel
theorem dX7_save_54 : decode cX7_save 54 = .ok (.iconst 5, 1) := by decide +kernel
theorem dX7_save_55 : decode cX7_save 55 = .ok (.iaload, 1) := by decide +kernel
theorem dX7_save_56 : decode cX7_save 56 = .ok (.ireturn, 1) := by decide +kernel
theorem dX7_restore_0 : decode cX7_restore 0 = .ok (.iload_n 1, 1) := by decide +kernel
theorem dX7_restore_1 : decode cX7_restore 1 = .ok (.i2l, 1) := by decide +kernel
theorem dX7_restore_2 : decode cX7_restore 2 = .ok (.lconst 0, 1) := by decide +kernel
theorem dX7_restore_3 : decode cX7_restore 3 = .ok (.lconst 1, 1) := by decide +kernel
theorem dX7_restore_4 : decode cX7_restore 4 = .ok (.invokestatic 81, 3) := by decide +kernel
theorem dX7_restore_7 : decode cX7_restore 7 = .ok (.ifCond .ne 5, 3) := by decide +kernel
theorem dX7_restore_10 : decode cX7_restore 10 = .ok (.iconst (-1), 1) := by decide +kernel
theorem dX7_restore_11 : decode cX7_restore 11 = .ok (.ireturn, 1) := by decide +kernel
theorem dX7_restore_12 : decode cX7_restore 12 = .ok (.aload_n 0, 1) := by decide +kernel
theorem dX7_restore_13 : decode cX7_restore 13 = .ok (.getfield 28, 3) := by decide +kernel
theorem dX7_restore_16 : decode cX7_restore 16 = .ok (.iload_n 1, 1) := by decide +kernel
theorem dX7_restore_17 : decode cX7_restore 17 = .ok (.baload, 1) := by decide +kernel
theorem dX7_restore_18 : decode cX7_restore 18 = .ok (.ifCond .ne 6, 3) := by decide +kernel
theorem dX7_restore_21 : decode cX7_restore 21 = .ok (.bipush (-3), 2) := by decide +kernel
theorem dX7_restore_23 : decode cX7_restore 23 = .ok (.ireturn, 1) := by decide +kernel
theorem dX7_restore_24 : decode cX7_restore 24 = .ok (.iconst 0, 1) := by decide +kernel
theorem dX7_restore_25 : decode cX7_restore 25 = .ok (.istore_n 2, 1) := by decide +kernel
theorem dX7_restore_26 : decode cX7_restore 26 = .ok (.iload_n 2, 1) := by decide +kernel
theorem dX7_restore_27 : decode cX7_restore 27 = .ok (.bipush 33, 2) := by decide +kernel
theorem dX7_restore_29 : decode cX7_restore 29 = .ok (.if_icmp .ge 26, 3) := by decide +kernel
theorem dX7_restore_32 : decode cX7_restore 32 = .ok (.aload_n 0, 1) := by decide +kernel
theorem dX7_restore_33 : decode cX7_restore 33 = .ok (.getfield 13, 3) := by decide +kernel
theorem dX7_restore_36 : decode cX7_restore 36 = .ok (.iload_n 2, 1) := by decide +kernel
theorem dX7_restore_37 : decode cX7_restore 37 = .ok (.aload_n 0, 1) := by decide +kernel
theorem dX7_restore_38 : decode cX7_restore 38 = .ok (.getfield 25, 3) := by decide +kernel
theorem dX7_restore_41 : decode cX7_restore 41 = .ok (.bipush 33, 2) := by decide +kernel
theorem dX7_restore_43 : decode cX7_restore 43 = .ok (.iload_n 1, 1) := by decide +kernel
theorem dX7_restore_44 : decode cX7_restore 44 = .ok (.imul, 1) := by decide +kernel
theorem dX7_restore_45 : decode cX7_restore 45 = .ok (.iload_n 2, 1) := by decide +kernel
theorem dX7_restore_46 : decode cX7_restore 46 = .ok (.iadd, 1) := by decide +kernel
theorem dX7_restore_47 : decode cX7_restore 47 = .ok (.iaload, 1) := by decide +kernel
theorem dX7_restore_48 : decode cX7_restore 48 = .ok (.iastore, 1) := by decide +kernel
theorem dX7_restore_49 : decode cX7_restore 49 = .ok (.iinc 2 1, 3) := by decide +kernel
theorem dX7_restore_52 : decode cX7_restore 52 = .ok (.goto (-26), 3) := by decide +kernel
theorem dX7_restore_55 : decode cX7_restore 55 = .ok (.aload_n 0, 1) := by decide +kernel
theorem dX7_restore_56 : decode cX7_restore 56 = .ok (.iconst 0, 1) := by decide +kernel
theorem dX7_restore_57 : decode cX7_restore 57 = .ok (.putfield 120, 3) := by decide +kernel
theorem dX7_restore_60 : decode cX7_restore 60 = .ok (.aload_n 0, 1) := by decide +kernel
theorem dX7_restore_61 : decode cX7_restore 61 = .ok (.getfield 13, 3) := by decide +kernel
theorem dX7_restore_64 : decode cX7_restore 64 = .ok (.iconst 5, 1) := by decide +kernel
theorem dX7_restore_65 : decode cX7_restore 65 = .ok (.iaload, 1) := by decide +kernel
theorem dX7_restore_66 : decode cX7_restore 66 = .ok (.ireturn, 1) := by decide +kernel
end
section
theorem dL_law_0 : decode cL_law 0 = .ok (.new 7, 3) := by decide +kernel
theorem dL_law_3 : decode cL_law 3 = .ok (.dup, 1) := by decide +kernel
theorem dL_law_4 : decode cL_law 4 = .ok (.invokespecial 9, 3) := by decide +kernel
theorem dL_law_7 : decode cL_law 7 = .ok (.astore_n 1, 1) := by decide +kernel
theorem dL_law_8 : decode cL_law 8 = .ok (.new 10, 3) := by decide +kernel
theorem dL_law_11 : decode cL_law 11 = .ok (.dup, 1) := by decide +kernel
theorem dL_law_12 : decode cL_law 12 = .ok (.invokespecial 12, 3) := by decide +kernel
theorem dL_law_15 : decode cL_law 15 = .ok (.astore_n 2, 1) := by decide +kernel
theorem dL_law_16 : decode cL_law 16 = .ok (.iconst 0, 1) := by decide +kernel
theorem dL_law_17 : decode cL_law 17 = .ok (.istore_n 3, 1) := by decide +kernel
theorem dL_law_18 : decode cL_law 18 = .ok (.iload_n 3, 1) := by decide +kernel
theorem dL_law_19 : decode cL_law 19 = .ok (.aload_n 0, 1) := by decide +kernel
theorem dL_law_20 : decode cL_law 20 = .ok (.arraylength, 1) := by decide +kernel
theorem dL_law_21 : decode cL_law 21 = .ok (.iconst 4, 1) := by decide +kernel
theorem dL_law_22 : decode cL_law 22 = .ok (.isub, 1) := by decide +kernel
theorem dL_law_23 : decode cL_law 23 = .ok (.if_icmp .gt 841, 3) := by decide +kernel
theorem dL_law_26 : decode cL_law 26 = .ok (.aload_n 0, 1) := by decide +kernel
theorem dL_law_27 : decode cL_law 27 = .ok (.iload_n 3, 1) := by decide +kernel
theorem dL_law_28 : decode cL_law 28 = .ok (.iaload, 1) := by decide +kernel
theorem dL_law_29 : decode cL_law 29 = .ok (.bipush 31, 2) := by decide +kernel
theorem dL_law_31 : decode cL_law 31 = .ok (.iand, 1) := by decide +kernel
theorem dL_law_32 : decode cL_law 32 = .ok (.tableswitch 826 0 29 #[136, 159, 172, 185, 198, 221, 234, 247, 270, 283, 296, 319, 342, 365, 388, 421, 444, 457, 480, 493, 516, 529, 542, 565, 598, 631, 654, 717, 780, 803], 136) := by decide +kernel
theorem dL_law_168 : decode cL_law 168 = .ok (.aload_n 1, 1) := by decide +kernel
theorem dL_law_169 : decode cL_law 169 = .ok (.aload_n 0, 1) := by decide +kernel
theorem dL_law_170 : decode cL_law 170 = .ok (.iload_n 3, 1) := by decide +kernel
theorem dL_law_171 : decode cL_law 171 = .ok (.iconst 1, 1) := by decide +kernel
theorem dL_law_172 : decode cL_law 172 = .ok (.iadd, 1) := by decide +kernel
theorem dL_law_173 : decode cL_law 173 = .ok (.iaload, 1) := by decide +kernel
theorem dL_law_174 : decode cL_law 174 = .ok (.invokevirtual 13, 3) := by decide +kernel
theorem dL_law_177 : decode cL_law 177 = .ok (.aload_n 2, 1) := by decide +kernel
theorem dL_law_178 : decode cL_law 178 = .ok (.aload_n 0, 1) := by decide +kernel
theorem dL_law_179 : decode cL_law 179 = .ok (.iload_n 3, 1) := by decide +kernel
theorem dL_law_180 : decode cL_law 180 = .ok (.iconst 1, 1) := by decide +kernel
theorem dL_law_181 : decode cL_law 181 = .ok (.iadd, 1) := by decide +kernel
theorem dL_law_182 : decode cL_law 182 = .ok (.iaload, 1) := by decide +kernel
theorem dL_law_183 : decode cL_law 183 = .ok (.invokevirtual 17, 3) := by decide +kernel
theorem dL_law_186 : decode cL_law 186 = .ok (.if_icmp .eq 672, 3) := by decide +kernel
theorem dL_law_189 : decode cL_law 189 = .ok (.iconst 0, 1) := by decide +kernel
theorem dL_law_190 : decode cL_law 190 = .ok (.ireturn, 1) := by decide +kernel
theorem dL_law_191 : decode cL_law 191 = .ok (.aload_n 1, 1) := by decide +kernel
theorem dL_law_192 : decode cL_law 192 = .ok (.invokevirtual 18, 3) := by decide +kernel
theorem dL_law_195 : decode cL_law 195 = .ok (.aload_n 2, 1) := by decide +kernel
theorem dL_law_196 : decode cL_law 196 = .ok (.invokevirtual 22, 3) := by decide +kernel
theorem dL_law_199 : decode cL_law 199 = .ok (.if_icmp .eq 659, 3) := by decide +kernel
theorem dL_law_202 : decode cL_law 202 = .ok (.iconst 0, 1) := by decide +kernel
theorem dL_law_203 : decode cL_law 203 = .ok (.ireturn, 1) := by decide +kernel
theorem dL_law_204 : decode cL_law 204 = .ok (.aload_n 1, 1) := by decide +kernel
theorem dL_law_205 : decode cL_law 205 = .ok (.invokevirtual 23, 3) := by decide +kernel
theorem dL_law_208 : decode cL_law 208 = .ok (.aload_n 2, 1) := by decide +kernel
theorem dL_law_209 : decode cL_law 209 = .ok (.invokevirtual 26, 3) := by decide +kernel
theorem dL_law_212 : decode cL_law 212 = .ok (.if_icmp .eq 646, 3) := by decide +kernel
theorem dL_law_215 : decode cL_law 215 = .ok (.iconst 0, 1) := by decide +kernel
theorem dL_law_216 : decode cL_law 216 = .ok (.ireturn, 1) := by decide +kernel
theorem dL_law_217 : decode cL_law 217 = .ok (.aload_n 1, 1) := by decide +kernel
theorem dL_law_218 : decode cL_law 218 = .ok (.invokevirtual 27, 3) := by decide +kernel
theorem dL_law_221 : decode cL_law 221 = .ok (.aload_n 2, 1) := by decide +kernel
theorem dL_law_222 : decode cL_law 222 = .ok (.invokevirtual 30, 3) := by decide +kernel
theorem dL_law_225 : decode cL_law 225 = .ok (.if_icmp .eq 633, 3) := by decide +kernel
theorem dL_law_228 : decode cL_law 228 = .ok (.iconst 0, 1) := by decide +kernel
theorem dL_law_229 : decode cL_law 229 = .ok (.ireturn, 1) := by decide +kernel
theorem dL_law_230 : decode cL_law 230 = .ok (.aload_n 1, 1) := by decide +kernel
theorem dL_law_231 : decode cL_law 231 = .ok (.aload_n 0, 1) := by decide +kernel
theorem dL_law_232 : decode cL_law 232 = .ok (.iload_n 3, 1) := by decide +kernel
theorem dL_law_233 : decode cL_law 233 = .ok (.iconst 1, 1) := by decide +kernel
theorem dL_law_234 : decode cL_law 234 = .ok (.iadd, 1) := by decide +kernel
theorem dL_law_235 : decode cL_law 235 = .ok (.iaload, 1) := by decide +kernel
theorem dL_law_236 : decode cL_law 236 = .ok (.invokevirtual 31, 3) := by decide +kernel
theorem dL_law_239 : decode cL_law 239 = .ok (.aload_n 2, 1) := by decide +kernel
theorem dL_law_240 : decode cL_law 240 = .ok (.aload_n 0, 1) := by decide +kernel
theorem dL_law_241 : decode cL_law 241 = .ok (.iload_n 3, 1) := by decide +kernel
theorem dL_law_242 : decode cL_law 242 = .ok (.iconst 1, 1) := by decide +kernel
theorem dL_law_243 : decode cL_law 243 = .ok (.iadd, 1) := by decide +kernel
theorem dL_law_244 : decode cL_law 244 = .ok (.iaload, 1) := by decide +kernel
theorem dL_law_245 : decode cL_law 245 = .ok (.invokevirtual 34, 3) := by decide +kernel
theorem dL_law_248 : decode cL_law 248 = .ok (.if_icmp .eq 610, 3) := by decide +kernel
theorem dL_law_251 : decode cL_law 251 = .ok (.iconst 0, 1) := by decide +kernel
theorem dL_law_252 : decode cL_law 252 = .ok (.ireturn, 1) := by decide +kernel
theorem dL_law_253 : decode cL_law 253 = .ok (.aload_n 1, 1) := by decide +kernel
theorem dL_law_254 : decode cL_law 254 = .ok (.invokevirtual 35, 3) := by decide +kernel
theorem dL_law_257 : decode cL_law 257 = .ok (.aload_n 2, 1) := by decide +kernel
theorem dL_law_258 : decode cL_law 258 = .ok (.invokevirtual 38, 3) := by decide +kernel
theorem dL_law_261 : decode cL_law 261 = .ok (.if_icmp .eq 597, 3) := by decide +kernel
theorem dL_law_264 : decode cL_law 264 = .ok (.iconst 0, 1) := by decide +kernel
theorem dL_law_265 : decode cL_law 265 = .ok (.ireturn, 1) := by decide +kernel
theorem dL_law_266 : decode cL_law 266 = .ok (.aload_n 1, 1) := by decide +kernel
theorem dL_law_267 : decode cL_law 267 = .ok (.invokevirtual 39, 3) := by decide +kernel
theorem dL_law_270 : decode cL_law 270 = .ok (.aload_n 2, 1) := by decide +kernel
theorem dL_law_271 : decode cL_law 271 = .ok (.invokevirtual 42, 3) := by decide +kernel
theorem dL_law_274 : decode cL_law 274 = .ok (.if_icmp .eq 584, 3) := by decide +kernel
theorem dL_law_277 : decode cL_law 277 = .ok (.iconst 0, 1) := by decide +kernel
theorem dL_law_278 : decode cL_law 278 = .ok (.ireturn, 1) := by decide +kernel
theorem dL_law_279 : decode cL_law 279 = .ok (.aload_n 1, 1) := by decide +kernel
theorem dL_law_280 : decode cL_law 280 = .ok (.aload_n 0, 1) := by decide +kernel
theorem dL_law_281 : decode cL_law 281 = .ok (.iload_n 3, 1) := by decide +kernel
theorem dL_law_282 : decode cL_law 282 = .ok (.iconst 1, 1) := by decide +kernel
theorem dL_law_283 : decode cL_law 283 = .ok (.iadd, 1) := by decide +kernel
theorem dL_law_284 : decode cL_law 284 = .ok (.iaload, 1) := by decide +kernel
theorem dL_law_285 : decode cL_law 285 = .ok (.invokevirtual 43, 3) := by decide +kernel
theorem dL_law_288 : decode cL_law 288 = .ok (.aload_n 2, 1) := by decide +kernel
theorem dL_law_289 : decode cL_law 289 = .ok (.aload_n 0, 1) := by decide +kernel
theorem dL_law_290 : decode cL_law 290 = .ok (.iload_n 3, 1) := by decide +kernel
theorem dL_law_291 : decode cL_law 291 = .ok (.iconst 1, 1) := by decide +kernel
theorem dL_law_292 : decode cL_law 292 = .ok (.iadd, 1) := by decide +kernel
theorem dL_law_293 : decode cL_law 293 = .ok (.iaload, 1) := by decide +kernel
theorem dL_law_294 : decode cL_law 294 = .ok (.invokevirtual 46, 3) := by decide +kernel
theorem dL_law_297 : decode cL_law 297 = .ok (.if_icmp .eq 561, 3) := by decide +kernel
theorem dL_law_300 : decode cL_law 300 = .ok (.iconst 0, 1) := by decide +kernel
theorem dL_law_301 : decode cL_law 301 = .ok (.ireturn, 1) := by decide +kernel
theorem dL_law_302 : decode cL_law 302 = .ok (.aload_n 1, 1) := by decide +kernel
theorem dL_law_303 : decode cL_law 303 = .ok (.invokevirtual 47, 3) := by decide +kernel
theorem dL_law_306 : decode cL_law 306 = .ok (.aload_n 2, 1) := by decide +kernel
theorem dL_law_307 : decode cL_law 307 = .ok (.invokevirtual 50, 3) := by decide +kernel
theorem dL_law_310 : decode cL_law 310 = .ok (.if_icmp .eq 548, 3) := by decide +kernel
theorem dL_law_313 : decode cL_law 313 = .ok (.iconst 0, 1) := by decide +kernel
theorem dL_law_314 : decode cL_law 314 = .ok (.ireturn, 1) := by decide +kernel
theorem dL_law_315 : decode cL_law 315 = .ok (.aload_n 1, 1) := by decide +kernel
theorem dL_law_316 : decode cL_law 316 = .ok (.invokevirtual 51, 3) := by decide +kernel
theorem dL_law_319 : decode cL_law 319 = .ok (.aload_n 2, 1) := by decide +kernel
theorem dL_law_320 : decode cL_law 320 = .ok (.invokevirtual 54, 3) := by decide +kernel
theorem dL_law_323 : decode cL_law 323 = .ok (.if_icmp .eq 535, 3) := by decide +kernel
theorem dL_law_326 : decode cL_law 326 = .ok (.iconst 0, 1) := by decide +kernel
theorem dL_law_327 : decode cL_law 327 = .ok (.ireturn, 1) := by decide +kernel
theorem dL_law_328 : decode cL_law 328 = .ok (.aload_n 1, 1) := by decide +kernel
theorem dL_law_329 : decode cL_law 329 = .ok (.aload_n 0, 1) := by decide +kernel
theorem dL_law_330 : decode cL_law 330 = .ok (.iload_n 3, 1) := by decide +kernel
theorem dL_law_331 : decode cL_law 331 = .ok (.iconst 1, 1) := by decide +kernel
theorem dL_law_332 : decode cL_law 332 = .ok (.iadd, 1) := by decide +kernel
theorem dL_law_333 : decode cL_law 333 = .ok (.iaload, 1) := by decide +kernel
theorem dL_law_334 : decode cL_law 334 = .ok (.invokevirtual 55, 3) := by decide +kernel
theorem dL_law_337 : decode cL_law 337 = .ok (.aload_n 2, 1) := by decide +kernel
theorem dL_law_338 : decode cL_law 338 = .ok (.aload_n 0, 1) := by decide +kernel
theorem dL_law_339 : decode cL_law 339 = .ok (.iload_n 3, 1) := by decide +kernel
theorem dL_law_340 : decode cL_law 340 = .ok (.iconst 1, 1) := by decide +kernel
theorem dL_law_341 : decode cL_law 341 = .ok (.iadd, 1) := by decide +kernel
theorem dL_law_342 : decode cL_law 342 = .ok (.iaload, 1) := by decide +kernel
theorem dL_law_343 : decode cL_law 343 = .ok (.invokevirtual 58, 3) := by decide +kernel
theorem dL_law_346 : decode cL_law 346 = .ok (.if_icmp .eq 512, 3) := by decide +kernel
theorem dL_law_349 : decode cL_law 349 = .ok (.iconst 0, 1) := by decide +kernel
theorem dL_law_350 : decode cL_law 350 = .ok (.ireturn, 1) := by decide +kernel
theorem dL_law_351 : decode cL_law 351 = .ok (.aload_n 1, 1) := by decide +kernel
theorem dL_law_352 : decode cL_law 352 = .ok (.aload_n 0, 1) := by decide +kernel
theorem dL_law_353 : decode cL_law 353 = .ok (.iload_n 3, 1) := by decide +kernel
theorem dL_law_354 : decode cL_law 354 = .ok (.iconst 1, 1) := by decide +kernel
theorem dL_law_355 : decode cL_law 355 = .ok (.iadd, 1) := by decide +kernel
theorem dL_law_356 : decode cL_law 356 = .ok (.iaload, 1) := by decide +kernel
theorem dL_law_357 : decode cL_law 357 = .ok (.invokevirtual 59, 3) := by decide +kernel
theorem dL_law_360 : decode cL_law 360 = .ok (.aload_n 2, 1) := by decide +kernel
theorem dL_law_361 : decode cL_law 361 = .ok (.aload_n 0, 1) := by decide +kernel
theorem dL_law_362 : decode cL_law 362 = .ok (.iload_n 3, 1) := by decide +kernel
theorem dL_law_363 : decode cL_law 363 = .ok (.iconst 1, 1) := by decide +kernel
theorem dL_law_364 : decode cL_law 364 = .ok (.iadd, 1) := by decide +kernel
theorem dL_law_365 : decode cL_law 365 = .ok (.iaload, 1) := by decide +kernel
theorem dL_law_366 : decode cL_law 366 = .ok (.invokevirtual 62, 3) := by decide +kernel
theorem dL_law_369 : decode cL_law 369 = .ok (.if_icmp .eq 489, 3) := by decide +kernel
theorem dL_law_372 : decode cL_law 372 = .ok (.iconst 0, 1) := by decide +kernel
theorem dL_law_373 : decode cL_law 373 = .ok (.ireturn, 1) := by decide +kernel
theorem dL_law_374 : decode cL_law 374 = .ok (.aload_n 1, 1) := by decide +kernel
theorem dL_law_375 : decode cL_law 375 = .ok (.aload_n 0, 1) := by decide +kernel
theorem dL_law_376 : decode cL_law 376 = .ok (.iload_n 3, 1) := by decide +kernel
theorem dL_law_377 : decode cL_law 377 = .ok (.iconst 1, 1) := by decide +kernel
theorem dL_law_378 : decode cL_law 378 = .ok (.iadd, 1) := by decide +kernel
theorem dL_law_379 : decode cL_law 379 = .ok (.iaload, 1) := by decide +kernel
theorem dL_law_380 : decode cL_law 380 = .ok (.invokevirtual 63, 3) := by decide +kernel
theorem dL_law_383 : decode cL_law 383 = .ok (.aload_n 2, 1) := by decide +kernel
theorem dL_law_384 : decode cL_law 384 = .ok (.aload_n 0, 1) := by decide +kernel
theorem dL_law_385 : decode cL_law 385 = .ok (.iload_n 3, 1) := by decide +kernel
theorem dL_law_386 : decode cL_law 386 = .ok (.iconst 1, 1) := by decide +kernel
theorem dL_law_387 : decode cL_law 387 = .ok (.iadd, 1) := by decide +kernel
theorem dL_law_388 : decode cL_law 388 = .ok (.iaload, 1) := by decide +kernel
theorem dL_law_389 : decode cL_law 389 = .ok (.invokevirtual 66, 3) := by decide +kernel
theorem dL_law_392 : decode cL_law 392 = .ok (.if_icmp .eq 466, 3) := by decide +kernel
theorem dL_law_395 : decode cL_law 395 = .ok (.iconst 0, 1) := by decide +kernel
theorem dL_law_396 : decode cL_law 396 = .ok (.ireturn, 1) := by decide +kernel
theorem dL_law_397 : decode cL_law 397 = .ok (.aload_n 1, 1) := by decide +kernel
theorem dL_law_398 : decode cL_law 398 = .ok (.aload_n 0, 1) := by decide +kernel
theorem dL_law_399 : decode cL_law 399 = .ok (.iload_n 3, 1) := by decide +kernel
theorem dL_law_400 : decode cL_law 400 = .ok (.iconst 1, 1) := by decide +kernel
theorem dL_law_401 : decode cL_law 401 = .ok (.iadd, 1) := by decide +kernel
theorem dL_law_402 : decode cL_law 402 = .ok (.iaload, 1) := by decide +kernel
theorem dL_law_403 : decode cL_law 403 = .ok (.invokevirtual 67, 3) := by decide +kernel
theorem dL_law_406 : decode cL_law 406 = .ok (.aload_n 2, 1) := by decide +kernel
theorem dL_law_407 : decode cL_law 407 = .ok (.aload_n 0, 1) := by decide +kernel
theorem dL_law_408 : decode cL_law 408 = .ok (.iload_n 3, 1) := by decide +kernel
theorem dL_law_409 : decode cL_law 409 = .ok (.iconst 1, 1) := by decide +kernel
theorem dL_law_410 : decode cL_law 410 = .ok (.iadd, 1) := by decide +kernel
theorem dL_law_411 : decode cL_law 411 = .ok (.iaload, 1) := by decide +kernel
theorem dL_law_412 : decode cL_law 412 = .ok (.invokevirtual 70, 3) := by decide +kernel
theorem dL_law_415 : decode cL_law 415 = .ok (.if_icmp .eq 443, 3) := by decide +kernel
theorem dL_law_418 : decode cL_law 418 = .ok (.iconst 0, 1) := by decide +kernel
theorem dL_law_419 : decode cL_law 419 = .ok (.ireturn, 1) := by decide +kernel
theorem dL_law_420 : decode cL_law 420 = .ok (.aload_n 1, 1) := by decide +kernel
theorem dL_law_421 : decode cL_law 421 = .ok (.aload_n 0, 1) := by decide +kernel
theorem dL_law_422 : decode cL_law 422 = .ok (.iload_n 3, 1) := by decide +kernel
theorem dL_law_423 : decode cL_law 423 = .ok (.iconst 1, 1) := by decide +kernel
theorem dL_law_424 : decode cL_law 424 = .ok (.iadd, 1) := by decide +kernel
theorem dL_law_425 : decode cL_law 425 = .ok (.iaload, 1) := by decide +kernel
theorem dL_law_426 : decode cL_law 426 = .ok (.aload_n 0, 1) := by decide +kernel
theorem dL_law_427 : decode cL_law 427 = .ok (.iload_n 3, 1) := by decide +kernel
theorem dL_law_428 : decode cL_law 428 = .ok (.iconst 2, 1) := by decide +kernel
theorem dL_law_429 : decode cL_law 429 = .ok (.iadd, 1) := by decide +kernel
theorem dL_law_430 : decode cL_law 430 = .ok (.iaload, 1) := by decide +kernel
theorem dL_law_431 : decode cL_law 431 = .ok (.invokevirtual 71, 3) := by decide +kernel
theorem dL_law_434 : decode cL_law 434 = .ok (.aload_n 2, 1) := by decide +kernel
theorem dL_law_435 : decode cL_law 435 = .ok (.aload_n 0, 1) := by decide +kernel
theorem dL_law_436 : decode cL_law 436 = .ok (.iload_n 3, 1) := by decide +kernel
theorem dL_law_437 : decode cL_law 437 = .ok (.iconst 1, 1) := by decide +kernel
theorem dL_law_438 : decode cL_law 438 = .ok (.iadd, 1) := by decide +kernel
theorem dL_law_439 : decode cL_law 439 = .ok (.iaload, 1) := by decide +kernel
theorem dL_law_440 : decode cL_law 440 = .ok (.aload_n 0, 1) := by decide +kernel
theorem dL_law_441 : decode cL_law 441 = .ok (.iload_n 3, 1) := by decide +kernel
theorem dL_law_442 : decode cL_law 442 = .ok (.iconst 2, 1) := by decide +kernel
theorem dL_law_443 : decode cL_law 443 = .ok (.iadd, 1) := by decide +kernel
theorem dL_law_444 : decode cL_law 444 = .ok (.iaload, 1) := by decide +kernel
theorem dL_law_445 : decode cL_law 445 = .ok (.invokevirtual 75, 3) := by decide +kernel
theorem dL_law_448 : decode cL_law 448 = .ok (.if_icmp .eq 410, 3) := by decide +kernel
theorem dL_law_451 : decode cL_law 451 = .ok (.iconst 0, 1) := by decide +kernel
theorem dL_law_452 : decode cL_law 452 = .ok (.ireturn, 1) := by decide +kernel
theorem dL_law_453 : decode cL_law 453 = .ok (.aload_n 1, 1) := by decide +kernel
theorem dL_law_454 : decode cL_law 454 = .ok (.aload_n 0, 1) := by decide +kernel
theorem dL_law_455 : decode cL_law 455 = .ok (.iload_n 3, 1) := by decide +kernel
theorem dL_law_456 : decode cL_law 456 = .ok (.iconst 1, 1) := by decide +kernel
theorem dL_law_457 : decode cL_law 457 = .ok (.iadd, 1) := by decide +kernel
theorem dL_law_458 : decode cL_law 458 = .ok (.iaload, 1) := by decide +kernel
theorem dL_law_459 : decode cL_law 459 = .ok (.invokevirtual 76, 3) := by decide +kernel
theorem dL_law_462 : decode cL_law 462 = .ok (.aload_n 2, 1) := by decide +kernel
theorem dL_law_463 : decode cL_law 463 = .ok (.aload_n 0, 1) := by decide +kernel
theorem dL_law_464 : decode cL_law 464 = .ok (.iload_n 3, 1) := by decide +kernel
theorem dL_law_465 : decode cL_law 465 = .ok (.iconst 1, 1) := by decide +kernel
theorem dL_law_466 : decode cL_law 466 = .ok (.iadd, 1) := by decide +kernel
theorem dL_law_467 : decode cL_law 467 = .ok (.iaload, 1) := by decide +kernel
theorem dL_law_468 : decode cL_law 468 = .ok (.invokevirtual 79, 3) := by decide +kernel
theorem dL_law_471 : decode cL_law 471 = .ok (.if_icmp .eq 387, 3) := by decide +kernel
theorem dL_law_474 : decode cL_law 474 = .ok (.iconst 0, 1) := by decide +kernel
theorem dL_law_475 : decode cL_law 475 = .ok (.ireturn, 1) := by decide +kernel
theorem dL_law_476 : decode cL_law 476 = .ok (.aload_n 1, 1) := by decide +kernel
theorem dL_law_477 : decode cL_law 477 = .ok (.invokevirtual 80, 3) := by decide +kernel
theorem dL_law_480 : decode cL_law 480 = .ok (.aload_n 2, 1) := by decide +kernel
theorem dL_law_481 : decode cL_law 481 = .ok (.invokevirtual 83, 3) := by decide +kernel
theorem dL_law_484 : decode cL_law 484 = .ok (.if_icmp .eq 374, 3) := by decide +kernel
theorem dL_law_487 : decode cL_law 487 = .ok (.iconst 0, 1) := by decide +kernel
theorem dL_law_488 : decode cL_law 488 = .ok (.ireturn, 1) := by decide +kernel
theorem dL_law_489 : decode cL_law 489 = .ok (.aload_n 1, 1) := by decide +kernel
theorem dL_law_490 : decode cL_law 490 = .ok (.aload_n 0, 1) := by decide +kernel
theorem dL_law_491 : decode cL_law 491 = .ok (.iload_n 3, 1) := by decide +kernel
theorem dL_law_492 : decode cL_law 492 = .ok (.iconst 1, 1) := by decide +kernel
theorem dL_law_493 : decode cL_law 493 = .ok (.iadd, 1) := by decide +kernel
theorem dL_law_494 : decode cL_law 494 = .ok (.iaload, 1) := by decide +kernel
theorem dL_law_495 : decode cL_law 495 = .ok (.invokevirtual 84, 3) := by decide +kernel
theorem dL_law_498 : decode cL_law 498 = .ok (.aload_n 2, 1) := by decide +kernel
theorem dL_law_499 : decode cL_law 499 = .ok (.aload_n 0, 1) := by decide +kernel
theorem dL_law_500 : decode cL_law 500 = .ok (.iload_n 3, 1) := by decide +kernel
theorem dL_law_501 : decode cL_law 501 = .ok (.iconst 1, 1) := by decide +kernel
theorem dL_law_502 : decode cL_law 502 = .ok (.iadd, 1) := by decide +kernel
theorem dL_law_503 : decode cL_law 503 = .ok (.iaload, 1) := by decide +kernel
theorem dL_law_504 : decode cL_law 504 = .ok (.invokevirtual 87, 3) := by decide +kernel
theorem dL_law_507 : decode cL_law 507 = .ok (.if_icmp .eq 351, 3) := by decide +kernel
theorem dL_law_510 : decode cL_law 510 = .ok (.iconst 0, 1) := by decide +kernel
theorem dL_law_511 : decode cL_law 511 = .ok (.ireturn, 1) := by decide +kernel
theorem dL_law_512 : decode cL_law 512 = .ok (.aload_n 1, 1) := by decide +kernel
theorem dL_law_513 : decode cL_law 513 = .ok (.invokevirtual 88, 3) := by decide +kernel
theorem dL_law_516 : decode cL_law 516 = .ok (.aload_n 2, 1) := by decide +kernel
theorem dL_law_517 : decode cL_law 517 = .ok (.invokevirtual 91, 3) := by decide +kernel
theorem dL_law_520 : decode cL_law 520 = .ok (.if_icmp .eq 338, 3) := by decide +kernel
theorem dL_law_523 : decode cL_law 523 = .ok (.iconst 0, 1) := by decide +kernel
theorem dL_law_524 : decode cL_law 524 = .ok (.ireturn, 1) := by decide +kernel
theorem dL_law_525 : decode cL_law 525 = .ok (.aload_n 1, 1) := by decide +kernel
theorem dL_law_526 : decode cL_law 526 = .ok (.aload_n 0, 1) := by decide +kernel
theorem dL_law_527 : decode cL_law 527 = .ok (.iload_n 3, 1) := by decide +kernel
theorem dL_law_528 : decode cL_law 528 = .ok (.iconst 1, 1) := by decide +kernel
theorem dL_law_529 : decode cL_law 529 = .ok (.iadd, 1) := by decide +kernel
theorem dL_law_530 : decode cL_law 530 = .ok (.iaload, 1) := by decide +kernel
theorem dL_law_531 : decode cL_law 531 = .ok (.invokevirtual 92, 3) := by decide +kernel
theorem dL_law_534 : decode cL_law 534 = .ok (.aload_n 2, 1) := by decide +kernel
theorem dL_law_535 : decode cL_law 535 = .ok (.aload_n 0, 1) := by decide +kernel
theorem dL_law_536 : decode cL_law 536 = .ok (.iload_n 3, 1) := by decide +kernel
theorem dL_law_537 : decode cL_law 537 = .ok (.iconst 1, 1) := by decide +kernel
theorem dL_law_538 : decode cL_law 538 = .ok (.iadd, 1) := by decide +kernel
theorem dL_law_539 : decode cL_law 539 = .ok (.iaload, 1) := by decide +kernel
theorem dL_law_540 : decode cL_law 540 = .ok (.invokevirtual 95, 3) := by decide +kernel
theorem dL_law_543 : decode cL_law 543 = .ok (.if_icmp .eq 315, 3) := by decide +kernel
theorem dL_law_546 : decode cL_law 546 = .ok (.iconst 0, 1) := by decide +kernel
theorem dL_law_547 : decode cL_law 547 = .ok (.ireturn, 1) := by decide +kernel
theorem dL_law_548 : decode cL_law 548 = .ok (.aload_n 1, 1) := by decide +kernel
theorem dL_law_549 : decode cL_law 549 = .ok (.invokevirtual 96, 3) := by decide +kernel
theorem dL_law_552 : decode cL_law 552 = .ok (.aload_n 2, 1) := by decide +kernel
theorem dL_law_553 : decode cL_law 553 = .ok (.invokevirtual 99, 3) := by decide +kernel
theorem dL_law_556 : decode cL_law 556 = .ok (.if_icmp .eq 302, 3) := by decide +kernel
theorem dL_law_559 : decode cL_law 559 = .ok (.iconst 0, 1) := by decide +kernel
theorem dL_law_560 : decode cL_law 560 = .ok (.ireturn, 1) := by decide +kernel
theorem dL_law_561 : decode cL_law 561 = .ok (.aload_n 1, 1) := by decide +kernel
theorem dL_law_562 : decode cL_law 562 = .ok (.invokevirtual 100, 3) := by decide +kernel
theorem dL_law_565 : decode cL_law 565 = .ok (.aload_n 2, 1) := by decide +kernel
theorem dL_law_566 : decode cL_law 566 = .ok (.invokevirtual 103, 3) := by decide +kernel
theorem dL_law_569 : decode cL_law 569 = .ok (.if_icmp .eq 289, 3) := by decide +kernel
theorem dL_law_572 : decode cL_law 572 = .ok (.iconst 0, 1) := by decide +kernel
theorem dL_law_573 : decode cL_law 573 = .ok (.ireturn, 1) := by decide +kernel
theorem dL_law_574 : decode cL_law 574 = .ok (.aload_n 1, 1) := by decide +kernel
theorem dL_law_575 : decode cL_law 575 = .ok (.aload_n 0, 1) := by decide +kernel
theorem dL_law_576 : decode cL_law 576 = .ok (.iload_n 3, 1) := by decide +kernel
theorem dL_law_577 : decode cL_law 577 = .ok (.iconst 1, 1) := by decide +kernel
theorem dL_law_578 : decode cL_law 578 = .ok (.iadd, 1) := by decide +kernel
theorem dL_law_579 : decode cL_law 579 = .ok (.iaload, 1) := by decide +kernel
theorem dL_law_580 : decode cL_law 580 = .ok (.invokevirtual 104, 3) := by decide +kernel
theorem dL_law_583 : decode cL_law 583 = .ok (.aload_n 2, 1) := by decide +kernel
theorem dL_law_584 : decode cL_law 584 = .ok (.aload_n 0, 1) := by decide +kernel
theorem dL_law_585 : decode cL_law 585 = .ok (.iload_n 3, 1) := by decide +kernel
theorem dL_law_586 : decode cL_law 586 = .ok (.iconst 1, 1) := by decide +kernel
theorem dL_law_587 : decode cL_law 587 = .ok (.iadd, 1) := by decide +kernel
theorem dL_law_588 : decode cL_law 588 = .ok (.iaload, 1) := by decide +kernel
theorem dL_law_589 : decode cL_law 589 = .ok (.invokevirtual 107, 3) := by decide +kernel
theorem dL_law_592 : decode cL_law 592 = .ok (.if_icmp .eq 266, 3) := by decide +kernel
theorem dL_law_595 : decode cL_law 595 = .ok (.iconst 0, 1) := by decide +kernel
theorem dL_law_596 : decode cL_law 596 = .ok (.ireturn, 1) := by decide +kernel
theorem dL_law_597 : decode cL_law 597 = .ok (.aload_n 1, 1) := by decide +kernel
theorem dL_law_598 : decode cL_law 598 = .ok (.aload_n 0, 1) := by decide +kernel
theorem dL_law_599 : decode cL_law 599 = .ok (.iload_n 3, 1) := by decide +kernel
theorem dL_law_600 : decode cL_law 600 = .ok (.iconst 1, 1) := by decide +kernel
theorem dL_law_601 : decode cL_law 601 = .ok (.iadd, 1) := by decide +kernel
theorem dL_law_602 : decode cL_law 602 = .ok (.iaload, 1) := by decide +kernel
theorem dL_law_603 : decode cL_law 603 = .ok (.aload_n 0, 1) := by decide +kernel
theorem dL_law_604 : decode cL_law 604 = .ok (.iload_n 3, 1) := by decide +kernel
theorem dL_law_605 : decode cL_law 605 = .ok (.iconst 2, 1) := by decide +kernel
theorem dL_law_606 : decode cL_law 606 = .ok (.iadd, 1) := by decide +kernel
theorem dL_law_607 : decode cL_law 607 = .ok (.iaload, 1) := by decide +kernel
theorem dL_law_608 : decode cL_law 608 = .ok (.invokevirtual 108, 3) := by decide +kernel
theorem dL_law_611 : decode cL_law 611 = .ok (.aload_n 2, 1) := by decide +kernel
theorem dL_law_612 : decode cL_law 612 = .ok (.aload_n 0, 1) := by decide +kernel
theorem dL_law_613 : decode cL_law 613 = .ok (.iload_n 3, 1) := by decide +kernel
theorem dL_law_614 : decode cL_law 614 = .ok (.iconst 1, 1) := by decide +kernel
theorem dL_law_615 : decode cL_law 615 = .ok (.iadd, 1) := by decide +kernel
theorem dL_law_616 : decode cL_law 616 = .ok (.iaload, 1) := by decide +kernel
theorem dL_law_617 : decode cL_law 617 = .ok (.aload_n 0, 1) := by decide +kernel
theorem dL_law_618 : decode cL_law 618 = .ok (.iload_n 3, 1) := by decide +kernel
theorem dL_law_619 : decode cL_law 619 = .ok (.iconst 2, 1) := by decide +kernel
theorem dL_law_620 : decode cL_law 620 = .ok (.iadd, 1) := by decide +kernel
theorem dL_law_621 : decode cL_law 621 = .ok (.iaload, 1) := by decide +kernel
theorem dL_law_622 : decode cL_law 622 = .ok (.invokevirtual 111, 3) := by decide +kernel
theorem dL_law_625 : decode cL_law 625 = .ok (.if_icmp .eq 233, 3) := by decide +kernel
theorem dL_law_628 : decode cL_law 628 = .ok (.iconst 0, 1) := by decide +kernel
theorem dL_law_629 : decode cL_law 629 = .ok (.ireturn, 1) := by decide +kernel
theorem dL_law_630 : decode cL_law 630 = .ok (.aload_n 1, 1) := by decide +kernel
theorem dL_law_631 : decode cL_law 631 = .ok (.aload_n 0, 1) := by decide +kernel
theorem dL_law_632 : decode cL_law 632 = .ok (.iload_n 3, 1) := by decide +kernel
theorem dL_law_633 : decode cL_law 633 = .ok (.iconst 1, 1) := by decide +kernel
theorem dL_law_634 : decode cL_law 634 = .ok (.iadd, 1) := by decide +kernel
theorem dL_law_635 : decode cL_law 635 = .ok (.iaload, 1) := by decide +kernel
theorem dL_law_636 : decode cL_law 636 = .ok (.aload_n 0, 1) := by decide +kernel
theorem dL_law_637 : decode cL_law 637 = .ok (.iload_n 3, 1) := by decide +kernel
theorem dL_law_638 : decode cL_law 638 = .ok (.iconst 2, 1) := by decide +kernel
theorem dL_law_639 : decode cL_law 639 = .ok (.iadd, 1) := by decide +kernel
theorem dL_law_640 : decode cL_law 640 = .ok (.iaload, 1) := by decide +kernel
theorem dL_law_641 : decode cL_law 641 = .ok (.invokevirtual 112, 3) := by decide +kernel
theorem dL_law_644 : decode cL_law 644 = .ok (.aload_n 2, 1) := by decide +kernel
theorem dL_law_645 : decode cL_law 645 = .ok (.aload_n 0, 1) := by decide +kernel
theorem dL_law_646 : decode cL_law 646 = .ok (.iload_n 3, 1) := by decide +kernel
theorem dL_law_647 : decode cL_law 647 = .ok (.iconst 1, 1) := by decide +kernel
theorem dL_law_648 : decode cL_law 648 = .ok (.iadd, 1) := by decide +kernel
theorem dL_law_649 : decode cL_law 649 = .ok (.iaload, 1) := by decide +kernel
theorem dL_law_650 : decode cL_law 650 = .ok (.aload_n 0, 1) := by decide +kernel
theorem dL_law_651 : decode cL_law 651 = .ok (.iload_n 3, 1) := by decide +kernel
theorem dL_law_652 : decode cL_law 652 = .ok (.iconst 2, 1) := by decide +kernel
theorem dL_law_653 : decode cL_law 653 = .ok (.iadd, 1) := by decide +kernel
theorem dL_law_654 : decode cL_law 654 = .ok (.iaload, 1) := by decide +kernel
theorem dL_law_655 : decode cL_law 655 = .ok (.invokevirtual 115, 3) := by decide +kernel
theorem dL_law_658 : decode cL_law 658 = .ok (.if_icmp .eq 200, 3) := by decide +kernel
theorem dL_law_661 : decode cL_law 661 = .ok (.iconst 0, 1) := by decide +kernel
theorem dL_law_662 : decode cL_law 662 = .ok (.ireturn, 1) := by decide +kernel
theorem dL_law_663 : decode cL_law 663 = .ok (.aload_n 1, 1) := by decide +kernel
theorem dL_law_664 : decode cL_law 664 = .ok (.aload_n 0, 1) := by decide +kernel
theorem dL_law_665 : decode cL_law 665 = .ok (.iload_n 3, 1) := by decide +kernel
theorem dL_law_666 : decode cL_law 666 = .ok (.iconst 1, 1) := by decide +kernel
theorem dL_law_667 : decode cL_law 667 = .ok (.iadd, 1) := by decide +kernel
theorem dL_law_668 : decode cL_law 668 = .ok (.iaload, 1) := by decide +kernel
theorem dL_law_669 : decode cL_law 669 = .ok (.invokevirtual 116, 3) := by decide +kernel
theorem dL_law_672 : decode cL_law 672 = .ok (.aload_n 2, 1) := by decide +kernel
theorem dL_law_673 : decode cL_law 673 = .ok (.aload_n 0, 1) := by decide +kernel
theorem dL_law_674 : decode cL_law 674 = .ok (.iload_n 3, 1) := by decide +kernel
theorem dL_law_675 : decode cL_law 675 = .ok (.iconst 1, 1) := by decide +kernel
theorem dL_law_676 : decode cL_law 676 = .ok (.iadd, 1) := by decide +kernel
theorem dL_law_677 : decode cL_law 677 = .ok (.iaload, 1) := by decide +kernel
theorem dL_law_678 : decode cL_law 678 = .ok (.invokevirtual 119, 3) := by decide +kernel
theorem dL_law_681 : decode cL_law 681 = .ok (.if_icmp .eq 177, 3) := by decide +kernel
theorem dL_law_684 : decode cL_law 684 = .ok (.iconst 0, 1) := by decide +kernel
theorem dL_law_685 : decode cL_law 685 = .ok (.ireturn, 1) := by decide +kernel
theorem dL_law_686 : decode cL_law 686 = .ok (.aload_n 1, 1) := by decide +kernel
theorem dL_law_687 : decode cL_law 687 = .ok (.aload_n 0, 1) := by decide +kernel
theorem dL_law_688 : decode cL_law 688 = .ok (.iload_n 3, 1) := by decide +kernel
theorem dL_law_689 : decode cL_law 689 = .ok (.iconst 1, 1) := by decide +kernel
theorem dL_law_690 : decode cL_law 690 = .ok (.iadd, 1) := by decide +kernel
theorem dL_law_691 : decode cL_law 691 = .ok (.iaload, 1) := by decide +kernel
theorem dL_law_692 : decode cL_law 692 = .ok (.aload_n 0, 1) := by decide +kernel
theorem dL_law_693 : decode cL_law 693 = .ok (.iload_n 3, 1) := by decide +kernel
theorem dL_law_694 : decode cL_law 694 = .ok (.iconst 2, 1) := by decide +kernel
theorem dL_law_695 : decode cL_law 695 = .ok (.iadd, 1) := by decide +kernel
theorem dL_law_696 : decode cL_law 696 = .ok (.iaload, 1) := by decide +kernel
theorem dL_law_697 : decode cL_law 697 = .ok (.i2l, 1) := by decide +kernel
theorem dL_law_698 : decode cL_law 698 = .ok (.bipush 32, 2) := by decide +kernel
theorem dL_law_700 : decode cL_law 700 = .ok (.lshl, 1) := by decide +kernel
theorem dL_law_701 : decode cL_law 701 = .ok (.aload_n 0, 1) := by decide +kernel
theorem dL_law_702 : decode cL_law 702 = .ok (.iload_n 3, 1) := by decide +kernel
theorem dL_law_703 : decode cL_law 703 = .ok (.iconst 3, 1) := by decide +kernel
theorem dL_law_704 : decode cL_law 704 = .ok (.iadd, 1) := by decide +kernel
theorem dL_law_705 : decode cL_law 705 = .ok (.iaload, 1) := by decide +kernel
theorem dL_law_706 : decode cL_law 706 = .ok (.i2l, 1) := by decide +kernel
theorem dL_law_707 : decode cL_law 707 = .ok (.ldc2_w 120, 3) := by decide +kernel
theorem dL_law_710 : decode cL_law 710 = .ok (.land, 1) := by decide +kernel
theorem dL_law_711 : decode cL_law 711 = .ok (.lor, 1) := by decide +kernel
theorem dL_law_712 : decode cL_law 712 = .ok (.invokevirtual 122, 3) := by decide +kernel
theorem dL_law_715 : decode cL_law 715 = .ok (.aload_n 2, 1) := by decide +kernel
theorem dL_law_716 : decode cL_law 716 = .ok (.aload_n 0, 1) := by decide +kernel
theorem dL_law_717 : decode cL_law 717 = .ok (.iload_n 3, 1) := by decide +kernel
theorem dL_law_718 : decode cL_law 718 = .ok (.iconst 1, 1) := by decide +kernel
theorem dL_law_719 : decode cL_law 719 = .ok (.iadd, 1) := by decide +kernel
theorem dL_law_720 : decode cL_law 720 = .ok (.iaload, 1) := by decide +kernel
theorem dL_law_721 : decode cL_law 721 = .ok (.aload_n 0, 1) := by decide +kernel
theorem dL_law_722 : decode cL_law 722 = .ok (.iload_n 3, 1) := by decide +kernel
theorem dL_law_723 : decode cL_law 723 = .ok (.iconst 2, 1) := by decide +kernel
theorem dL_law_724 : decode cL_law 724 = .ok (.iadd, 1) := by decide +kernel
theorem dL_law_725 : decode cL_law 725 = .ok (.iaload, 1) := by decide +kernel
theorem dL_law_726 : decode cL_law 726 = .ok (.i2l, 1) := by decide +kernel
theorem dL_law_727 : decode cL_law 727 = .ok (.bipush 32, 2) := by decide +kernel
theorem dL_law_729 : decode cL_law 729 = .ok (.lshl, 1) := by decide +kernel
theorem dL_law_730 : decode cL_law 730 = .ok (.aload_n 0, 1) := by decide +kernel
theorem dL_law_731 : decode cL_law 731 = .ok (.iload_n 3, 1) := by decide +kernel
theorem dL_law_732 : decode cL_law 732 = .ok (.iconst 3, 1) := by decide +kernel
theorem dL_law_733 : decode cL_law 733 = .ok (.iadd, 1) := by decide +kernel
theorem dL_law_734 : decode cL_law 734 = .ok (.iaload, 1) := by decide +kernel
theorem dL_law_735 : decode cL_law 735 = .ok (.i2l, 1) := by decide +kernel
theorem dL_law_736 : decode cL_law 736 = .ok (.ldc2_w 120, 3) := by decide +kernel
theorem dL_law_739 : decode cL_law 739 = .ok (.land, 1) := by decide +kernel
theorem dL_law_740 : decode cL_law 740 = .ok (.lor, 1) := by decide +kernel
theorem dL_law_741 : decode cL_law 741 = .ok (.invokevirtual 126, 3) := by decide +kernel
theorem dL_law_744 : decode cL_law 744 = .ok (.if_icmp .eq 114, 3) := by decide +kernel
theorem dL_law_747 : decode cL_law 747 = .ok (.iconst 0, 1) := by decide +kernel
theorem dL_law_748 : decode cL_law 748 = .ok (.ireturn, 1) := by decide +kernel
theorem dL_law_749 : decode cL_law 749 = .ok (.aload_n 1, 1) := by decide +kernel
theorem dL_law_750 : decode cL_law 750 = .ok (.aload_n 0, 1) := by decide +kernel
theorem dL_law_751 : decode cL_law 751 = .ok (.iload_n 3, 1) := by decide +kernel
theorem dL_law_752 : decode cL_law 752 = .ok (.iconst 1, 1) := by decide +kernel
theorem dL_law_753 : decode cL_law 753 = .ok (.iadd, 1) := by decide +kernel
theorem dL_law_754 : decode cL_law 754 = .ok (.iaload, 1) := by decide +kernel
theorem dL_law_755 : decode cL_law 755 = .ok (.i2l, 1) := by decide +kernel
theorem dL_law_756 : decode cL_law 756 = .ok (.bipush 32, 2) := by decide +kernel
theorem dL_law_758 : decode cL_law 758 = .ok (.lshl, 1) := by decide +kernel
theorem dL_law_759 : decode cL_law 759 = .ok (.aload_n 0, 1) := by decide +kernel
theorem dL_law_760 : decode cL_law 760 = .ok (.iload_n 3, 1) := by decide +kernel
theorem dL_law_761 : decode cL_law 761 = .ok (.iconst 2, 1) := by decide +kernel
theorem dL_law_762 : decode cL_law 762 = .ok (.iadd, 1) := by decide +kernel
theorem dL_law_763 : decode cL_law 763 = .ok (.iaload, 1) := by decide +kernel
theorem dL_law_764 : decode cL_law 764 = .ok (.i2l, 1) := by decide +kernel
theorem dL_law_765 : decode cL_law 765 = .ok (.ldc2_w 120, 3) := by decide +kernel
theorem dL_law_768 : decode cL_law 768 = .ok (.land, 1) := by decide +kernel
theorem dL_law_769 : decode cL_law 769 = .ok (.lor, 1) := by decide +kernel
theorem dL_law_770 : decode cL_law 770 = .ok (.aload_n 0, 1) := by decide +kernel
theorem dL_law_771 : decode cL_law 771 = .ok (.iload_n 3, 1) := by decide +kernel
theorem dL_law_772 : decode cL_law 772 = .ok (.iconst 3, 1) := by decide +kernel
theorem dL_law_773 : decode cL_law 773 = .ok (.iadd, 1) := by decide +kernel
theorem dL_law_774 : decode cL_law 774 = .ok (.iaload, 1) := by decide +kernel
theorem dL_law_775 : decode cL_law 775 = .ok (.invokevirtual 127, 3) := by decide +kernel
theorem dL_law_778 : decode cL_law 778 = .ok (.aload_n 2, 1) := by decide +kernel
theorem dL_law_779 : decode cL_law 779 = .ok (.aload_n 0, 1) := by decide +kernel
theorem dL_law_780 : decode cL_law 780 = .ok (.iload_n 3, 1) := by decide +kernel
theorem dL_law_781 : decode cL_law 781 = .ok (.iconst 1, 1) := by decide +kernel
theorem dL_law_782 : decode cL_law 782 = .ok (.iadd, 1) := by decide +kernel
theorem dL_law_783 : decode cL_law 783 = .ok (.iaload, 1) := by decide +kernel
theorem dL_law_784 : decode cL_law 784 = .ok (.i2l, 1) := by decide +kernel
theorem dL_law_785 : decode cL_law 785 = .ok (.bipush 32, 2) := by decide +kernel
theorem dL_law_787 : decode cL_law 787 = .ok (.lshl, 1) := by decide +kernel
theorem dL_law_788 : decode cL_law 788 = .ok (.aload_n 0, 1) := by decide +kernel
theorem dL_law_789 : decode cL_law 789 = .ok (.iload_n 3, 1) := by decide +kernel
theorem dL_law_790 : decode cL_law 790 = .ok (.iconst 2, 1) := by decide +kernel
theorem dL_law_791 : decode cL_law 791 = .ok (.iadd, 1) := by decide +kernel
theorem dL_law_792 : decode cL_law 792 = .ok (.iaload, 1) := by decide +kernel
theorem dL_law_793 : decode cL_law 793 = .ok (.i2l, 1) := by decide +kernel
theorem dL_law_794 : decode cL_law 794 = .ok (.ldc2_w 120, 3) := by decide +kernel
theorem dL_law_797 : decode cL_law 797 = .ok (.land, 1) := by decide +kernel
theorem dL_law_798 : decode cL_law 798 = .ok (.lor, 1) := by decide +kernel
theorem dL_law_799 : decode cL_law 799 = .ok (.aload_n 0, 1) := by decide +kernel
theorem dL_law_800 : decode cL_law 800 = .ok (.iload_n 3, 1) := by decide +kernel
theorem dL_law_801 : decode cL_law 801 = .ok (.iconst 3, 1) := by decide +kernel
theorem dL_law_802 : decode cL_law 802 = .ok (.iadd, 1) := by decide +kernel
theorem dL_law_803 : decode cL_law 803 = .ok (.iaload, 1) := by decide +kernel
theorem dL_law_804 : decode cL_law 804 = .ok (.invokevirtual 131, 3) := by decide +kernel
theorem dL_law_807 : decode cL_law 807 = .ok (.if_icmp .eq 51, 3) := by decide +kernel
theorem dL_law_810 : decode cL_law 810 = .ok (.iconst 0, 1) := by decide +kernel
theorem dL_law_811 : decode cL_law 811 = .ok (.ireturn, 1) := by decide +kernel
theorem dL_law_812 : decode cL_law 812 = .ok (.aload_n 1, 1) := by decide +kernel
theorem dL_law_813 : decode cL_law 813 = .ok (.aload_n 0, 1) := by decide +kernel
theorem dL_law_814 : decode cL_law 814 = .ok (.iload_n 3, 1) := by decide +kernel
theorem dL_law_815 : decode cL_law 815 = .ok (.iconst 1, 1) := by decide +kernel
theorem dL_law_816 : decode cL_law 816 = .ok (.iadd, 1) := by decide +kernel
theorem dL_law_817 : decode cL_law 817 = .ok (.iaload, 1) := by decide +kernel
theorem dL_law_818 : decode cL_law 818 = .ok (.invokevirtual 132, 3) := by decide +kernel
theorem dL_law_821 : decode cL_law 821 = .ok (.aload_n 2, 1) := by decide +kernel
theorem dL_law_822 : decode cL_law 822 = .ok (.aload_n 0, 1) := by decide +kernel
theorem dL_law_823 : decode cL_law 823 = .ok (.iload_n 3, 1) := by decide +kernel
theorem dL_law_824 : decode cL_law 824 = .ok (.iconst 1, 1) := by decide +kernel
theorem dL_law_825 : decode cL_law 825 = .ok (.iadd, 1) := by decide +kernel
theorem dL_law_826 : decode cL_law 826 = .ok (.iaload, 1) := by decide +kernel
theorem dL_law_827 : decode cL_law 827 = .ok (.invokevirtual 135, 3) := by decide +kernel
theorem dL_law_830 : decode cL_law 830 = .ok (.if_icmp .eq 28, 3) := by decide +kernel
theorem dL_law_833 : decode cL_law 833 = .ok (.iconst 0, 1) := by decide +kernel
theorem dL_law_834 : decode cL_law 834 = .ok (.ireturn, 1) := by decide +kernel
theorem dL_law_835 : decode cL_law 835 = .ok (.aload_n 1, 1) := by decide +kernel
theorem dL_law_836 : decode cL_law 836 = .ok (.aload_n 0, 1) := by decide +kernel
theorem dL_law_837 : decode cL_law 837 = .ok (.iload_n 3, 1) := by decide +kernel
theorem dL_law_838 : decode cL_law 838 = .ok (.iconst 1, 1) := by decide +kernel
theorem dL_law_839 : decode cL_law 839 = .ok (.iadd, 1) := by decide +kernel
theorem dL_law_840 : decode cL_law 840 = .ok (.iaload, 1) := by decide +kernel
theorem dL_law_841 : decode cL_law 841 = .ok (.invokevirtual 136, 3) := by decide +kernel
theorem dL_law_844 : decode cL_law 844 = .ok (.aload_n 2, 1) := by decide +kernel
theorem dL_law_845 : decode cL_law 845 = .ok (.aload_n 0, 1) := by decide +kernel
theorem dL_law_846 : decode cL_law 846 = .ok (.iload_n 3, 1) := by decide +kernel
theorem dL_law_847 : decode cL_law 847 = .ok (.iconst 1, 1) := by decide +kernel
theorem dL_law_848 : decode cL_law 848 = .ok (.iadd, 1) := by decide +kernel
theorem dL_law_849 : decode cL_law 849 = .ok (.iaload, 1) := by decide +kernel
theorem dL_law_850 : decode cL_law 850 = .ok (.invokevirtual 139, 3) := by decide +kernel
theorem dL_law_853 : decode cL_law 853 = .ok (.if_icmp .eq 5, 3) := by decide +kernel
theorem dL_law_856 : decode cL_law 856 = .ok (.iconst 0, 1) := by decide +kernel
theorem dL_law_857 : decode cL_law 857 = .ok (.ireturn, 1) := by decide +kernel
theorem dL_law_858 : decode cL_law 858 = .ok (.iinc 3 4, 3) := by decide +kernel
theorem dL_law_861 : decode cL_law 861 = .ok (.goto (-843), 3) := by decide +kernel
theorem dL_law_864 : decode cL_law 864 = .ok (.iconst 1, 1) := by decide +kernel
theorem dL_law_865 : decode cL_law 865 = .ok (.ireturn, 1) := by decide +kernel
end
section
/-! THE FRAME OF THE WALK: the heap as one table of numbers (Mem: cell, place), the cells laid by kind at addresses that are apart; contracts over it; one row an instruction. -/
abbrev GG : Type := Nat × (Nat → Nat) × va_G × ClassId × ClassId × ClassId
def ga (g : GG) (k : Nat) : Nat := g.2.1 k
abbrev gD (g : GG) : va_G := g.2.2.1
abbrev gT (g : GG) : List (ClassId × FieldType) := [(g.2.2.2.1, .int), (g.2.2.2.2.1, .boolean), (g.2.2.2.2.2, .object RX5)]
abbrev gA (g : GG) : Nat → Prop := fun q => g.1 ≤ q
abbrev Mem : Type := Nat → Nat → Int32
def st (I : Mem) (k j : Nat) (v : Int32) : Mem := fun a => if a = k then upd (I k) j v else I a
def cellOf (g : GG) (τ k : Nat) (f : Nat → Int32) : va_E := match τ with
  | 0 => .inr (0, [.ref (ga g (k+1)), .int (f 1), .int (f 2)])
  | 1 => .inr (1, [.int (f 0), .int (f 1), .int (f 2), .int (f 3), .ref (ga g (k+1))])
  | 2 => .inr (2, [.ref (ga g (k+1)), .int (f 1)])
  | 3 => .inr (3, [.ref (ga g (k+1)), .int (f 1), .int (f 2), .int (f 3)])
  | 4 => .inr (4, [.int (f 0), .int (f 1), .int (f 2), .int (f 3), .int (f 4), .int (f 5), .ref (ga g (k+1)), .ref (ga g (k+2)), .ref (ga g (k+3)), .int (f 9), .int (f 10), .int (f 11)])
  | 5 => .inr (5, [.ref (ga g (k+1)), .ref (ga g (k+3)), .ref (ga g (k+7)), .ref (ga g (k+11)), .ref (ga g (k+69)), .ref (ga g (k+74)), .ref (ga g (k+79))])
  | 6 => .inr (6, [.ref (ga g (k+1)), .int (f 1), .int (f 2), .ref (ga g (k+2)), .ref (ga g (k+3)), .ref (ga g (k+4)), .ref (ga g (k+5)), .int (f 7), .int (f 8), .ref (ga g (k+6)), .ref (ga g (k+7)), .ref (ga g (k+8)), .int (f 12), .int (f 13), .int (f 14), .int (f 15), .int (f 16)])
  | 7 => .inr (7, [])
  | 8 => .inl (g.2.2.2.2.1, 2, .inl f)
  | 9 => .inl (g.2.2.2.2.2, 14, .inr (.inr (.inr (.inr (fun j => some (ga g (k+1+4*j)))))))
  | n+10 => .inl (g.2.2.2.1, n, .inl f)
def blkP : List Nat := [5, 3, 90, 4, 18, 18, 18, 4, 18, 18, 18, 0, 9] ++ (List.replicate 14 [4, 18, 18, 18]).flatten ++ [2, 4, 18, 18, 18, 2, 4, 18, 18, 18, 1, 1011]
def blkM : List Nat := [6, 90, 43, 43, 43, 472, 76, 8, 1011]
def tags : List Nat := blkP ++ blkM
abbrev NT : Nat := 90
def tag (k : Nat) : Nat := tags.getD k 7
theorem tag_lt {k τ : Nat} (h : tag k = τ) (h7 : τ ≠ 7) : k < NT := by
  rcases Nat.lt_or_ge k NT with q | q
  · exact q
  · refine absurd ?_ h7
    rw [← h, tag, List.getD_eq_getElem?_getD, List.getElem?_eq_none (Nat.le_trans (show tags.length ≤ NT by decide) q)]
    rfl
def lay (g : GG) (I : Mem) (k : Nat) : va_E := cellOf g (tag k) k (I k)
def wl (g : GG) (c : Nat → va_E) (n : Nat) : va_W := (List.range n).map fun k => (ga g k, c k)
theorem wl_get {g : GG} {c : Nat → va_E} {n k : Nat} (h : k < n) : (wl g c n)[k]? = some (ga g k, c k) := by
  unfold wl
  rw [List.getElem?_map, List.getElem?_range h]
  rfl
theorem wl_set {g : GG} {c : Nat → va_E} {n k : Nat} (e : va_E) (h : k < n) : (wl g c n).set k (ga g k, e) = wl g (va_up c k e) n := by
  refine List.ext_getElem? fun i => ?_
  rcases Nat.lt_or_ge i n with hi | hi
  · by_cases hk : i = k
    · subst hk
      rw [List.getElem?_set_self (by simp [wl, h]), wl_get h]
      simp [va_up]
    · rw [List.getElem?_set_ne (Ne.symm hk), wl_get hi, wl_get hi]
      simp [va_up, hk]
  · rw [List.getElem?_eq_none (by simp [wl, hi]), List.getElem?_eq_none (by simp [wl, hi])]
theorem wl_congr {g : GG} {c c' : Nat → va_E} {n : Nat} (h : ∀ k, k < n → c k = c' k) : wl g c n = wl g c' n := by
  unfold wl
  exact List.map_congr_left fun k hk => by rw [h k (List.mem_range.mp hk)]
/-- the addresses are apart, and from a place on -/
def Apart (g : GG) (n : Nat) : Prop := (∀ i j, i < n → j < n → ga g i = ga g j → i = j) ∧ ∀ i, i < n → g.1 ≤ ga g i
theorem Apart.D {g : GG} {n : Nat} (h : Apart g n) (c : Nat → va_E) : va_D (gA g) (wl g c n) := by
  have key : ∀ (i : Nat) (p : Nat × va_E), (wl g c n)[i]? = some p → i < n ∧ p = (ga g i, c i) := by
    intro i p hp
    rcases Nat.lt_or_ge i n with hi | hi
    · rw [wl_get hi] at hp
      exact ⟨hi, (Option.some.inj hp).symm⟩
    · rw [List.getElem?_eq_none (by simp [wl, hi])] at hp
      cases hp
  refine ⟨fun i j p q hi hj hpq => ?_, fun k q hk => ?_⟩
  · obtain ⟨h1, rfl⟩ := key i p hi
    obtain ⟨h2, rfl⟩ := key j q hj
    exact h.1 i j h1 h2 hpq
  · obtain ⟨h1, rfl⟩ := key k q hk
    exact h.2 k h1
def Wp (g : GG) (I : Mem) (H : Heap) : Prop := va_P (gD g) vwCl (wl g (lay g I) NT) H
def Wd (g : GG) (I : Mem) (U : State) : Prop := Wp g I U.heap ∧ va_K (gD g) vwCl (gT g) U
/-- how every contract of ours ends: the value that comes back, the numbers behind it -/
def Qg (g : GG) (ov : Option Value) (I0 : Mem) : Array Value → State → Outcome → State → Prop := fun _ st0 oc t => oc = .returned ov ∧ Wd g I0 t ∧ va_F (gA g) st0 t
/-- a contract: from the numbers I, with these arguments, it answers ov and leaves I0 -/
def Mc (l : Launch) (g : GG) (y : MethodName) (bytes : ByteArray) (maxL : Nat) (ret : Option FieldType) (rm : Room) (I : Mem) (av : List Value) (ov : Option Value) (I0 : Mem) : Prop :=
  Met l y (.code y bytes maxL ret :: TB) rm (va_Pc av (Wd g I)) (Qg g ov I0) 0 0 (gA g)
theorem wd_blind {g : GG} {I : Mem} {av : List Value} : FrameBlind (va_Pc av (Wd g I)) := by
  intro a U f mk q
  obtain ⟨e, hP, hK⟩ := q
  exact ⟨e, hP, va_K.moved (u := U) (U := U.calling f mk a) (Vm.Alike.refl U.vm) hK⟩
/-- what stays the same through a body -/
def Cx (g : GG) (p : Program) (s : State) (m : MethodId) (args : Array Value) (c : Code) (cc : ByteArray) (own : String) (nL : Nat) : Prop :=
  CallFix p m c cc nL s args TB own ∧ va_K (gD g) vwCl (gT g) s ∧ Apart g NT
section FRAMEROWS
variable {p : Program} {l : Launch} {e : Env} {R : Room} {s : State} {m : MethodId} {args : Array Value} {below : List Frame} {meth : Method} {c : Code} {H : Heap} {locs : List Loc} {cells slots : Nat} {Q : State → Prop} {g : GG} {cc : ByteArray} {own : String} {nL pc : Nat} {ls : Array Slot} {rest : List Value} {I : Mem}
theorem Cx.hx (X : Cx g p s m args c cc own nL) : p.tables.exec = Jvm.exec := X.1.1
theorem Cx.hb (X : Cx g p s m args c cc own nL) : c.code = cc := X.1.2.1
theorem Cx.ow (X : Cx g p s m args c cc own nL) : s.vm.findClass own = some m.cls := X.1.2.2.2.1
theorem Cx.hts (X : Cx g p s m args c cc own nL) : ∀ w ∈ TB, w.before args s = true := X.1.2.2.2.2
theorem Cx.hK (X : Cx g p s m args c cc own nL) : va_K (gD g) vwCl (gT g) s := X.2.1
/-- a body's walk gives the contract, also of a class of the JDK whose method no native stands for -/
theorem met_of {y : MethodName} {ws ws' : List Cond} {rm : Room} {Pc : Array Value → State → Prop} {Qc : Array Value → State → Outcome → State → Prop} {mc ms : Nat} {free : Addr → Prop} {cc : ByteArray} {maxL : Nat} {ret : Option FieldType}
    (hy : plainFor y = true) (hw : ws = Cond.code y cc maxL ret :: ws')
    (body : ∀ p e s m args below meth c s₁, BodyLoose p l y (headSpec ws rm) cc maxL ret e s m args below meth c s₁ → c.maxLocals = maxL → Pc args s →
      W p l e rm s m args below meth c s.heap [] 0 0 (MQ below Qc args s mc ms free) (entryFrame m args maxL)) : Met l y ws rm Pc Qc mc ms free := by
  refine MetFree.of_bodySF (code := cc) (maxLocals := maxL) (ret := ret) hy ?_ ?_
  · intro args s m h hn
    obtain ⟨meth, c, h1, h2, h3, h4, h5, h6, -, -⟩ := Cond.code_spec hn (atoms_spec (ws := ws) h _ (by rw [hw]; exact List.mem_cons_self))
    exact ⟨meth, c, h1, h2, h3, h4, h5, h6⟩
  · intro p e s m args below meth c s₁ B hml hP _
    have hh0 : s₁.heap = s.heap := by rw [B.state]; rfl
    obtain ⟨t, a1, o, b1, b2, b3, b4⟩ := body p e s m args below meth c s₁ B hml hP s₁ hh0 (Stand.of_body B)
    exact ⟨t, o, a1, b1, b2, b3, b4⟩
/-- a body's walk gives the contract -/
theorem Mc.of {y : MethodName} {bytes : ByteArray} {maxL : Nat} {ret : Option FieldType} {rm : Room} {av : List Value} {ov : Option Value} {I0 : Mem} (hG : Apart g NT) (hy : plainFor y = true) (hav : (lg_sl av).length ≤ maxL)
    (body : ∀ (p : Program) (e : Env) (s : State) (m : MethodId) (args : Array Value) (below : List Frame) (meth : Method) (c : Code) (ls : Array Slot), Cx g p s m args c bytes y.cls maxL → meth.sig.returnType = ret → meth.locks = false → Wp g I s.heap → va_S (gA g) s.heap s.heap [] → lv_has ls maxL (lv_args 0 av) →
      W p l e rm s m args below meth c s.heap [] 0 0 (MQ below (Qg g ov I0) args s 0 0 (gA g)) (F0 m 0 ls [])) : Mc l g y bytes maxL ret rm I av ov I0 := by
  refine met_of (cc := bytes) (maxL := maxL) (ret := ret) hy rfl ?_
  intro p e s m args below meth c s₁ B hml hv
  obtain ⟨rfl, hP, hK⟩ := hv
  have hts := atoms_spec (ws := .code y bytes maxL ret :: TB) B.pre
  have hl := lv_entry av (n := maxL) hav
  rw [lg_entry_eq]
  exact body p e s m _ below meth c _ ⟨⟨B.exec, B.bytes, hml, findClass_of_methodNamed B.named, fun w hw => hts w (List.mem_cons_of_mem _ hw)⟩, hK, hG⟩ B.returns B.notSynchronized hP va_S.rf hl
/-! the ends -/
theorem r_iret {v r0 : Int32} {I0 : Mem} (X : Cx g p s m args c cc own nL) (hr : meth.sig.returnType = some .int) (hlk : meth.locks = false) (hP : Wp g I H) (hS : va_S (gA g) s.heap H locs) (hd : decode cc pc = .ok (.ireturn, 1)) (h : some (v, I) = some (r0, I0)) :
    W p l e R s m args below meth c H locs 0 0 (MQ below (Qg g (some (.int r0)) I0) args s 0 0 (gA g)) (F0 m pc ls [.int v]) := by
  cases h
  exact W.iret (v := v) X.hx X.hb hr (fun t ht hW => ⟨rfl, ⟨by rw [Wp, ht]; exact hP, va_K.moved hW.alike X.hK⟩, hS.F ht⟩) hS.2.2 hd hlk
theorem r_zret {v r0 : Int32} {I0 : Mem} (X : Cx g p s m args c cc own nL) (hr : meth.sig.returnType = some .boolean) (hlk : meth.locks = false) (hP : Wp g I H) (hS : va_S (gA g) s.heap H locs) (hn : narrow .boolean (.int v) = .int v) (hd : decode cc pc = .ok (.ireturn, 1)) (h : some (v, I) = some (r0, I0)) :
    W p l e R s m args below meth c H locs 0 0 (MQ below (Qg g (some (.int r0)) I0) args s 0 0 (gA g)) (F0 m pc ls [.int v]) := by
  cases h
  exact W.zret (v := v) X.hx X.hb hr hn (fun t ht hW => ⟨rfl, ⟨by rw [Wp, ht]; exact hP, va_K.moved hW.alike X.hK⟩, hS.F ht⟩) hS.2.2 hd hlk
theorem r_lret {v r0 : Int64} {I0 : Mem} (X : Cx g p s m args c cc own nL) (hr : meth.sig.returnType = some .long) (hlk : meth.locks = false) (hP : Wp g I H) (hS : va_S (gA g) s.heap H locs) (hd : decode cc pc = .ok (.lreturn, 1)) (h : some (v, I) = some (r0, I0)) :
    W p l e R s m args below meth c H locs 0 0 (MQ below (Qg g (some (.long r0)) I0) args s 0 0 (gA g)) (F0 m pc ls [.long v]) := by
  cases h
  exact W.lret (v := v) X.hx X.hb hr (fun t ht hW => ⟨rfl, ⟨by rw [Wp, ht]; exact hP, va_K.moved hW.alike X.hK⟩, hS.F ht⟩) hS.2.2 hd hlk
theorem r_vret {I0 : Mem} (X : Cx g p s m args c cc own nL) (hr : meth.sig.returnType = none) (hlk : meth.locks = false) (hP : Wp g I H) (hS : va_S (gA g) s.heap H locs) (hd : decode cc pc = .ok (.return_, 1)) (h : some I = some I0) :
    W p l e R s m args below meth c H locs 0 0 (MQ below (Qg g none I0) args s 0 0 (gA g)) (F0 m pc ls []) := by
  cases h
  exact W.vret X.hx X.hb hr (fun t ht hW => ⟨rfl, ⟨by rw [Wp, ht]; exact hP, va_K.moved hW.alike X.hK⟩, hS.F ht⟩) hS.2.2 hd hlk
theorem r_aret {k k0 : Nat} {nm : String} {I0 : Mem} (X : Cx g p s m args c cc own nL) (hr : meth.sig.returnType = some (.object nm)) (hlk : meth.locks = false) (hP : Wp g I H) (hS : va_S (gA g) s.heap H locs) (hd : decode cc pc = .ok (.areturn, 1)) (h : some (k, I) = some (k0, I0)) :
    W p l e R s m args below meth c H locs 0 0 (MQ below (Qg g (some (.ref (ga g k0))) I0) args s 0 0 (gA g)) (F0 m pc ls [.ref (ga g k)]) := by
  cases h
  exact W.aret (v := .ref (ga g k)) X.hx X.hb hr (Or.inl ⟨_, rfl⟩) (Or.inr ⟨_, rfl⟩) (fun t ht hW => ⟨rfl, ⟨by rw [Wp, ht]; exact hP, va_K.moved hW.alike X.hK⟩, hS.F ht⟩) hS.2.2 hd hlk
/-! fields -/
theorem r_get {k ci j index N : Nat} {C : String} {T : u_T} {fs : List Value} {v : Value} (X : Cx g p s m args c cc own nL) (hP : Wp g I H) (hk : k < NT) (hL : lay g I k = .inr (ci, fs)) (hc : vwCl[ci]? = some (C, T, N)) (hin : ∀ w ∈ u_ws C T N, w ∈ TB) (hj : j < N) (hlink : Cond.fieldLink own index (T j).1 (T j).2.1 (T j).2.2.1 ∈ TB) (hv : fs[j]? = some v) (hd : decode cc pc = .ok (.getfield index, 3))
    (kk : W p l e R s m args below meth c H locs cells slots Q (F0 m (pc + 3) ls (v :: rest))) : W p l e R s m args below meth c H locs cells slots Q (F0 m pc ls (.ref (ga g k) :: rest)) :=
  va_get (D := gD g) (ci := ci) (v := v) (C := C) (T := T) (N := N) X.hx X.hb X.hts hin X.ow X.hK hP k (by rw [wl_get hk, hL]) hc j hj (X.hts _ hlink) (fun _ h9 => h9) hv hd kk
theorem r_put {k ci j index N : Nat} {C : String} {T : u_T} {fs : List Value} {ty : FieldType} {v : Value} (X : Cx g p s m args c cc own nL) (hP : Wp g I H) (hS : va_S (gA g) s.heap H locs) (hk : k < NT) (hL : lay g I k = .inr (ci, fs)) (hc : vwCl[ci]? = some (C, T, N)) (hin : ∀ w ∈ u_ws C T N, w ∈ TB) (ty0 : Nat → FieldType) (hty : ∀ k, k < N → parseFieldDescriptor (T k).2.2.1 = some (ty0 k)) (hnm : ∀ a, a < N → ∀ b, b < N → a ≠ b → (T a).2.1 ≠ (T b).2.1) (hj : j < N) (hlink : Cond.fieldLink own index (T j).1 (T j).2.1 (T j).2.2.1 ∈ TB) (hfin : (T j).2.2.2 = false) (hty1 : parseFieldDescriptor (T j).2.2.1 = some ty) (hn : narrow ty v = v) (hfit : fits ty v = true) (hlen : j < fs.length) (hd : decode cc pc = .ok (.putfield index, 3))
    (kk : ∀ (H1 : Heap) (locs1 : List Loc), va_P (gD g) vwCl (wl g (va_up (lay g I) k (.inr (ci, fs.set j v))) NT) H1 → va_S (gA g) s.heap H1 locs1 → W p l e R s m args below meth c H1 locs1 cells slots Q (F0 m (pc + 3) ls rest)) : W p l e R s m args below meth c H locs cells slots Q (F0 m pc ls (v :: .ref (ga g k) :: rest)) :=
  va_put (D := gD g) (ci := ci) (v := v) (ty := ty) (C := C) (T := T) (N := N) X.hx X.hb X.hts hin ty0 hty hnm X.ow X.hK hP (X.2.2.D _) hS k (by rw [wl_get hk, hL]) hc j hj (X.hts _ hlink) (fun _ h9 => h9) hfin hty1 hn hfit hlen hd (fun H1 locs1 hP1 _ hS1 => kk H1 locs1 (by rw [wl_set _ hk] at hP1; exact hP1) hS1)
theorem lay_put {k j : Nat} {v : Int32} {x : va_E} (h : cellOf g (tag k) k (upd (I k) j v) = x) : va_up (lay g I) k x = lay g (st I k j v) := by
  funext a
  by_cases ha : a = k
  · subst ha
    simp [va_up, lay, st, h]
  · simp [va_up, lay, st, ha]
/-! arrays of numbers -/
theorem lay_arr {k n : Nat} (hk : tag k = n + 10) : lay g I k = .inl (g.2.2.2.1, n, .inl (I k)) := by
  rw [lay, hk]; rfl
theorem lay_bool {k : Nat} (hk : tag k = 8) : lay g I k = .inl (g.2.2.2.2.1, 2, .inl (I k)) := by
  rw [lay, hk]; rfl
theorem r_iald {k n : Nat} {i : Int32} (X : Cx g p s m args c cc own nL) (hP : Wp g I H) (hk : tag k = n + 10) (hi : ¬ (i < 0 ∨ n ≤ i.toNatClampNeg)) {j : Nat} (hj : i.toNatClampNeg = j) (hd : decode cc pc = .ok (.iaload, 1))
    (kk : W p l e R s m args below meth c H locs cells slots Q (F0 m (pc + 1) ls (.int (I k j) :: rest))) : W p l e R s m args below meth c H locs cells slots Q (F0 m pc ls (.int i :: .ref (ga g k) :: rest)) := by
  subst hj
  exact va_iald (D := gD g) (ws := wl g (lay g I) NT) X.hx X.hb X.hK hP k 0 (by rw [wl_get (tag_lt hk (by omega)), lay_arr hk]) rfl hi hd kk
theorem r_iast {k n : Nat} {i x : Int32} (X : Cx g p s m args c cc own nL) (hP : Wp g I H) (hS : va_S (gA g) s.heap H locs) (hk : tag k = n + 10) (hi : ¬ (i < 0 ∨ n ≤ i.toNatClampNeg)) {j : Nat} {I1 : Mem} (hj : i.toNatClampNeg = j) (hI : I1 = st I k j x) (hd : decode cc pc = .ok (.iastore, 1))
    (kk : ∀ (H1 : Heap) (locs1 : List Loc), Wp g I1 H1 → va_S (gA g) s.heap H1 locs1 → W p l e R s m args below meth c H1 locs1 cells slots Q (F0 m (pc + 1) ls rest)) : W p l e R s m args below meth c H locs cells slots Q (F0 m pc ls (.int x :: .int i :: .ref (ga g k) :: rest)) := by
  subst hj
  subst hI
  have hkn := tag_lt hk (by omega)
  refine va_iast (D := gD g) (ws := wl g (lay g I) NT) X.hx X.hb X.hK hP (X.2.2.D _) hS k 0 (by rw [wl_get hkn, lay_arr hk]) rfl hi hd (fun H1 locs1 hP1 _ hS1 => kk H1 locs1 ?_ hS1)
  rw [wl_set _ hkn, lay_put (by rw [hk]; rfl)] at hP1
  exact hP1
theorem r_alen {k n : Nat} {v : Int32} (X : Cx g p s m args c cc own nL) (hP : Wp g I H) (hk : tag k = n + 10) (hv : Int32.ofNat n = v) (hd : decode cc pc = .ok (.arraylength, 1))
    (kk : W p l e R s m args below meth c H locs cells slots Q (F0 m (pc + 1) ls (.int v :: rest))) : W p l e R s m args below meth c H locs cells slots Q (F0 m pc ls (.ref (ga g k) :: rest)) :=
  va_alen (D := gD g) (ws := wl g (lay g I) NT) (x := (n, .inl (I k))) (ty := .int) X.hx X.hb X.hK hP k 0 (by rw [wl_get (tag_lt hk (by omega)), lay_arr hk]) rfl hv hd kk
theorem r_bald {k : Nat} {i : Int32} (X : Cx g p s m args c cc own nL) (hP : Wp g I H) (hk : tag k = 8) (hi : ¬ (i < 0 ∨ 2 ≤ i.toNatClampNeg)) {j : Nat} (hj : i.toNatClampNeg = j) (hd : decode cc pc = .ok (.baload, 1))
    (kk : W p l e R s m args below meth c H locs cells slots Q (F0 m (pc + 1) ls (.int (I k j) :: rest))) : W p l e R s m args below meth c H locs cells slots Q (F0 m pc ls (.int i :: .ref (ga g k) :: rest)) := by
  subst hj
  exact va_zald (D := gD g) (ws := wl g (lay g I) NT) X.hx X.hb X.hK hP k 1 (by rw [wl_get (tag_lt hk (by omega)), lay_bool hk]) rfl hi hd kk
theorem r_bast {k : Nat} {i x : Int32} (X : Cx g p s m args c cc own nL) (hP : Wp g I H) (hS : va_S (gA g) s.heap H locs) (hk : tag k = 8) (hi : ¬ (i < 0 ∨ 2 ≤ i.toNatClampNeg)) (hn : vp_nar .boolean x = x) {j : Nat} {I1 : Mem} (hj : i.toNatClampNeg = j) (hI : I1 = st I k j x) (hd : decode cc pc = .ok (.bastore, 1))
    (kk : ∀ (H1 : Heap) (locs1 : List Loc), Wp g I1 H1 → va_S (gA g) s.heap H1 locs1 → W p l e R s m args below meth c H1 locs1 cells slots Q (F0 m (pc + 1) ls rest)) : W p l e R s m args below meth c H locs cells slots Q (F0 m pc ls (.int x :: .int i :: .ref (ga g k) :: rest)) := by
  subst hj
  subst hI
  have hkn := tag_lt hk (by omega)
  refine va_zast (D := gD g) (ws := wl g (lay g I) NT) X.hx X.hb X.hK hP (X.2.2.D _) hS k 1 (by rw [wl_get hkn, lay_bool hk]) rfl hi hd (fun H1 locs1 hP1 _ hS1 => kk H1 locs1 ?_ hS1)
  rw [hn, wl_set _ hkn, lay_put (by rw [hk]; rfl)] at hP1
  exact hP1
theorem r_aald {k : Nat} {i : Int32} (X : Cx g p s m args c cc own nL) (hP : Wp g I H) (hk : tag k = 9) (hi : ¬ (i < 0 ∨ 14 ≤ i.toNatClampNeg)) (hd : decode cc pc = .ok (.aaload, 1))
    (kk : W p l e R s m args below meth c H locs cells slots Q (F0 m (pc + 1) ls (.ref (ga g (k + 1 + 4 * i.toNatClampNeg)) :: rest))) : W p l e R s m args below meth c H locs cells slots Q (F0 m pc ls (.int i :: .ref (ga g k) :: rest)) :=
  va_aldq (D := gD g) (ws := wl g (lay g I) NT) (f := fun j => some (ga g (k+1+4*j))) X.hx X.hb X.hK hP k 2 (by rw [wl_get (tag_lt hk (by omega)), lay, hk]; rfl) rfl hi hd kk
/-! calls -/
/-- what the tables say of a method that is called: its code, that it is ready -/
def Cal (y : MethodName) (bytes : ByteArray) (maxL : Nat) (ret : Option FieldType) (n : Nat) : Prop :=
  Cond.code y bytes maxL ret ∈ TB ∧ Cond.initialized y.cls ∈ TB ∧ (y.cls ≠ "java/lang/invoke/MethodHandle" ∧ y.cls ≠ "java/lang/invoke/VarHandle" ∧ (parseMethodDescriptor y.desc).map (fun d => d.parameters.length) = some n)
theorem cal_good {y : MethodName} {bytes : ByteArray} {maxL : Nat} {ret : Option FieldType} {n : Nat} (h : Cal y bytes maxL ret n) : GoodIn TB (.code y bytes maxL ret :: TB) := by
  intro w hw
  have hm : w ∈ TB := by
    rcases List.mem_cons.mp hw with q | q
    · rw [q]; exact h.1
    · exact q
  exact ⟨hm, tb_good w hm⟩
theorem call_go {A1 : Array Value} {ov : Option Value} {I1 : Mem} {st0 : List Value} (hr : va_Run p l e R s m args below meth c H locs cells slots 0 0 (F0 m pc ls st0) rest (Qg g ov I1 A1) (gA g)) (hS : va_S (gA g) s.heap H locs)
    (kk : ∀ (H1 : Heap) (locs1 : List Loc), Wp g I1 H1 → va_S (gA g) s.heap H1 locs1 → W p l e R s m args below meth c H1 locs1 cells slots Q (F0 m (pc + 3) ls (ov.toList ++ rest))) : W p l e R s m args below meth c H locs cells slots Q (F0 m pc ls st0) := by
  intro T hT X
  obtain ⟨v, st₀, t, T', L, h0, X', hL, e1, e2, ⟨hv, ⟨hp, -⟩, hz, hk⟩, stp⟩ := hr T hT X
  cases hv
  rw [h0] at hz hk
  obtain ⟨t2, a1, b1⟩ := kk T'.heap (locs ++ L) (by rw [e1]; exact hp)
    ⟨Nat.le_trans hS.1 (by rw [e1]; exact hz), fun q h1 h2 => by rw [e1, hk q (Nat.lt_of_lt_of_le h1 hS.1) h2]; exact hS.2.1 q h1 h2, fun q hq => by
      rcases List.mem_append.mp hq with h | h
      · exact hS.2.2 q h
      · exact hL q h⟩ T' rfl X'
  exact ⟨t2, stp t2 a1, b1⟩
theorem r_callS {y : MethodName} {bytes : ByteArray} {maxL n index : Nat} {ret : Option FieldType} {rm : Room} {As : List Value} {ov : Option Value} {I1 : Mem} {st0 : List Value} (rest : List Value) (X : Cx g p s m args c cc own nL) (hM : Mc l g y bytes maxL ret rm I As ov I1) (hy : Cal y bytes maxL ret n) (hst : Cond.static y ∈ TB) (hlink : Cond.methodLink own index y ∈ TB) (hn : As.length = n) (hz : rm.cells = 0 ∧ rm.slots = 0) (hR : rm.frames + 1 ≤ R.frames ∧ 8 + (maxL + 11) + rm.locals ≤ R.locals) (hP : Wp g I H) (hS : va_S (gA g) s.heap H locs) (hl : ls.size = nL) (hs0 : st0 = As.reverse ++ rest) (hw : (rest.map fun v => v.category).sum ≤ 8) (hd : decode cc pc = .ok (.invokestatic index, 3)) (hf : cells ≤ R.cells ∧ slots ≤ R.slots)
    (kk : ∀ (H1 : Heap) (locs1 : List Loc), Wp g I1 H1 → va_S (gA g) s.heap H1 locs1 → W p l e R s m args below meth c H1 locs1 cells slots Q (F0 m (pc + 3) ls (ov.toList ++ rest))) : W p l e R s m args below meth c H locs cells slots Q (F0 m pc ls st0) :=
  call_go (va_runS (As := As) (rest := rest) X.1 hM ⟨callB_of n X.hts (cal_good hy) rfl hz.1 hz.2 (X.hts _ hy.2.1) (X.hts _ hlink) hy.2.2 hR, X.hts _ hst⟩ ⟨wd_blind, fun U hU hW => ⟨rfl, by rw [Wp, hU]; exact hP, va_K.moved hW.alike X.hK⟩⟩ rfl hn hl hs0 (lv_room hw) hd hf) hS kk
theorem r_callV {y : MethodName} {bytes : ByteArray} {maxL n index k ci : Nat} {ret : Option FieldType} {rm : Room} {As : List Value} {ov : Option Value} {I1 : Mem} {st0 : List Value} {q : vw_C} {fs : List Value} (rest : List Value) (X : Cx g p s m args c cc own nL) (hM : Mc l g y bytes maxL ret rm I (.ref (ga g k) :: As) ov I1) (hy : Cal y bytes maxL ret n) (hst : Cond.instanceMethod y ∈ TB) (hse : Cond.selects q.1 y y ∈ TB) (hlink : Cond.methodLink own index y ∈ TB) (hk : k < NT) (hL : lay g I k = .inr (ci, fs)) (hc : vwCl[ci]? = some q) (hn : As.length = n) (hz : rm.cells = 0 ∧ rm.slots = 0) (hR : rm.frames + 1 ≤ R.frames ∧ 8 + (maxL + 11) + rm.locals ≤ R.locals) (hP : Wp g I H) (hS : va_S (gA g) s.heap H locs) (hl : ls.size = nL) (hs0 : st0 = As.reverse ++ .ref (ga g k) :: rest) (hw : (rest.map fun v => v.category).sum ≤ 8) (hd : decode cc pc = .ok (.invokevirtual index, 3)) (hf : cells ≤ R.cells ∧ slots ≤ R.slots)
    (kk : ∀ (H1 : Heap) (locs1 : List Loc), Wp g I1 H1 → va_S (gA g) s.heap H1 locs1 → W p l e R s m args below meth c H1 locs1 cells slots Q (F0 m (pc + 3) ls (ov.toList ++ rest))) : W p l e R s m args below meth c H locs cells slots Q (F0 m pc ls st0) :=
  call_go (va_runV (As := As) (rest := rest) (C := q.1) X.1 hM ⟨callB_of n X.hts (cal_good hy) rfl hz.1 hz.2 (X.hts _ hy.2.1) (X.hts _ hlink) hy.2.2 hR, X.hts _ hst, X.hts _ hse⟩ ⟨wd_blind, va_recv X.hK hP hc (q0 := k) (by rw [wl_get hk, hL]), fun U hU hW => ⟨rfl, by rw [Wp, hU]; exact hP, va_K.moved hW.alike X.hK⟩⟩ rfl hn hl hs0 (lv_room hw) hd hf) hS kk
/-! names on the stack -/
theorem r_nmi {x y : Int32} (hx : y = x) (k : W p l e R s m args below meth c H locs cells slots Q (F0 m pc ls (.int y :: rest))) : W p l e R s m args below meth c H locs cells slots Q (F0 m pc ls (.int x :: rest)) := hx ▸ k
theorem r_nml {x y : Int64} (hx : y = x) (k : W p l e R s m args below meth c H locs cells slots Q (F0 m pc ls (.long y :: rest))) : W p l e R s m args below meth c H locs cells slots Q (F0 m pc ls (.long x :: rest)) := hx ▸ k
end FRAMEROWS
/-! THE METHODS AS FUNCTIONS: what a program prints out of the bytecode is put together from these -/
def letM {α β : Type} (x : α) (f : α → Option β) : Option β := f x
theorem letM_e {α β : Type} {x : α} {f : α → Option β} {z : β} (h : letM x f = some z) : ∃ y, y = x ∧ f y = some z := ⟨x, rfl, h⟩
theorem gd_e {c : Prop} [Decidable c] {β : Type} {x : Option β} {z : β} (h : (if c then none else x) = some z) : ¬ c ∧ x = some z := by
  by_cases hc : c
  · rw [if_pos hc] at h; cases h
  · rw [if_neg hc] at h; exact ⟨hc, h⟩
def clM {α β : Type} (x : Option α) (f : α → Option β) : Option β := match x with
  | none => none
  | some a => f a
theorem clM_e {α β : Type} {x : Option α} {f : α → Option β} {z : β} (h : clM x f = some z) : ∃ a, x = some a ∧ f a = some z := by
  cases x with
  | none => cases h
  | some a => exact ⟨a, rfl, h⟩
theorem ifp {c : Prop} [Decidable c] {α : Sort _} {a b z : α} (hc : c) (h : (if c then a else b) = z) : a = z := by rw [if_pos hc] at h; exact h
theorem ifn {c : Prop} [Decidable c] {α : Sort _} {a b z : α} (hc : ¬ c) (h : (if c then a else b) = z) : b = z := by rw [if_neg hc] at h; exact h
/-- a call: what it answers and the numbers behind it -/
def clP {α β : Type} (x : Option (α × Mem)) (f : α → Mem → Option β) : Option β := match x with
  | none => none
  | some (a, I) => f a I
theorem clP_e {α β : Type} {x : Option (α × Mem)} {f : α → Mem → Option β} {z : β} (h : clP x f = some z) : ∃ a I, x = some (a, I) ∧ f a I = some z := by
  cases x with
  | none => cases h
  | some q => exact ⟨q.1, q.2, rfl, h⟩
theorem bool_nar {v : Int32} (h : ¬ ¬ (v = 0 ∨ v = 1)) : narrow .boolean (.int v) = .int v := by
  rcases Classical.not_not.mp h with rfl | rfl <;> rfl
theorem bool_nar' {v : Int32} (h : ¬ ¬ (v = 0 ∨ v = 1)) : vp_nar .boolean v = v := by
  rcases Classical.not_not.mp h with rfl | rfl <;> rfl
/-- a table's cases are all -/
theorem tsw_out {x : Int32} (lo n : Nat) (h : ∀ j, j < n → ¬ x = nI (lo + j)) (hn : lo + n < 2 ^ 31) : x.toInt < (lo : Int) ∨ (lo : Int) + n - 1 < x.toInt := by
  rcases Int.lt_or_le x.toInt lo with h1 | h1
  · exact Or.inl h1
  · refine Or.inr ?_
    rcases Int.lt_or_le ((lo : Int) + n - 1) x.toInt with h2 | h2
    · exact h2
    · exfalso
      refine h (x.toInt.toNat - lo) (by omega) ?_
      refine Int32.toInt_inj.mp ?_
      rw [nI_toInt (by omega)]
      omega
section CALLS
variable {p : Program} {l : Launch} {e : Env} {R : Room} {s : State} {m : MethodId} {args : Array Value} {below : List Frame} {meth : Method} {c : Code} {H : Heap} {locs : List Loc} {cells slots : Nat} {Q : State → Prop} {g : GG} {cc : ByteArray} {own : String} {nL pc : Nat} {ls : Array Slot} {I : Mem}
/-- a tag behind a reference -/
theorem tgA (τ d τ' : Nat) (h : (List.range NT).all (fun k => !(tag k == τ) || tag (k+d) == τ') = true) (h7 : τ ≠ 7) {k : Nat} (hk : tag k = τ) : tag (k+d) = τ' := by
  have := List.all_eq_true.mp h k (List.mem_range.mpr (tag_lt hk h7))
  simpa [hk] using this
theorem tg_ring {k j : Nat} (hk : tag k = 9) (hj : j < 14) : tag (k + 1 + 4 * j) = 4 := by
  have h : (List.range NT).all (fun k => !(tag k == 9) || (List.range 14).all (fun j => tag (k + 1 + 4 * j) == 4)) = true := by decide +kernel
  have h1 := List.all_eq_true.mp h k (List.mem_range.mpr (tag_lt hk (by decide)))
  simp only [hk, beq_self_eq_true, Bool.not_true, Bool.false_or] at h1
  exact eq_of_beq (List.all_eq_true.mp h1 j (List.mem_range.mpr hj))
end CALLS
end
section
theorem k_24 : Cond.fieldLink RX4 9 "StepperPlanner$SetupText" "characters" "[I" ∈ TB := tb_at 24 (by decide +kernel) (by decide +kernel)
theorem k_25 : Cond.fieldLink RX4 15 "StepperPlanner$SetupText" "length" "I" ∈ TB := tb_at 25 (by decide +kernel) (by decide +kernel)
theorem k_26 : Cond.fieldLink RX6 54 "StepperPlanner$SetupText" "length" "I" ∈ TB := tb_at 26 (by decide +kernel) (by decide +kernel)
theorem k_27 : Cond.fieldLink RX4 19 "StepperPlanner$SetupText" "at" "I" ∈ TB := tb_at 27 (by decide +kernel) (by decide +kernel)
theorem k_28 : Cond.fieldLink RX4 22 "StepperPlanner$SetupText" "fault" "I" ∈ TB := tb_at 28 (by decide +kernel) (by decide +kernel)
theorem k_45 : Cond.fieldLink RX5 9 "StepperPlanner$State" "acceleration" "I" ∈ TB := tb_at 45 (by decide +kernel) (by decide +kernel)
theorem k_46 : Cond.fieldLink RX4 38 "StepperPlanner$State" "acceleration" "I" ∈ TB := tb_at 46 (by decide +kernel) (by decide +kernel)
theorem k_47 : Cond.fieldLink RX6 129 "StepperPlanner$State" "acceleration" "I" ∈ TB := tb_at 47 (by decide +kernel) (by decide +kernel)
theorem k_48 : Cond.fieldLink RX5 15 "StepperPlanner$State" "speedLimit" "I" ∈ TB := tb_at 48 (by decide +kernel) (by decide +kernel)
theorem k_49 : Cond.fieldLink RX4 41 "StepperPlanner$State" "speedLimit" "I" ∈ TB := tb_at 49 (by decide +kernel) (by decide +kernel)
theorem k_50 : Cond.fieldLink RX6 132 "StepperPlanner$State" "speedLimit" "I" ∈ TB := tb_at 50 (by decide +kernel) (by decide +kernel)
theorem k_51 : Cond.fieldLink RX5 28 "StepperPlanner$State" "x" "I" ∈ TB := tb_at 51 (by decide +kernel) (by decide +kernel)
theorem k_52 : Cond.fieldLink RX6 205 "StepperPlanner$State" "x" "I" ∈ TB := tb_at 52 (by decide +kernel) (by decide +kernel)
theorem k_53 : Cond.fieldLink RX5 31 "StepperPlanner$State" "y" "I" ∈ TB := tb_at 53 (by decide +kernel) (by decide +kernel)
theorem k_54 : Cond.fieldLink RX5 34 "StepperPlanner$State" "ticks" "I" ∈ TB := tb_at 54 (by decide +kernel) (by decide +kernel)
theorem k_55 : Cond.fieldLink RX6 83 "StepperPlanner$State" "ticks" "I" ∈ TB := tb_at 55 (by decide +kernel) (by decide +kernel)
theorem k_56 : Cond.fieldLink RX5 37 "StepperPlanner$State" "count" "I" ∈ TB := tb_at 56 (by decide +kernel) (by decide +kernel)
theorem k_57 : Cond.fieldLink RX6 73 "StepperPlanner$State" "count" "I" ∈ TB := tb_at 57 (by decide +kernel) (by decide +kernel)
theorem k_58 : Cond.fieldLink RX5 18 "StepperPlanner$State" "distancesX" "[I" ∈ TB := tb_at 58 (by decide +kernel) (by decide +kernel)
theorem k_59 : Cond.fieldLink RX5 22 "StepperPlanner$State" "distancesY" "[I" ∈ TB := tb_at 59 (by decide +kernel) (by decide +kernel)
theorem k_60 : Cond.fieldLink RX5 25 "StepperPlanner$State" "waits" "[I" ∈ TB := tb_at 60 (by decide +kernel) (by decide +kernel)
theorem k_61 : Cond.fieldLink RX6 92 "StepperPlanner$State" "waits" "[I" ∈ TB := tb_at 61 (by decide +kernel) (by decide +kernel)
theorem k_62 : Cond.fieldLink RX5 40 "StepperPlanner$State" "made" "I" ∈ TB := tb_at 62 (by decide +kernel) (by decide +kernel)
theorem k_63 : Cond.fieldLink RX5 43 "StepperPlanner$State" "left" "I" ∈ TB := tb_at 63 (by decide +kernel) (by decide +kernel)
theorem k_64 : Cond.fieldLink RX5 46 "StepperPlanner$State" "index" "I" ∈ TB := tb_at 64 (by decide +kernel) (by decide +kernel)
theorem k_65 : Cond.fieldLink RX6 103 "StepperPlanner$State" "index" "I" ∈ TB := tb_at 65 (by decide +kernel) (by decide +kernel)
theorem k_93 : Cond.methodLink RX6 28 yX0_init ∈ TB := tb_at 93 (by decide +kernel) (by decide +kernel)
theorem k_100 : Cond.fieldLink RX0 11 "StepperPlanner$History" "ring" "[LStepperPlanner$State;" ∈ TB := tb_at 100 (by decide +kernel) (by decide +kernel)
theorem k_101 : Cond.fieldLink RX0 24 "StepperPlanner$History" "end" "I" ∈ TB := tb_at 101 (by decide +kernel) (by decide +kernel)
theorem k_102 : Cond.fieldLink RX0 36 "StepperPlanner$History" "count" "I" ∈ TB := tb_at 102 (by decide +kernel) (by decide +kernel)
theorem k_103 : Cond.fieldLink RX6 163 "StepperPlanner$History" "count" "I" ∈ TB := tb_at 103 (by decide +kernel) (by decide +kernel)
theorem k_119 : Cond.fieldLink RX3 10 "StepperPlanner$SaveSlot" "state" "LStepperPlanner$State;" ∈ TB := tb_at 119 (by decide +kernel) (by decide +kernel)
theorem k_120 : Cond.fieldLink RX6 200 "StepperPlanner$SaveSlot" "state" "LStepperPlanner$State;" ∈ TB := tb_at 120 (by decide +kernel) (by decide +kernel)
theorem k_121 : Cond.fieldLink RX6 69 "StepperPlanner$SaveSlot" "filled" "Z" ∈ TB := tb_at 121 (by decide +kernel) (by decide +kernel)
theorem k_133 : Cond.fieldLink RX2 15 "StepperPlanner$Ramp" "acceleration" "I" ∈ TB := tb_at 133 (by decide +kernel) (by decide +kernel)
theorem k_134 : Cond.fieldLink RX2 19 "StepperPlanner$Ramp" "speedLimit" "I" ∈ TB := tb_at 134 (by decide +kernel) (by decide +kernel)
theorem k_135 : Cond.fieldLink RX2 31 "StepperPlanner$Ramp" "cruise" "I" ∈ TB := tb_at 135 (by decide +kernel) (by decide +kernel)
theorem k_136 : Cond.fieldLink RX2 38 "StepperPlanner$Ramp" "top" "I" ∈ TB := tb_at 136 (by decide +kernel) (by decide +kernel)
theorem k_137 : Cond.fieldLink RX6 110 "StepperPlanner$Ramp" "top" "I" ∈ TB := tb_at 137 (by decide +kernel) (by decide +kernel)
theorem k_138 : Cond.fieldLink RX5 111 "StepperPlanner$Ramp" "top" "I" ∈ TB := tb_at 138 (by decide +kernel) (by decide +kernel)
theorem k_139 : Cond.fieldLink RX2 9 "StepperPlanner$Ramp" "roots" "[I" ∈ TB := tb_at 139 (by decide +kernel) (by decide +kernel)
theorem k_151 : Cond.fieldLink RX6 10 "StepperPlanner" "text" "LStepperPlanner$SetupText;" ∈ TB := tb_at 151 (by decide +kernel) (by decide +kernel)
theorem k_152 : Cond.fieldLink RX6 19 "StepperPlanner" "state" "LStepperPlanner$State;" ∈ TB := tb_at 152 (by decide +kernel) (by decide +kernel)
theorem k_153 : Cond.fieldLink RX6 23 "StepperPlanner" "copy" "LStepperPlanner$State;" ∈ TB := tb_at 153 (by decide +kernel) (by decide +kernel)
theorem k_154 : Cond.fieldLink RX6 29 "StepperPlanner" "history" "LStepperPlanner$History;" ∈ TB := tb_at 154 (by decide +kernel) (by decide +kernel)
theorem k_155 : Cond.fieldLink RX6 36 "StepperPlanner" "firstSlot" "LStepperPlanner$SaveSlot;" ∈ TB := tb_at 155 (by decide +kernel) (by decide +kernel)
theorem k_156 : Cond.fieldLink RX6 40 "StepperPlanner" "secondSlot" "LStepperPlanner$SaveSlot;" ∈ TB := tb_at 156 (by decide +kernel) (by decide +kernel)
theorem k_157 : Cond.fieldLink RX6 46 "StepperPlanner" "ramp" "LStepperPlanner$Ramp;" ∈ TB := tb_at 157 (by decide +kernel) (by decide +kernel)
theorem k_177 : Cond.methodLink RX6 50 yX4_add ∈ TB := tb_at 177 (by decide +kernel) (by decide +kernel)
theorem k_189 : Cond.methodLink RX6 58 yX4_readInto ∈ TB := tb_at 189 (by decide +kernel) (by decide +kernel)
theorem k_193 : Cond.methodLink RX4 25 yX5_clear ∈ TB := tb_at 193 (by decide +kernel) (by decide +kernel)
theorem k_197 : Cond.methodLink RX4 30 yX4_takeLetter ∈ TB := tb_at 197 (by decide +kernel) (by decide +kernel)
theorem k_201 : Cond.methodLink RX4 48 yX4_present ∈ TB := tb_at 201 (by decide +kernel) (by decide +kernel)
theorem k_205 : Cond.methodLink RX4 56 yX4_failAt ∈ TB := tb_at 205 (by decide +kernel) (by decide +kernel)
theorem k_209 : Cond.methodLink RX4 34 yX4_takePositive ∈ TB := tb_at 209 (by decide +kernel) (by decide +kernel)
theorem k_213 : Cond.methodLink RX4 66 yX4_takeDigits ∈ TB := tb_at 213 (by decide +kernel) (by decide +kernel)
theorem k_217 : Cond.methodLink RX4 44 yX4_takeItem ∈ TB := tb_at 217 (by decide +kernel) (by decide +kernel)
theorem k_221 : Cond.methodLink RX4 52 yX5_isFull ∈ TB := tb_at 221 (by decide +kernel) (by decide +kernel)
theorem k_225 : Cond.methodLink RX4 59 yX5_addItem ∈ TB := tb_at 225 (by decide +kernel) (by decide +kernel)
theorem k_229 : Cond.methodLink RX5 71 yX5_isFull ∈ TB := tb_at 229 (by decide +kernel) (by decide +kernel)
theorem k_230 : Cond.methodLink RX4 63 yX4_takeDistance ∈ TB := tb_at 230 (by decide +kernel) (by decide +kernel)
theorem k_238 : Cond.methodLink RX6 62 yX5_become ∈ TB := tb_at 238 (by decide +kernel) (by decide +kernel)
theorem k_242 : Cond.methodLink RX6 66 yX0_forget ∈ TB := tb_at 242 (by decide +kernel) (by decide +kernel)
theorem k_250 : Cond.methodLink RX6 76 yX6_isAxis ∈ TB := tb_at 250 (by decide +kernel) (by decide +kernel)
theorem k_253 : Cond.methodLink RX6 79 yX5_shownPosition ∈ TB := tb_at 253 (by decide +kernel) (by decide +kernel)
theorem k_257 : Cond.constant RX5 49 (100000 : Int32) ∈ TB := tb_at 257 (by decide +kernel) (by decide +kernel)
theorem k_270 : Cond.methodLink RX6 86 yX5_hasItem ∈ TB := tb_at 270 (by decide +kernel) (by decide +kernel)
theorem k_274 : Cond.methodLink RX6 89 yX5_isWait ∈ TB := tb_at 274 (by decide +kernel) (by decide +kernel)
theorem k_278 : Cond.methodLink RX5 50 yX5_hasItem ∈ TB := tb_at 278 (by decide +kernel) (by decide +kernel)
theorem k_279 : Cond.methodLink RX6 96 yX5_stepsLeftOf ∈ TB := tb_at 279 (by decide +kernel) (by decide +kernel)
theorem k_283 : Cond.methodLink RX5 64 yX5_isMoving ∈ TB := tb_at 283 (by decide +kernel) (by decide +kernel)
theorem k_287 : Cond.methodLink RX5 68 yX5_lengthOf ∈ TB := tb_at 287 (by decide +kernel) (by decide +kernel)
theorem k_291 : Cond.methodLink RX5 54 yJ9_abs_0f7a4 ∈ TB := tb_at 291 (by decide +kernel) (by decide +kernel)
theorem k_294 : Cond.methodLink RX5 60 yJ9_max_7cf53 ∈ TB := tb_at 294 (by decide +kernel) (by decide +kernel)
theorem k_301 : Cond.methodLink RX6 99 yX5_isMoving ∈ TB := tb_at 301 (by decide +kernel) (by decide +kernel)
theorem k_306 : Cond.methodLink RX6 106 yX6_presentRamp ∈ TB := tb_at 306 (by decide +kernel) (by decide +kernel)
theorem k_310 : Cond.methodLink RX6 201 yX2_prepare ∈ TB := tb_at 310 (by decide +kernel) (by decide +kernel)
theorem k_314 : Cond.methodLink RX2 22 yX2_fillRoots ∈ TB := tb_at 314 (by decide +kernel) (by decide +kernel)
theorem k_318 : Cond.methodLink RX2 41 yX1_rootAfter ∈ TB := tb_at 318 (by decide +kernel) (by decide +kernel)
theorem k_321 : Cond.constant RX1 15 (447214 : Int32) ∈ TB := tb_at 321 (by decide +kernel) (by decide +kernel)
theorem k_322 : Cond.methodLink RX1 16 yX1_root ∈ TB := tb_at 322 (by decide +kernel) (by decide +kernel)
theorem k_325 : Cond.constantLong RX1 11 (200000000 : Int64) ∈ TB := tb_at 325 (by decide +kernel) (by decide +kernel)
theorem k_326 : Cond.constantLong RX1 13 (2 : Int64) ∈ TB := tb_at 326 (by decide +kernel) (by decide +kernel)
theorem k_327 : Cond.methodLink RX2 25 yX1_cruiseInterval ∈ TB := tb_at 327 (by decide +kernel) (by decide +kernel)
theorem k_330 : Cond.methodLink RX2 34 yX2_findTop ∈ TB := tb_at 330 (by decide +kernel) (by decide +kernel)
theorem k_334 : Cond.methodLink RX2 45 yX1_rampAtLeast ∈ TB := tb_at 334 (by decide +kernel) (by decide +kernel)
theorem k_337 : Cond.constantLong RX1 20 (4 : Int64) ∈ TB := tb_at 337 (by decide +kernel) (by decide +kernel)
theorem k_338 : Cond.methodLink RX1 22 yJ9_min_f86c9 ∈ TB := tb_at 338 (by decide +kernel) (by decide +kernel)
theorem k_341 : Cond.methodLink RX2 48 yX2_rampInterval ∈ TB := tb_at 341 (by decide +kernel) (by decide +kernel)
theorem k_349 : Cond.methodLink RX6 113 yX6_isIndex ∈ TB := tb_at 349 (by decide +kernel) (by decide +kernel)
theorem k_352 : Cond.methodLink RX6 116 yX2_intervalOf ∈ TB := tb_at 352 (by decide +kernel) (by decide +kernel)
theorem k_356 : Cond.methodLink RX2 51 yJ9_max_7cf53 ∈ TB := tb_at 356 (by decide +kernel) (by decide +kernel)
theorem k_361 : Cond.methodLink RX6 119 yX2_approximation ∈ TB := tb_at 361 (by decide +kernel) (by decide +kernel)
theorem k_369 : Cond.methodLink RX6 122 yX6_isPositive ∈ TB := tb_at 369 (by decide +kernel) (by decide +kernel)
theorem k_372 : Cond.methodLink RX6 126 yX0_remember ∈ TB := tb_at 372 (by decide +kernel) (by decide +kernel)
theorem k_376 : Cond.methodLink RX0 28 yX0_at ∈ TB := tb_at 376 (by decide +kernel) (by decide +kernel)
theorem k_380 : Cond.methodLink RX0 18 yJ9_floorMod_7cf53 ∈ TB := tb_at 380 (by decide +kernel) (by decide +kernel)
theorem k_383 : Cond.methodLink RX0 32 yX5_become ∈ TB := tb_at 383 (by decide +kernel) (by decide +kernel)
theorem k_384 : Cond.methodLink RX0 39 yJ9_min_7cf53 ∈ TB := tb_at 384 (by decide +kernel) (by decide +kernel)
theorem k_395 : Cond.methodLink RX6 135 yX6_isDistance ∈ TB := tb_at 395 (by decide +kernel) (by decide +kernel)
theorem k_398 : Cond.methodLink RX6 138 yX5_isFull ∈ TB := tb_at 398 (by decide +kernel) (by decide +kernel)
theorem k_399 : Cond.methodLink RX6 141 yX5_addItem ∈ TB := tb_at 399 (by decide +kernel) (by decide +kernel)
theorem k_408 : Cond.constant RX6 145 (1000000000 : Int32) ∈ TB := tb_at 408 (by decide +kernel) (by decide +kernel)
theorem k_409 : Cond.methodLink RX6 146 yX5_advance ∈ TB := tb_at 409 (by decide +kernel) (by decide +kernel)
theorem k_413 : Cond.methodLink RX5 78 yX2_prepare ∈ TB := tb_at 413 (by decide +kernel) (by decide +kernel)
theorem k_414 : Cond.methodLink RX5 84 yX5_isWait ∈ TB := tb_at 414 (by decide +kernel) (by decide +kernel)
theorem k_415 : Cond.methodLink RX5 87 yX5_passWait ∈ TB := tb_at 415 (by decide +kernel) (by decide +kernel)
theorem k_419 : Cond.methodLink RX5 74 yX5_dropItem ∈ TB := tb_at 419 (by decide +kernel) (by decide +kernel)
theorem k_423 : Cond.methodLink RX5 90 yX5_advanceMove ∈ TB := tb_at 423 (by decide +kernel) (by decide +kernel)
theorem k_427 : Cond.methodLink RX5 94 yX2_ticksOfMove ∈ TB := tb_at 427 (by decide +kernel) (by decide +kernel)
theorem k_431 : Cond.methodLink RX2 57 yJ9_min_7cf53 ∈ TB := tb_at 431 (by decide +kernel) (by decide +kernel)
theorem k_432 : Cond.methodLink RX2 60 yX2_intervalOf ∈ TB := tb_at 432 (by decide +kernel) (by decide +kernel)
theorem k_433 : Cond.methodLink RX5 97 yX5_passWholeMove ∈ TB := tb_at 433 (by decide +kernel) (by decide +kernel)
theorem k_437 : Cond.methodLink RX5 101 yJ9_min_7cf53 ∈ TB := tb_at 437 (by decide +kernel) (by decide +kernel)
theorem k_438 : Cond.methodLink RX5 104 yX5_makeSteps ∈ TB := tb_at 438 (by decide +kernel) (by decide +kernel)
theorem k_442 : Cond.methodLink RX5 114 yX5_nextIndex ∈ TB := tb_at 442 (by decide +kernel) (by decide +kernel)
theorem k_446 : Cond.methodLink RX5 117 yX2_intervalOf ∈ TB := tb_at 446 (by decide +kernel) (by decide +kernel)
theorem k_447 : Cond.methodLink RX5 108 yX5_moveAxes ∈ TB := tb_at 447 (by decide +kernel) (by decide +kernel)
theorem k_451 : Cond.methodLink RX5 120 yX5_way ∈ TB := tb_at 451 (by decide +kernel) (by decide +kernel)
theorem k_458 : Cond.constant RX6 150 (99999 : Int32) ∈ TB := tb_at 458 (by decide +kernel) (by decide +kernel)
theorem k_463 : Cond.methodLink RX6 151 yX5_halt ∈ TB := tb_at 463 (by decide +kernel) (by decide +kernel)
theorem k_471 : Cond.methodLink RX6 155 yX5_dropItem ∈ TB := tb_at 471 (by decide +kernel) (by decide +kernel)
theorem k_476 : Cond.methodLink RX6 159 yX0_takeBack ∈ TB := tb_at 476 (by decide +kernel) (by decide +kernel)
theorem k_488 : Cond.methodLink RX6 164 yX2_ticksOfMove ∈ TB := tb_at 488 (by decide +kernel) (by decide +kernel)
theorem k_497 : Cond.methodLink RX6 167 yX1_cruiseInterval ∈ TB := tb_at 497 (by decide +kernel) (by decide +kernel)
theorem k_498 : Cond.methodLink RX6 172 yX1_leastCandidate ∈ TB := tb_at 498 (by decide +kernel) (by decide +kernel)
theorem k_501 : Cond.constantLong RX1 38 (999 : Int64) ∈ TB := tb_at 501 (by decide +kernel) (by decide +kernel)
theorem k_502 : Cond.methodLink RX6 176 yX1_ticksOfMove ∈ TB := tb_at 502 (by decide +kernel) (by decide +kernel)
theorem k_505 : Cond.methodLink RX1 28 yX1_rampAtLeast ∈ TB := tb_at 505 (by decide +kernel) (by decide +kernel)
theorem k_506 : Cond.methodLink RX1 31 yX1_rootAfter ∈ TB := tb_at 506 (by decide +kernel) (by decide +kernel)
theorem k_507 : Cond.methodLink RX1 34 yJ9_max_7cf53 ∈ TB := tb_at 507 (by decide +kernel) (by decide +kernel)
theorem k_516 : Cond.constantLong RX6 178 (10000 : Int64) ∈ TB := tb_at 516 (by decide +kernel) (by decide +kernel)
theorem k_517 : Cond.methodLink RX6 180 yJ9_max_f86c9 ∈ TB := tb_at 517 (by decide +kernel) (by decide +kernel)
theorem k_520 : Cond.methodLink RX6 186 yX6_succeeds ∈ TB := tb_at 520 (by decide +kernel) (by decide +kernel)
theorem k_528 : Cond.constantLong RX6 189 (6364136223846793005 : Int64) ∈ TB := tb_at 528 (by decide +kernel) (by decide +kernel)
theorem k_529 : Cond.constantLong RX6 191 (1442695040888963407 : Int64) ∈ TB := tb_at 529 (by decide +kernel) (by decide +kernel)
theorem k_534 : Cond.methodLink RX6 193 yX6_isSlot ∈ TB := tb_at 534 (by decide +kernel) (by decide +kernel)
theorem k_537 : Cond.methodLink RX6 196 yX6_slotAt ∈ TB := tb_at 537 (by decide +kernel) (by decide +kernel)
theorem k_551 : Cond.fieldLink RX7 7 "StepperPlannerModel" "text" "[I" ∈ TB := tb_at 551 (by decide +kernel) (by decide +kernel)
theorem k_552 : Cond.fieldLink RX7 85 "StepperPlannerModel" "length" "I" ∈ TB := tb_at 552 (by decide +kernel) (by decide +kernel)
theorem k_553 : Cond.fieldLink RX7 88 "StepperPlannerModel" "place" "I" ∈ TB := tb_at 553 (by decide +kernel) (by decide +kernel)
theorem k_554 : Cond.fieldLink RX7 13 "StepperPlannerModel" "now" "[I" ∈ TB := tb_at 554 (by decide +kernel) (by decide +kernel)
theorem k_555 : Cond.fieldLink RX7 16 "StepperPlannerModel" "trial" "[I" ∈ TB := tb_at 555 (by decide +kernel) (by decide +kernel)
theorem k_556 : Cond.fieldLink RX7 19 "StepperPlannerModel" "read" "[I" ∈ TB := tb_at 556 (by decide +kernel) (by decide +kernel)
theorem k_557 : Cond.fieldLink RX7 22 "StepperPlannerModel" "diary" "[I" ∈ TB := tb_at 557 (by decide +kernel) (by decide +kernel)
theorem k_558 : Cond.fieldLink RX7 120 "StepperPlannerModel" "acts" "I" ∈ TB := tb_at 558 (by decide +kernel) (by decide +kernel)
theorem k_559 : Cond.fieldLink RX7 138 "StepperPlannerModel" "next" "I" ∈ TB := tb_at 559 (by decide +kernel) (by decide +kernel)
theorem k_560 : Cond.fieldLink RX7 25 "StepperPlannerModel" "kept" "[I" ∈ TB := tb_at 560 (by decide +kernel) (by decide +kernel)
theorem k_561 : Cond.fieldLink RX7 28 "StepperPlannerModel" "isKept" "[Z" ∈ TB := tb_at 561 (by decide +kernel) (by decide +kernel)
theorem k_562 : Cond.fieldLink RX7 32 "StepperPlannerModel" "root" "[I" ∈ TB := tb_at 562 (by decide +kernel) (by decide +kernel)
theorem k_563 : Cond.fieldLink RX7 35 "StepperPlannerModel" "rootOf" "I" ∈ TB := tb_at 563 (by decide +kernel) (by decide +kernel)
theorem k_564 : Cond.fieldLink RX7 39 "StepperPlannerModel" "rootMany" "I" ∈ TB := tb_at 564 (by decide +kernel) (by decide +kernel)
theorem k_565 : Cond.fieldLink RX7 60 "StepperPlannerModel" "topAt" "I" ∈ TB := tb_at 565 (by decide +kernel) (by decide +kernel)
theorem k_566 : Cond.fieldLink RX7 63 "StepperPlannerModel" "topWith" "I" ∈ TB := tb_at 566 (by decide +kernel) (by decide +kernel)
theorem k_567 : Cond.fieldLink RX7 70 "StepperPlannerModel" "topWas" "I" ∈ TB := tb_at 567 (by decide +kernel) (by decide +kernel)
theorem k_608 : Cond.constantLong RX7 79 (255 : Int64) ∈ TB := tb_at 608 (by decide +kernel) (by decide +kernel)
theorem k_609 : Cond.methodLink RX7 81 yX7_in ∈ TB := tb_at 609 (by decide +kernel) (by decide +kernel)
theorem k_620 : Cond.methodLink RX7 112 yX7_readText ∈ TB := tb_at 620 (by decide +kernel) (by decide +kernel)
theorem k_624 : Cond.methodLink RX7 93 yX7_takes ∈ TB := tb_at 624 (by decide +kernel) (by decide +kernel)
theorem k_628 : Cond.methodLink RX7 98 yX7_number ∈ TB := tb_at 628 (by decide +kernel) (by decide +kernel)
theorem k_632 : Cond.constantLong RX7 91 (9 : Int64) ∈ TB := tb_at 632 (by decide +kernel) (by decide +kernel)
theorem k_633 : Cond.methodLink RX7 108 yX7_readItem ∈ TB := tb_at 633 (by decide +kernel) (by decide +kernel)
theorem k_637 : Cond.methodLink RX7 101 yX7_signedNumber ∈ TB := tb_at 637 (by decide +kernel) (by decide +kernel)
theorem k_641 : Cond.constant RX7 97 ((-89910) : Int32) ∈ TB := tb_at 641 (by decide +kernel) (by decide +kernel)
theorem k_642 : Cond.constantLong RX7 104 ((-999) : Int64) ∈ TB := tb_at 642 (by decide +kernel) (by decide +kernel)
theorem k_643 : Cond.constantLong RX7 106 (999 : Int64) ∈ TB := tb_at 643 (by decide +kernel) (by decide +kernel)
theorem k_648 : Cond.methodLink RX7 116 yX7_copy ∈ TB := tb_at 648 (by decide +kernel) (by decide +kernel)
theorem k_655 : Cond.constant RX7 123 (100000 : Int32) ∈ TB := tb_at 655 (by decide +kernel) (by decide +kernel)
theorem k_668 : Cond.methodLink RX7 127 yX7_isUnderWay ∈ TB := tb_at 668 (by decide +kernel) (by decide +kernel)
theorem k_671 : Cond.methodLink RX7 131 yX7_lengthOf ∈ TB := tb_at 671 (by decide +kernel) (by decide +kernel)
theorem k_674 : Cond.methodLink RX7 124 yX7_abs ∈ TB := tb_at 674 (by decide +kernel) (by decide +kernel)
theorem k_685 : Cond.methodLink RX7 135 yX7_fullTop ∈ TB := tb_at 685 (by decide +kernel) (by decide +kernel)
theorem k_689 : Cond.methodLink RX7 66 yX7_topOf ∈ TB := tb_at 689 (by decide +kernel) (by decide +kernel)
theorem k_693 : Cond.methodLink RX7 52 yX7_rampOf ∈ TB := tb_at 693 (by decide +kernel) (by decide +kernel)
theorem k_697 : Cond.methodLink RX7 48 yX7_layRoots ∈ TB := tb_at 697 (by decide +kernel) (by decide +kernel)
theorem k_701 : Cond.constantLong RX7 42 (200000000 : Int64) ∈ TB := tb_at 701 (by decide +kernel) (by decide +kernel)
theorem k_702 : Cond.methodLink RX7 44 yX7_squareRoot ∈ TB := tb_at 702 (by decide +kernel) (by decide +kernel)
theorem k_705 : Cond.methodLink RX7 56 yX7_cruiseOf ∈ TB := tb_at 705 (by decide +kernel) (by decide +kernel)
theorem k_712 : Cond.methodLink RX7 73 yX7_intervalOf ∈ TB := tb_at 712 (by decide +kernel) (by decide +kernel)
theorem k_724 : Cond.methodLink RX7 141 yX7_note ∈ TB := tb_at 724 (by decide +kernel) (by decide +kernel)
theorem k_736 : Cond.methodLink RX7 144 yX7_addItem ∈ TB := tb_at 736 (by decide +kernel) (by decide +kernel)
theorem k_744 : Cond.constantLong RX7 147 (9999 : Int64) ∈ TB := tb_at 744 (by decide +kernel) (by decide +kernel)
theorem k_749 : Cond.methodLink RX7 167 yX7_stepIn ∈ TB := tb_at 749 (by decide +kernel) (by decide +kernel)
theorem k_753 : Cond.methodLink RX7 157 yX7_nextTicks ∈ TB := tb_at 753 (by decide +kernel) (by decide +kernel)
theorem k_757 : Cond.methodLink RX7 153 yX7_nextIndex ∈ TB := tb_at 757 (by decide +kernel) (by decide +kernel)
theorem k_761 : Cond.methodLink RX7 76 yX7_indexAfter ∈ TB := tb_at 761 (by decide +kernel) (by decide +kernel)
theorem k_764 : Cond.methodLink RX7 149 yX7_dropItem ∈ TB := tb_at 764 (by decide +kernel) (by decide +kernel)
theorem k_767 : Cond.methodLink RX7 160 yX7_gone ∈ TB := tb_at 767 (by decide +kernel) (by decide +kernel)
theorem k_770 : Cond.methodLink RX7 163 yX7_endMove ∈ TB := tb_at 770 (by decide +kernel) (by decide +kernel)
theorem k_777 : Cond.constantLong RX7 170 (99999 : Int64) ∈ TB := tb_at 777 (by decide +kernel) (by decide +kernel)
theorem k_778 : Cond.methodLink RX7 172 yX7_runIn ∈ TB := tb_at 778 (by decide +kernel) (by decide +kernel)
theorem k_786 : Cond.methodLink RX7 175 yX7_stopIn ∈ TB := tb_at 786 (by decide +kernel) (by decide +kernel)
theorem k_805 : Cond.methodLink RX7 178 yX7_ticksOf ∈ TB := tb_at 805 (by decide +kernel) (by decide +kernel)
theorem k_825 : Cond.constantLong RX7 183 (4 : Int64) ∈ TB := tb_at 825 (by decide +kernel) (by decide +kernel)
theorem k_826 : Cond.methodLink RX7 185 yX7_tenThousands ∈ TB := tb_at 826 (by decide +kernel) (by decide +kernel)
theorem k_829 : Cond.constantLong RX7 181 (10000 : Int64) ∈ TB := tb_at 829 (by decide +kernel) (by decide +kernel)
theorem k_830 : Cond.methodLink RX7 189 yX7_command ∈ TB := tb_at 830 (by decide +kernel) (by decide +kernel)
theorem k_838 : Cond.constantLong RX7 193 (500 : Int64) ∈ TB := tb_at 838 (by decide +kernel) (by decide +kernel)
theorem k_839 : Cond.constantLong RX7 195 (6364136223846793005 : Int64) ∈ TB := tb_at 839 (by decide +kernel) (by decide +kernel)
theorem k_840 : Cond.constantLong RX7 197 (1442695040888963407 : Int64) ∈ TB := tb_at 840 (by decide +kernel) (by decide +kernel)
theorem cal_X0_init : Cal yX0_init cX0_init 2 none 0 := ⟨tb_at 95 (by decide +kernel) (by decide +kernel), tb_at 4 (by decide +kernel) (by decide +kernel), by decide, by decide, by decide +kernel⟩
theorem im_X0_init : Cond.instanceMethod yX0_init ∈ TB := tb_at 94 (by decide +kernel) (by decide +kernel)
theorem cal_X0_at : Cal yX0_at cX0_at 2 (some (.object RX5)) 1 := ⟨tb_at 379 (by decide +kernel) (by decide +kernel), tb_at 4 (by decide +kernel) (by decide +kernel), by decide, by decide, by decide +kernel⟩
theorem im_X0_at : Cond.instanceMethod yX0_at ∈ TB := tb_at 378 (by decide +kernel) (by decide +kernel)
theorem se_X0_at : Cond.selects RX0 yX0_at yX0_at ∈ TB := tb_sel 12 (by decide +kernel) (by decide +kernel)
theorem cal_X0_remember : Cal yX0_remember cX0_remember 2 none 1 := ⟨tb_at 375 (by decide +kernel) (by decide +kernel), tb_at 4 (by decide +kernel) (by decide +kernel), by decide, by decide, by decide +kernel⟩
theorem im_X0_remember : Cond.instanceMethod yX0_remember ∈ TB := tb_at 373 (by decide +kernel) (by decide +kernel)
theorem se_X0_remember : Cond.selects RX0 yX0_remember yX0_remember ∈ TB := tb_at 374 (by decide +kernel) (by decide +kernel)
theorem cal_X0_takeBack : Cal yX0_takeBack cX0_takeBack 2 (some .boolean) 1 := ⟨tb_at 479 (by decide +kernel) (by decide +kernel), tb_at 4 (by decide +kernel) (by decide +kernel), by decide, by decide, by decide +kernel⟩
theorem im_X0_takeBack : Cond.instanceMethod yX0_takeBack ∈ TB := tb_at 477 (by decide +kernel) (by decide +kernel)
theorem se_X0_takeBack : Cond.selects RX0 yX0_takeBack yX0_takeBack ∈ TB := tb_at 478 (by decide +kernel) (by decide +kernel)
theorem cal_X0_forget : Cal yX0_forget cX0_forget 1 none 0 := ⟨tb_at 245 (by decide +kernel) (by decide +kernel), tb_at 4 (by decide +kernel) (by decide +kernel), by decide, by decide, by decide +kernel⟩
theorem im_X0_forget : Cond.instanceMethod yX0_forget ∈ TB := tb_at 243 (by decide +kernel) (by decide +kernel)
theorem se_X0_forget : Cond.selects RX0 yX0_forget yX0_forget ∈ TB := tb_at 244 (by decide +kernel) (by decide +kernel)
theorem cal_X1_root : Cal yX1_root cX1_root 10 (some .int) 3 := ⟨tb_at 324 (by decide +kernel) (by decide +kernel), tb_at 9 (by decide +kernel) (by decide +kernel), by decide, by decide, by decide +kernel⟩
theorem sc_X1_root : Cond.static yX1_root ∈ TB := tb_at 323 (by decide +kernel) (by decide +kernel)
theorem cal_X1_rootAfter : Cal yX1_rootAfter cX1_rootAfter 4 (some .int) 3 := ⟨tb_at 320 (by decide +kernel) (by decide +kernel), tb_at 9 (by decide +kernel) (by decide +kernel), by decide, by decide, by decide +kernel⟩
theorem sc_X1_rootAfter : Cond.static yX1_rootAfter ∈ TB := tb_at 319 (by decide +kernel) (by decide +kernel)
theorem cal_X1_cruiseInterval : Cal yX1_cruiseInterval cX1_cruiseInterval 1 (some .int) 1 := ⟨tb_at 329 (by decide +kernel) (by decide +kernel), tb_at 9 (by decide +kernel) (by decide +kernel), by decide, by decide, by decide +kernel⟩
theorem sc_X1_cruiseInterval : Cond.static yX1_cruiseInterval ∈ TB := tb_at 328 (by decide +kernel) (by decide +kernel)
theorem cal_X1_rampAtLeast : Cal yX1_rampAtLeast cX1_rampAtLeast 5 (some .int) 3 := ⟨tb_at 336 (by decide +kernel) (by decide +kernel), tb_at 9 (by decide +kernel) (by decide +kernel), by decide, by decide, by decide +kernel⟩
theorem sc_X1_rampAtLeast : Cond.static yX1_rampAtLeast ∈ TB := tb_at 335 (by decide +kernel) (by decide +kernel)
theorem cal_X1_ticksOfMove : Cal yX1_ticksOfMove cX1_ticksOfMove 7 (some .int) 3 := ⟨tb_at 504 (by decide +kernel) (by decide +kernel), tb_at 9 (by decide +kernel) (by decide +kernel), by decide, by decide, by decide +kernel⟩
theorem sc_X1_ticksOfMove : Cond.static yX1_ticksOfMove ∈ TB := tb_at 503 (by decide +kernel) (by decide +kernel)
theorem cal_X1_leastCandidate : Cal yX1_leastCandidate cX1_leastCandidate 7 (some .int) 3 := ⟨tb_at 500 (by decide +kernel) (by decide +kernel), tb_at 9 (by decide +kernel) (by decide +kernel), by decide, by decide, by decide +kernel⟩
theorem sc_X1_leastCandidate : Cond.static yX1_leastCandidate ∈ TB := tb_at 499 (by decide +kernel) (by decide +kernel)
theorem cal_X2_init : Cal yX2_init cX2_init 1 none 0 := ⟨tb_at 131 (by decide +kernel) (by decide +kernel), tb_at 6 (by decide +kernel) (by decide +kernel), by decide, by decide, by decide +kernel⟩
theorem im_X2_init : Cond.instanceMethod yX2_init ∈ TB := tb_at 130 (by decide +kernel) (by decide +kernel)
theorem cal_X2_prepare : Cal yX2_prepare cX2_prepare 3 none 2 := ⟨tb_at 313 (by decide +kernel) (by decide +kernel), tb_at 6 (by decide +kernel) (by decide +kernel), by decide, by decide, by decide +kernel⟩
theorem im_X2_prepare : Cond.instanceMethod yX2_prepare ∈ TB := tb_at 311 (by decide +kernel) (by decide +kernel)
theorem se_X2_prepare : Cond.selects RX2 yX2_prepare yX2_prepare ∈ TB := tb_at 312 (by decide +kernel) (by decide +kernel)
theorem cal_X2_fillRoots : Cal yX2_fillRoots cX2_fillRoots 2 none 0 := ⟨tb_at 317 (by decide +kernel) (by decide +kernel), tb_at 6 (by decide +kernel) (by decide +kernel), by decide, by decide, by decide +kernel⟩
theorem im_X2_fillRoots : Cond.instanceMethod yX2_fillRoots ∈ TB := tb_at 316 (by decide +kernel) (by decide +kernel)
theorem se_X2_fillRoots : Cond.selects RX2 yX2_fillRoots yX2_fillRoots ∈ TB := tb_sel 9 (by decide +kernel) (by decide +kernel)
theorem cal_X2_findTop : Cal yX2_findTop cX2_findTop 2 (some .int) 0 := ⟨tb_at 333 (by decide +kernel) (by decide +kernel), tb_at 6 (by decide +kernel) (by decide +kernel), by decide, by decide, by decide +kernel⟩
theorem im_X2_findTop : Cond.instanceMethod yX2_findTop ∈ TB := tb_at 332 (by decide +kernel) (by decide +kernel)
theorem se_X2_findTop : Cond.selects RX2 yX2_findTop yX2_findTop ∈ TB := tb_sel 10 (by decide +kernel) (by decide +kernel)
theorem cal_X2_rampInterval : Cal yX2_rampInterval cX2_rampInterval 2 (some .int) 1 := ⟨tb_at 344 (by decide +kernel) (by decide +kernel), tb_at 6 (by decide +kernel) (by decide +kernel), by decide, by decide, by decide +kernel⟩
theorem im_X2_rampInterval : Cond.instanceMethod yX2_rampInterval ∈ TB := tb_at 343 (by decide +kernel) (by decide +kernel)
theorem se_X2_rampInterval : Cond.selects RX2 yX2_rampInterval yX2_rampInterval ∈ TB := tb_sel 11 (by decide +kernel) (by decide +kernel)
theorem cal_X2_intervalOf : Cal yX2_intervalOf cX2_intervalOf 2 (some .int) 1 := ⟨tb_at 355 (by decide +kernel) (by decide +kernel), tb_at 6 (by decide +kernel) (by decide +kernel), by decide, by decide, by decide +kernel⟩
theorem im_X2_intervalOf : Cond.instanceMethod yX2_intervalOf ∈ TB := tb_at 353 (by decide +kernel) (by decide +kernel)
theorem se_X2_intervalOf : Cond.selects RX2 yX2_intervalOf yX2_intervalOf ∈ TB := tb_at 354 (by decide +kernel) (by decide +kernel)
theorem cal_X2_ticksOfMove : Cal yX2_ticksOfMove cX2_ticksOfMove 3 (some .int) 1 := ⟨tb_at 430 (by decide +kernel) (by decide +kernel), tb_at 6 (by decide +kernel) (by decide +kernel), by decide, by decide, by decide +kernel⟩
theorem im_X2_ticksOfMove : Cond.instanceMethod yX2_ticksOfMove ∈ TB := tb_at 428 (by decide +kernel) (by decide +kernel)
theorem se_X2_ticksOfMove : Cond.selects RX2 yX2_ticksOfMove yX2_ticksOfMove ∈ TB := tb_at 429 (by decide +kernel) (by decide +kernel)
theorem cal_X2_approximation : Cal yX2_approximation cX2_approximation 6 (some .int) 1 := ⟨tb_at 364 (by decide +kernel) (by decide +kernel), tb_at 6 (by decide +kernel) (by decide +kernel), by decide, by decide, by decide +kernel⟩
theorem im_X2_approximation : Cond.instanceMethod yX2_approximation ∈ TB := tb_at 362 (by decide +kernel) (by decide +kernel)
theorem se_X2_approximation : Cond.selects RX2 yX2_approximation yX2_approximation ∈ TB := tb_at 363 (by decide +kernel) (by decide +kernel)
theorem cal_X3_init : Cal yX3_init cX3_init 1 none 0 := ⟨tb_at 115 (by decide +kernel) (by decide +kernel), tb_at 5 (by decide +kernel) (by decide +kernel), by decide, by decide, by decide +kernel⟩
theorem im_X3_init : Cond.instanceMethod yX3_init ∈ TB := tb_at 114 (by decide +kernel) (by decide +kernel)
theorem cal_X4_init : Cal yX4_init cX4_init 1 none 0 := ⟨tb_at 22 (by decide +kernel) (by decide +kernel), tb_at 2 (by decide +kernel) (by decide +kernel), by decide, by decide, by decide +kernel⟩
theorem im_X4_init : Cond.instanceMethod yX4_init ∈ TB := tb_at 21 (by decide +kernel) (by decide +kernel)
theorem cal_X4_add : Cal yX4_add cX4_add 2 (some .boolean) 1 := ⟨tb_at 180 (by decide +kernel) (by decide +kernel), tb_at 2 (by decide +kernel) (by decide +kernel), by decide, by decide, by decide +kernel⟩
theorem im_X4_add : Cond.instanceMethod yX4_add ∈ TB := tb_at 178 (by decide +kernel) (by decide +kernel)
theorem se_X4_add : Cond.selects RX4 yX4_add yX4_add ∈ TB := tb_at 179 (by decide +kernel) (by decide +kernel)
theorem cal_X4_readInto : Cal yX4_readInto cX4_readInto 3 (some .int) 1 := ⟨tb_at 192 (by decide +kernel) (by decide +kernel), tb_at 2 (by decide +kernel) (by decide +kernel), by decide, by decide, by decide +kernel⟩
theorem im_X4_readInto : Cond.instanceMethod yX4_readInto ∈ TB := tb_at 190 (by decide +kernel) (by decide +kernel)
theorem se_X4_readInto : Cond.selects RX4 yX4_readInto yX4_readInto ∈ TB := tb_at 191 (by decide +kernel) (by decide +kernel)
theorem cal_X4_takeItem : Cal yX4_takeItem cX4_takeItem 5 none 1 := ⟨tb_at 220 (by decide +kernel) (by decide +kernel), tb_at 2 (by decide +kernel) (by decide +kernel), by decide, by decide, by decide +kernel⟩
theorem im_X4_takeItem : Cond.instanceMethod yX4_takeItem ∈ TB := tb_at 219 (by decide +kernel) (by decide +kernel)
theorem se_X4_takeItem : Cond.selects RX4 yX4_takeItem yX4_takeItem ∈ TB := tb_sel 5 (by decide +kernel) (by decide +kernel)
theorem cal_X4_present : Cal yX4_present cX4_present 1 (some .int) 0 := ⟨tb_at 204 (by decide +kernel) (by decide +kernel), tb_at 2 (by decide +kernel) (by decide +kernel), by decide, by decide, by decide +kernel⟩
theorem im_X4_present : Cond.instanceMethod yX4_present ∈ TB := tb_at 203 (by decide +kernel) (by decide +kernel)
theorem se_X4_present : Cond.selects RX4 yX4_present yX4_present ∈ TB := tb_sel 1 (by decide +kernel) (by decide +kernel)
theorem cal_X4_failAt : Cal yX4_failAt cX4_failAt 2 none 1 := ⟨tb_at 208 (by decide +kernel) (by decide +kernel), tb_at 2 (by decide +kernel) (by decide +kernel), by decide, by decide, by decide +kernel⟩
theorem im_X4_failAt : Cond.instanceMethod yX4_failAt ∈ TB := tb_at 207 (by decide +kernel) (by decide +kernel)
theorem se_X4_failAt : Cond.selects RX4 yX4_failAt yX4_failAt ∈ TB := tb_sel 2 (by decide +kernel) (by decide +kernel)
theorem cal_X4_takeLetter : Cal yX4_takeLetter cX4_takeLetter 2 none 1 := ⟨tb_at 200 (by decide +kernel) (by decide +kernel), tb_at 2 (by decide +kernel) (by decide +kernel), by decide, by decide, by decide +kernel⟩
theorem im_X4_takeLetter : Cond.instanceMethod yX4_takeLetter ∈ TB := tb_at 199 (by decide +kernel) (by decide +kernel)
theorem se_X4_takeLetter : Cond.selects RX4 yX4_takeLetter yX4_takeLetter ∈ TB := tb_sel 0 (by decide +kernel) (by decide +kernel)
theorem cal_X4_takeDistance : Cal yX4_takeDistance cX4_takeDistance 3 (some .int) 0 := ⟨tb_at 233 (by decide +kernel) (by decide +kernel), tb_at 2 (by decide +kernel) (by decide +kernel), by decide, by decide, by decide +kernel⟩
theorem im_X4_takeDistance : Cond.instanceMethod yX4_takeDistance ∈ TB := tb_at 232 (by decide +kernel) (by decide +kernel)
theorem se_X4_takeDistance : Cond.selects RX4 yX4_takeDistance yX4_takeDistance ∈ TB := tb_sel 6 (by decide +kernel) (by decide +kernel)
theorem cal_X4_takePositive : Cal yX4_takePositive cX4_takePositive 3 (some .int) 1 := ⟨tb_at 212 (by decide +kernel) (by decide +kernel), tb_at 2 (by decide +kernel) (by decide +kernel), by decide, by decide, by decide +kernel⟩
theorem im_X4_takePositive : Cond.instanceMethod yX4_takePositive ∈ TB := tb_at 211 (by decide +kernel) (by decide +kernel)
theorem se_X4_takePositive : Cond.selects RX4 yX4_takePositive yX4_takePositive ∈ TB := tb_sel 3 (by decide +kernel) (by decide +kernel)
theorem cal_X4_takeDigits : Cal yX4_takeDigits cX4_takeDigits 5 (some .int) 1 := ⟨tb_at 216 (by decide +kernel) (by decide +kernel), tb_at 2 (by decide +kernel) (by decide +kernel), by decide, by decide, by decide +kernel⟩
theorem im_X4_takeDigits : Cond.instanceMethod yX4_takeDigits ∈ TB := tb_at 215 (by decide +kernel) (by decide +kernel)
theorem se_X4_takeDigits : Cond.selects RX4 yX4_takeDigits yX4_takeDigits ∈ TB := tb_sel 4 (by decide +kernel) (by decide +kernel)
theorem cal_X5_init : Cal yX5_init cX5_init 1 none 0 := ⟨tb_at 43 (by decide +kernel) (by decide +kernel), tb_at 3 (by decide +kernel) (by decide +kernel), by decide, by decide, by decide +kernel⟩
theorem im_X5_init : Cond.instanceMethod yX5_init ∈ TB := tb_at 42 (by decide +kernel) (by decide +kernel)
theorem cal_X5_become : Cal yX5_become cX5_become 3 none 1 := ⟨tb_at 241 (by decide +kernel) (by decide +kernel), tb_at 3 (by decide +kernel) (by decide +kernel), by decide, by decide, by decide +kernel⟩
theorem im_X5_become : Cond.instanceMethod yX5_become ∈ TB := tb_at 239 (by decide +kernel) (by decide +kernel)
theorem se_X5_become : Cond.selects RX5 yX5_become yX5_become ∈ TB := tb_at 240 (by decide +kernel) (by decide +kernel)
theorem cal_X5_clear : Cal yX5_clear cX5_clear 1 none 0 := ⟨tb_at 196 (by decide +kernel) (by decide +kernel), tb_at 3 (by decide +kernel) (by decide +kernel), by decide, by decide, by decide +kernel⟩
theorem im_X5_clear : Cond.instanceMethod yX5_clear ∈ TB := tb_at 194 (by decide +kernel) (by decide +kernel)
theorem se_X5_clear : Cond.selects RX5 yX5_clear yX5_clear ∈ TB := tb_at 195 (by decide +kernel) (by decide +kernel)
theorem cal_X5_shownPosition : Cal yX5_shownPosition cX5_shownPosition 2 (some .int) 1 := ⟨tb_at 256 (by decide +kernel) (by decide +kernel), tb_at 3 (by decide +kernel) (by decide +kernel), by decide, by decide, by decide +kernel⟩
theorem im_X5_shownPosition : Cond.instanceMethod yX5_shownPosition ∈ TB := tb_at 254 (by decide +kernel) (by decide +kernel)
theorem se_X5_shownPosition : Cond.selects RX5 yX5_shownPosition yX5_shownPosition ∈ TB := tb_at 255 (by decide +kernel) (by decide +kernel)
theorem cal_X5_isFull : Cal yX5_isFull cX5_isFull 1 (some .boolean) 0 := ⟨tb_at 224 (by decide +kernel) (by decide +kernel), tb_at 3 (by decide +kernel) (by decide +kernel), by decide, by decide, by decide +kernel⟩
theorem im_X5_isFull : Cond.instanceMethod yX5_isFull ∈ TB := tb_at 222 (by decide +kernel) (by decide +kernel)
theorem se_X5_isFull : Cond.selects RX5 yX5_isFull yX5_isFull ∈ TB := tb_at 223 (by decide +kernel) (by decide +kernel)
theorem cal_X5_isMoving : Cal yX5_isMoving cX5_isMoving 1 (some .boolean) 0 := ⟨tb_at 286 (by decide +kernel) (by decide +kernel), tb_at 3 (by decide +kernel) (by decide +kernel), by decide, by decide, by decide +kernel⟩
theorem im_X5_isMoving : Cond.instanceMethod yX5_isMoving ∈ TB := tb_at 284 (by decide +kernel) (by decide +kernel)
theorem se_X5_isMoving : Cond.selects RX5 yX5_isMoving yX5_isMoving ∈ TB := tb_at 285 (by decide +kernel) (by decide +kernel)
theorem cal_X5_hasItem : Cal yX5_hasItem cX5_hasItem 2 (some .boolean) 1 := ⟨tb_at 273 (by decide +kernel) (by decide +kernel), tb_at 3 (by decide +kernel) (by decide +kernel), by decide, by decide, by decide +kernel⟩
theorem im_X5_hasItem : Cond.instanceMethod yX5_hasItem ∈ TB := tb_at 271 (by decide +kernel) (by decide +kernel)
theorem se_X5_hasItem : Cond.selects RX5 yX5_hasItem yX5_hasItem ∈ TB := tb_at 272 (by decide +kernel) (by decide +kernel)
theorem cal_X5_isWait : Cal yX5_isWait cX5_isWait 2 (some .boolean) 1 := ⟨tb_at 277 (by decide +kernel) (by decide +kernel), tb_at 3 (by decide +kernel) (by decide +kernel), by decide, by decide, by decide +kernel⟩
theorem im_X5_isWait : Cond.instanceMethod yX5_isWait ∈ TB := tb_at 275 (by decide +kernel) (by decide +kernel)
theorem se_X5_isWait : Cond.selects RX5 yX5_isWait yX5_isWait ∈ TB := tb_at 276 (by decide +kernel) (by decide +kernel)
theorem cal_X5_lengthOf : Cal yX5_lengthOf cX5_lengthOf 2 (some .int) 1 := ⟨tb_at 290 (by decide +kernel) (by decide +kernel), tb_at 3 (by decide +kernel) (by decide +kernel), by decide, by decide, by decide +kernel⟩
theorem im_X5_lengthOf : Cond.instanceMethod yX5_lengthOf ∈ TB := tb_at 289 (by decide +kernel) (by decide +kernel)
theorem se_X5_lengthOf : Cond.selects RX5 yX5_lengthOf yX5_lengthOf ∈ TB := tb_sel 7 (by decide +kernel) (by decide +kernel)
theorem cal_X5_stepsLeftOf : Cal yX5_stepsLeftOf cX5_stepsLeftOf 2 (some .int) 1 := ⟨tb_at 282 (by decide +kernel) (by decide +kernel), tb_at 3 (by decide +kernel) (by decide +kernel), by decide, by decide, by decide +kernel⟩
theorem im_X5_stepsLeftOf : Cond.instanceMethod yX5_stepsLeftOf ∈ TB := tb_at 280 (by decide +kernel) (by decide +kernel)
theorem se_X5_stepsLeftOf : Cond.selects RX5 yX5_stepsLeftOf yX5_stepsLeftOf ∈ TB := tb_at 281 (by decide +kernel) (by decide +kernel)
theorem cal_X5_addItem : Cal yX5_addItem cX5_addItem 4 none 3 := ⟨tb_at 228 (by decide +kernel) (by decide +kernel), tb_at 3 (by decide +kernel) (by decide +kernel), by decide, by decide, by decide +kernel⟩
theorem im_X5_addItem : Cond.instanceMethod yX5_addItem ∈ TB := tb_at 226 (by decide +kernel) (by decide +kernel)
theorem se_X5_addItem : Cond.selects RX5 yX5_addItem yX5_addItem ∈ TB := tb_at 227 (by decide +kernel) (by decide +kernel)
theorem cal_X5_dropItem : Cal yX5_dropItem cX5_dropItem 3 none 1 := ⟨tb_at 422 (by decide +kernel) (by decide +kernel), tb_at 3 (by decide +kernel) (by decide +kernel), by decide, by decide, by decide +kernel⟩
theorem im_X5_dropItem : Cond.instanceMethod yX5_dropItem ∈ TB := tb_at 420 (by decide +kernel) (by decide +kernel)
theorem se_X5_dropItem : Cond.selects RX5 yX5_dropItem yX5_dropItem ∈ TB := tb_at 421 (by decide +kernel) (by decide +kernel)
theorem cal_X5_halt : Cal yX5_halt cX5_halt 1 (some .int) 0 := ⟨tb_at 466 (by decide +kernel) (by decide +kernel), tb_at 3 (by decide +kernel) (by decide +kernel), by decide, by decide, by decide +kernel⟩
theorem im_X5_halt : Cond.instanceMethod yX5_halt ∈ TB := tb_at 464 (by decide +kernel) (by decide +kernel)
theorem se_X5_halt : Cond.selects RX5 yX5_halt yX5_halt ∈ TB := tb_at 465 (by decide +kernel) (by decide +kernel)
theorem cal_X5_advance : Cal yX5_advance cX5_advance 9 (some .int) 3 := ⟨tb_at 412 (by decide +kernel) (by decide +kernel), tb_at 3 (by decide +kernel) (by decide +kernel), by decide, by decide, by decide +kernel⟩
theorem im_X5_advance : Cond.instanceMethod yX5_advance ∈ TB := tb_at 410 (by decide +kernel) (by decide +kernel)
theorem se_X5_advance : Cond.selects RX5 yX5_advance yX5_advance ∈ TB := tb_at 411 (by decide +kernel) (by decide +kernel)
theorem cal_X5_passWait : Cal yX5_passWait cX5_passWait 3 (some .int) 2 := ⟨tb_at 418 (by decide +kernel) (by decide +kernel), tb_at 3 (by decide +kernel) (by decide +kernel), by decide, by decide, by decide +kernel⟩
theorem im_X5_passWait : Cond.instanceMethod yX5_passWait ∈ TB := tb_at 417 (by decide +kernel) (by decide +kernel)
theorem se_X5_passWait : Cond.selects RX5 yX5_passWait yX5_passWait ∈ TB := tb_sel 13 (by decide +kernel) (by decide +kernel)
theorem cal_X5_advanceMove : Cal yX5_advanceMove cX5_advanceMove 6 (some .int) 3 := ⟨tb_at 426 (by decide +kernel) (by decide +kernel), tb_at 3 (by decide +kernel) (by decide +kernel), by decide, by decide, by decide +kernel⟩
theorem im_X5_advanceMove : Cond.instanceMethod yX5_advanceMove ∈ TB := tb_at 425 (by decide +kernel) (by decide +kernel)
theorem se_X5_advanceMove : Cond.selects RX5 yX5_advanceMove yX5_advanceMove ∈ TB := tb_sel 14 (by decide +kernel) (by decide +kernel)
theorem cal_X5_passWholeMove : Cal yX5_passWholeMove cX5_passWholeMove 2 none 1 := ⟨tb_at 436 (by decide +kernel) (by decide +kernel), tb_at 3 (by decide +kernel) (by decide +kernel), by decide, by decide, by decide +kernel⟩
theorem im_X5_passWholeMove : Cond.instanceMethod yX5_passWholeMove ∈ TB := tb_at 435 (by decide +kernel) (by decide +kernel)
theorem se_X5_passWholeMove : Cond.selects RX5 yX5_passWholeMove yX5_passWholeMove ∈ TB := tb_sel 15 (by decide +kernel) (by decide +kernel)
theorem cal_X5_makeSteps : Cal yX5_makeSteps cX5_makeSteps 8 none 3 := ⟨tb_at 441 (by decide +kernel) (by decide +kernel), tb_at 3 (by decide +kernel) (by decide +kernel), by decide, by decide, by decide +kernel⟩
theorem im_X5_makeSteps : Cond.instanceMethod yX5_makeSteps ∈ TB := tb_at 440 (by decide +kernel) (by decide +kernel)
theorem se_X5_makeSteps : Cond.selects RX5 yX5_makeSteps yX5_makeSteps ∈ TB := tb_sel 16 (by decide +kernel) (by decide +kernel)
theorem cal_X5_nextIndex : Cal yX5_nextIndex cX5_nextIndex 3 (some .int) 1 := ⟨tb_at 445 (by decide +kernel) (by decide +kernel), tb_at 3 (by decide +kernel) (by decide +kernel), by decide, by decide, by decide +kernel⟩
theorem im_X5_nextIndex : Cond.instanceMethod yX5_nextIndex ∈ TB := tb_at 444 (by decide +kernel) (by decide +kernel)
theorem se_X5_nextIndex : Cond.selects RX5 yX5_nextIndex yX5_nextIndex ∈ TB := tb_sel 17 (by decide +kernel) (by decide +kernel)
theorem cal_X5_moveAxes : Cal yX5_moveAxes cX5_moveAxes 3 none 1 := ⟨tb_at 450 (by decide +kernel) (by decide +kernel), tb_at 3 (by decide +kernel) (by decide +kernel), by decide, by decide, by decide +kernel⟩
theorem im_X5_moveAxes : Cond.instanceMethod yX5_moveAxes ∈ TB := tb_at 449 (by decide +kernel) (by decide +kernel)
theorem se_X5_moveAxes : Cond.selects RX5 yX5_moveAxes yX5_moveAxes ∈ TB := tb_sel 18 (by decide +kernel) (by decide +kernel)
theorem cal_X5_way : Cal yX5_way cX5_way 4 (some .int) 3 := ⟨tb_at 453 (by decide +kernel) (by decide +kernel), tb_at 3 (by decide +kernel) (by decide +kernel), by decide, by decide, by decide +kernel⟩
theorem sc_X5_way : Cond.static yX5_way ∈ TB := tb_at 452 (by decide +kernel) (by decide +kernel)
theorem cal_X6_isAxis : Cal yX6_isAxis cX6_isAxis 1 (some .boolean) 1 := ⟨tb_at 252 (by decide +kernel) (by decide +kernel), tb_at 1 (by decide +kernel) (by decide +kernel), by decide, by decide, by decide +kernel⟩
theorem sc_X6_isAxis : Cond.static yX6_isAxis ∈ TB := tb_at 251 (by decide +kernel) (by decide +kernel)
theorem cal_X6_isSlot : Cal yX6_isSlot cX6_isSlot 1 (some .boolean) 1 := ⟨tb_at 536 (by decide +kernel) (by decide +kernel), tb_at 1 (by decide +kernel) (by decide +kernel), by decide, by decide, by decide +kernel⟩
theorem sc_X6_isSlot : Cond.static yX6_isSlot ∈ TB := tb_at 535 (by decide +kernel) (by decide +kernel)
theorem cal_X6_isIndex : Cal yX6_isIndex cX6_isIndex 1 (some .boolean) 1 := ⟨tb_at 351 (by decide +kernel) (by decide +kernel), tb_at 1 (by decide +kernel) (by decide +kernel), by decide, by decide, by decide +kernel⟩
theorem sc_X6_isIndex : Cond.static yX6_isIndex ∈ TB := tb_at 350 (by decide +kernel) (by decide +kernel)
theorem cal_X6_isPositive : Cal yX6_isPositive cX6_isPositive 2 (some .boolean) 2 := ⟨tb_at 371 (by decide +kernel) (by decide +kernel), tb_at 1 (by decide +kernel) (by decide +kernel), by decide, by decide, by decide +kernel⟩
theorem sc_X6_isPositive : Cond.static yX6_isPositive ∈ TB := tb_at 370 (by decide +kernel) (by decide +kernel)
theorem cal_X6_isDistance : Cal yX6_isDistance cX6_isDistance 1 (some .boolean) 1 := ⟨tb_at 397 (by decide +kernel) (by decide +kernel), tb_at 1 (by decide +kernel) (by decide +kernel), by decide, by decide, by decide +kernel⟩
theorem sc_X6_isDistance : Cond.static yX6_isDistance ∈ TB := tb_at 396 (by decide +kernel) (by decide +kernel)
theorem cal_X6_slotAt : Cal yX6_slotAt cX6_slotAt 2 (some (.object RX3)) 1 := ⟨tb_at 540 (by decide +kernel) (by decide +kernel), tb_at 1 (by decide +kernel) (by decide +kernel), by decide, by decide, by decide +kernel⟩
theorem im_X6_slotAt : Cond.instanceMethod yX6_slotAt ∈ TB := tb_at 539 (by decide +kernel) (by decide +kernel)
theorem se_X6_slotAt : Cond.selects RX6 yX6_slotAt yX6_slotAt ∈ TB := tb_sel 20 (by decide +kernel) (by decide +kernel)
theorem cal_X6_presentRamp : Cal yX6_presentRamp cX6_presentRamp 1 (some (.object RX2)) 0 := ⟨tb_at 309 (by decide +kernel) (by decide +kernel), tb_at 1 (by decide +kernel) (by decide +kernel), by decide, by decide, by decide +kernel⟩
theorem im_X6_presentRamp : Cond.instanceMethod yX6_presentRamp ∈ TB := tb_at 308 (by decide +kernel) (by decide +kernel)
theorem se_X6_presentRamp : Cond.selects RX6 yX6_presentRamp yX6_presentRamp ∈ TB := tb_sel 8 (by decide +kernel) (by decide +kernel)
theorem cal_X6_succeeds : Cal yX6_succeeds cX6_succeeds 3 (some .boolean) 1 := ⟨tb_at 523 (by decide +kernel) (by decide +kernel), tb_at 1 (by decide +kernel) (by decide +kernel), by decide, by decide, by decide +kernel⟩
theorem im_X6_succeeds : Cond.instanceMethod yX6_succeeds ∈ TB := tb_at 522 (by decide +kernel) (by decide +kernel)
theorem se_X6_succeeds : Cond.selects RX6 yX6_succeeds yX6_succeeds ∈ TB := tb_sel 19 (by decide +kernel) (by decide +kernel)
theorem cal_X7_in : Cal yX7_in cX7_in 6 (some .boolean) 3 := ⟨tb_at 611 (by decide +kernel) (by decide +kernel), tb_at 7 (by decide +kernel) (by decide +kernel), by decide, by decide, by decide +kernel⟩
theorem sc_X7_in : Cond.static yX7_in ∈ TB := tb_at 610 (by decide +kernel) (by decide +kernel)
theorem cal_X7_copy : Cal yX7_copy cX7_copy 3 none 2 := ⟨tb_at 650 (by decide +kernel) (by decide +kernel), tb_at 7 (by decide +kernel) (by decide +kernel), by decide, by decide, by decide +kernel⟩
theorem sc_X7_copy : Cond.static yX7_copy ∈ TB := tb_at 649 (by decide +kernel) (by decide +kernel)
theorem cal_X7_abs : Cal yX7_abs cX7_abs 1 (some .int) 1 := ⟨tb_at 676 (by decide +kernel) (by decide +kernel), tb_at 7 (by decide +kernel) (by decide +kernel), by decide, by decide, by decide +kernel⟩
theorem sc_X7_abs : Cond.static yX7_abs ∈ TB := tb_at 675 (by decide +kernel) (by decide +kernel)
theorem cal_X7_squareRoot : Cal yX7_squareRoot cX7_squareRoot 7 (some .int) 1 := ⟨tb_at 704 (by decide +kernel) (by decide +kernel), tb_at 7 (by decide +kernel) (by decide +kernel), by decide, by decide, by decide +kernel⟩
theorem sc_X7_squareRoot : Cond.static yX7_squareRoot ∈ TB := tb_at 703 (by decide +kernel) (by decide +kernel)
theorem cal_X7_layRoots : Cal yX7_layRoots cX7_layRoots 3 none 2 := ⟨tb_at 700 (by decide +kernel) (by decide +kernel), tb_at 7 (by decide +kernel) (by decide +kernel), by decide, by decide, by decide +kernel⟩
theorem im_X7_layRoots : Cond.instanceMethod yX7_layRoots ∈ TB := tb_at 699 (by decide +kernel) (by decide +kernel)
theorem se_X7_layRoots : Cond.selects RX7 yX7_layRoots yX7_layRoots ∈ TB := tb_sel 29 (by decide +kernel) (by decide +kernel)
theorem cal_X7_rampOf : Cal yX7_rampOf cX7_rampOf 3 (some .int) 2 := ⟨tb_at 696 (by decide +kernel) (by decide +kernel), tb_at 7 (by decide +kernel) (by decide +kernel), by decide, by decide, by decide +kernel⟩
theorem im_X7_rampOf : Cond.instanceMethod yX7_rampOf ∈ TB := tb_at 695 (by decide +kernel) (by decide +kernel)
theorem se_X7_rampOf : Cond.selects RX7 yX7_rampOf yX7_rampOf ∈ TB := tb_sel 28 (by decide +kernel) (by decide +kernel)
theorem cal_X7_cruiseOf : Cal yX7_cruiseOf cX7_cruiseOf 1 (some .int) 1 := ⟨tb_at 707 (by decide +kernel) (by decide +kernel), tb_at 7 (by decide +kernel) (by decide +kernel), by decide, by decide, by decide +kernel⟩
theorem sc_X7_cruiseOf : Cond.static yX7_cruiseOf ∈ TB := tb_at 706 (by decide +kernel) (by decide +kernel)
theorem cal_X7_topOf : Cal yX7_topOf cX7_topOf 5 (some .int) 3 := ⟨tb_at 692 (by decide +kernel) (by decide +kernel), tb_at 7 (by decide +kernel) (by decide +kernel), by decide, by decide, by decide +kernel⟩
theorem im_X7_topOf : Cond.instanceMethod yX7_topOf ∈ TB := tb_at 691 (by decide +kernel) (by decide +kernel)
theorem se_X7_topOf : Cond.selects RX7 yX7_topOf yX7_topOf ∈ TB := tb_sel 27 (by decide +kernel) (by decide +kernel)
theorem cal_X7_fullTop : Cal yX7_fullTop cX7_fullTop 3 (some .int) 2 := ⟨tb_at 688 (by decide +kernel) (by decide +kernel), tb_at 7 (by decide +kernel) (by decide +kernel), by decide, by decide, by decide +kernel⟩
theorem im_X7_fullTop : Cond.instanceMethod yX7_fullTop ∈ TB := tb_at 687 (by decide +kernel) (by decide +kernel)
theorem se_X7_fullTop : Cond.selects RX7 yX7_fullTop yX7_fullTop ∈ TB := tb_sel 26 (by decide +kernel) (by decide +kernel)
theorem cal_X7_intervalOf : Cal yX7_intervalOf cX7_intervalOf 5 (some .int) 3 := ⟨tb_at 715 (by decide +kernel) (by decide +kernel), tb_at 7 (by decide +kernel) (by decide +kernel), by decide, by decide, by decide +kernel⟩
theorem im_X7_intervalOf : Cond.instanceMethod yX7_intervalOf ∈ TB := tb_at 714 (by decide +kernel) (by decide +kernel)
theorem se_X7_intervalOf : Cond.selects RX7 yX7_intervalOf yX7_intervalOf ∈ TB := tb_sel 30 (by decide +kernel) (by decide +kernel)
theorem cal_X7_indexAfter : Cal yX7_indexAfter cX7_indexAfter 4 (some .int) 3 := ⟨tb_at 763 (by decide +kernel) (by decide +kernel), tb_at 7 (by decide +kernel) (by decide +kernel), by decide, by decide, by decide +kernel⟩
theorem sc_X7_indexAfter : Cond.static yX7_indexAfter ∈ TB := tb_at 762 (by decide +kernel) (by decide +kernel)
theorem cal_X7_ticksOf : Cal yX7_ticksOf cX7_ticksOf 8 (some .int) 3 := ⟨tb_at 808 (by decide +kernel) (by decide +kernel), tb_at 7 (by decide +kernel) (by decide +kernel), by decide, by decide, by decide +kernel⟩
theorem im_X7_ticksOf : Cond.instanceMethod yX7_ticksOf ∈ TB := tb_at 807 (by decide +kernel) (by decide +kernel)
theorem se_X7_ticksOf : Cond.selects RX7 yX7_ticksOf yX7_ticksOf ∈ TB := tb_sel 37 (by decide +kernel) (by decide +kernel)
theorem cal_X7_takes : Cal yX7_takes cX7_takes 3 (some .boolean) 1 := ⟨tb_at 627 (by decide +kernel) (by decide +kernel), tb_at 7 (by decide +kernel) (by decide +kernel), by decide, by decide, by decide +kernel⟩
theorem im_X7_takes : Cond.instanceMethod yX7_takes ∈ TB := tb_at 626 (by decide +kernel) (by decide +kernel)
theorem se_X7_takes : Cond.selects RX7 yX7_takes yX7_takes ∈ TB := tb_sel 22 (by decide +kernel) (by decide +kernel)
theorem cal_X7_number : Cal yX7_number cX7_number 6 (some .int) 2 := ⟨tb_at 631 (by decide +kernel) (by decide +kernel), tb_at 7 (by decide +kernel) (by decide +kernel), by decide, by decide, by decide +kernel⟩
theorem im_X7_number : Cond.instanceMethod yX7_number ∈ TB := tb_at 630 (by decide +kernel) (by decide +kernel)
theorem se_X7_number : Cond.selects RX7 yX7_number yX7_number ∈ TB := tb_sel 23 (by decide +kernel) (by decide +kernel)
theorem cal_X7_signedNumber : Cal yX7_signedNumber cX7_signedNumber 4 (some .int) 1 := ⟨tb_at 640 (by decide +kernel) (by decide +kernel), tb_at 7 (by decide +kernel) (by decide +kernel), by decide, by decide, by decide +kernel⟩
theorem im_X7_signedNumber : Cond.instanceMethod yX7_signedNumber ∈ TB := tb_at 639 (by decide +kernel) (by decide +kernel)
theorem se_X7_signedNumber : Cond.selects RX7 yX7_signedNumber yX7_signedNumber ∈ TB := tb_sel 25 (by decide +kernel) (by decide +kernel)
theorem cal_X7_readItem : Cal yX7_readItem cX7_readItem 2 (some .boolean) 0 := ⟨tb_at 636 (by decide +kernel) (by decide +kernel), tb_at 7 (by decide +kernel) (by decide +kernel), by decide, by decide, by decide +kernel⟩
theorem im_X7_readItem : Cond.instanceMethod yX7_readItem ∈ TB := tb_at 635 (by decide +kernel) (by decide +kernel)
theorem se_X7_readItem : Cond.selects RX7 yX7_readItem yX7_readItem ∈ TB := tb_sel 24 (by decide +kernel) (by decide +kernel)
theorem cal_X7_readText : Cal yX7_readText cX7_readText 2 (some .int) 0 := ⟨tb_at 623 (by decide +kernel) (by decide +kernel), tb_at 7 (by decide +kernel) (by decide +kernel), by decide, by decide, by decide +kernel⟩
theorem im_X7_readText : Cond.instanceMethod yX7_readText ∈ TB := tb_at 622 (by decide +kernel) (by decide +kernel)
theorem se_X7_readText : Cond.selects RX7 yX7_readText yX7_readText ∈ TB := tb_sel 21 (by decide +kernel) (by decide +kernel)
theorem cal_X7_lengthOf : Cal yX7_lengthOf cX7_lengthOf 4 (some .int) 2 := ⟨tb_at 673 (by decide +kernel) (by decide +kernel), tb_at 7 (by decide +kernel) (by decide +kernel), by decide, by decide, by decide +kernel⟩
theorem sc_X7_lengthOf : Cond.static yX7_lengthOf ∈ TB := tb_at 672 (by decide +kernel) (by decide +kernel)
theorem cal_X7_isUnderWay : Cal yX7_isUnderWay cX7_isUnderWay 1 (some .boolean) 1 := ⟨tb_at 670 (by decide +kernel) (by decide +kernel), tb_at 7 (by decide +kernel) (by decide +kernel), by decide, by decide, by decide +kernel⟩
theorem sc_X7_isUnderWay : Cond.static yX7_isUnderWay ∈ TB := tb_at 669 (by decide +kernel) (by decide +kernel)
theorem cal_X7_note : Cal yX7_note cX7_note 2 none 0 := ⟨tb_at 727 (by decide +kernel) (by decide +kernel), tb_at 7 (by decide +kernel) (by decide +kernel), by decide, by decide, by decide +kernel⟩
theorem im_X7_note : Cond.instanceMethod yX7_note ∈ TB := tb_at 726 (by decide +kernel) (by decide +kernel)
theorem se_X7_note : Cond.selects RX7 yX7_note yX7_note ∈ TB := tb_sel 31 (by decide +kernel) (by decide +kernel)
theorem cal_X7_addItem : Cal yX7_addItem cX7_addItem 5 (some .int) 3 := ⟨tb_at 739 (by decide +kernel) (by decide +kernel), tb_at 7 (by decide +kernel) (by decide +kernel), by decide, by decide, by decide +kernel⟩
theorem im_X7_addItem : Cond.instanceMethod yX7_addItem ∈ TB := tb_at 738 (by decide +kernel) (by decide +kernel)
theorem se_X7_addItem : Cond.selects RX7 yX7_addItem yX7_addItem ∈ TB := tb_sel 32 (by decide +kernel) (by decide +kernel)
theorem cal_X7_dropItem : Cal yX7_dropItem cX7_dropItem 3 none 2 := ⟨tb_at 766 (by decide +kernel) (by decide +kernel), tb_at 7 (by decide +kernel) (by decide +kernel), by decide, by decide, by decide +kernel⟩
theorem sc_X7_dropItem : Cond.static yX7_dropItem ∈ TB := tb_at 765 (by decide +kernel) (by decide +kernel)
theorem cal_X7_endMove : Cal yX7_endMove cX7_endMove 1 none 1 := ⟨tb_at 772 (by decide +kernel) (by decide +kernel), tb_at 7 (by decide +kernel) (by decide +kernel), by decide, by decide, by decide +kernel⟩
theorem sc_X7_endMove : Cond.static yX7_endMove ∈ TB := tb_at 771 (by decide +kernel) (by decide +kernel)
theorem cal_X7_nextIndex : Cal yX7_nextIndex cX7_nextIndex 2 (some .int) 1 := ⟨tb_at 760 (by decide +kernel) (by decide +kernel), tb_at 7 (by decide +kernel) (by decide +kernel), by decide, by decide, by decide +kernel⟩
theorem im_X7_nextIndex : Cond.instanceMethod yX7_nextIndex ∈ TB := tb_at 759 (by decide +kernel) (by decide +kernel)
theorem se_X7_nextIndex : Cond.selects RX7 yX7_nextIndex yX7_nextIndex ∈ TB := tb_sel 35 (by decide +kernel) (by decide +kernel)
theorem cal_X7_nextTicks : Cal yX7_nextTicks cX7_nextTicks 3 (some .int) 1 := ⟨tb_at 756 (by decide +kernel) (by decide +kernel), tb_at 7 (by decide +kernel) (by decide +kernel), by decide, by decide, by decide +kernel⟩
theorem im_X7_nextTicks : Cond.instanceMethod yX7_nextTicks ∈ TB := tb_at 755 (by decide +kernel) (by decide +kernel)
theorem se_X7_nextTicks : Cond.selects RX7 yX7_nextTicks yX7_nextTicks ∈ TB := tb_sel 34 (by decide +kernel) (by decide +kernel)
theorem cal_X7_gone : Cal yX7_gone cX7_gone 3 (some .int) 3 := ⟨tb_at 769 (by decide +kernel) (by decide +kernel), tb_at 7 (by decide +kernel) (by decide +kernel), by decide, by decide, by decide +kernel⟩
theorem sc_X7_gone : Cond.static yX7_gone ∈ TB := tb_at 768 (by decide +kernel) (by decide +kernel)
theorem cal_X7_stepIn : Cal yX7_stepIn cX7_stepIn 8 (some .int) 1 := ⟨tb_at 752 (by decide +kernel) (by decide +kernel), tb_at 7 (by decide +kernel) (by decide +kernel), by decide, by decide, by decide +kernel⟩
theorem im_X7_stepIn : Cond.instanceMethod yX7_stepIn ∈ TB := tb_at 751 (by decide +kernel) (by decide +kernel)
theorem se_X7_stepIn : Cond.selects RX7 yX7_stepIn yX7_stepIn ∈ TB := tb_sel 33 (by decide +kernel) (by decide +kernel)
theorem cal_X7_runIn : Cal yX7_runIn cX7_runIn 5 (some .int) 2 := ⟨tb_at 781 (by decide +kernel) (by decide +kernel), tb_at 7 (by decide +kernel) (by decide +kernel), by decide, by decide, by decide +kernel⟩
theorem im_X7_runIn : Cond.instanceMethod yX7_runIn ∈ TB := tb_at 780 (by decide +kernel) (by decide +kernel)
theorem se_X7_runIn : Cond.selects RX7 yX7_runIn yX7_runIn ∈ TB := tb_sel 36 (by decide +kernel) (by decide +kernel)
theorem cal_X7_stopIn : Cal yX7_stopIn cX7_stopIn 2 (some .int) 1 := ⟨tb_at 788 (by decide +kernel) (by decide +kernel), tb_at 7 (by decide +kernel) (by decide +kernel), by decide, by decide, by decide +kernel⟩
theorem sc_X7_stopIn : Cond.static yX7_stopIn ∈ TB := tb_at 787 (by decide +kernel) (by decide +kernel)
theorem cal_X7_command : Cal yX7_command cX7_command 5 (some .boolean) 2 := ⟨tb_at 833 (by decide +kernel) (by decide +kernel), tb_at 7 (by decide +kernel) (by decide +kernel), by decide, by decide, by decide +kernel⟩
theorem im_X7_command : Cond.instanceMethod yX7_command ∈ TB := tb_at 832 (by decide +kernel) (by decide +kernel)
theorem se_X7_command : Cond.selects RX7 yX7_command yX7_command ∈ TB := tb_sel 38 (by decide +kernel) (by decide +kernel)
theorem cal_X7_tenThousands : Cal yX7_tenThousands cX7_tenThousands 4 (some .long) 1 := ⟨tb_at 828 (by decide +kernel) (by decide +kernel), tb_at 7 (by decide +kernel) (by decide +kernel), by decide, by decide, by decide +kernel⟩
theorem sc_X7_tenThousands : Cond.static yX7_tenThousands ∈ TB := tb_at 827 (by decide +kernel) (by decide +kernel)
theorem cal_J9_floorMod_7cf53 : Cal yJ9_floorMod_7cf53 cJ9_floorMod_7cf53 3 (some .int) 2 := ⟨tb_at 382 (by decide +kernel) (by decide +kernel), tb_at 8 (by decide +kernel) (by decide +kernel), by decide, by decide, by decide +kernel⟩
theorem sc_J9_floorMod_7cf53 : Cond.static yJ9_floorMod_7cf53 ∈ TB := tb_at 381 (by decide +kernel) (by decide +kernel)
theorem cal_J9_abs_0f7a4 : Cal yJ9_abs_0f7a4 cJ9_abs_0f7a4 1 (some .int) 1 := ⟨tb_at 293 (by decide +kernel) (by decide +kernel), tb_at 8 (by decide +kernel) (by decide +kernel), by decide, by decide, by decide +kernel⟩
theorem sc_J9_abs_0f7a4 : Cond.static yJ9_abs_0f7a4 ∈ TB := tb_at 292 (by decide +kernel) (by decide +kernel)
theorem cal_J9_max_7cf53 : Cal yJ9_max_7cf53 cJ9_max_7cf53 2 (some .int) 2 := ⟨tb_at 296 (by decide +kernel) (by decide +kernel), tb_at 8 (by decide +kernel) (by decide +kernel), by decide, by decide, by decide +kernel⟩
theorem sc_J9_max_7cf53 : Cond.static yJ9_max_7cf53 ∈ TB := tb_at 295 (by decide +kernel) (by decide +kernel)
theorem cal_J9_max_f86c9 : Cal yJ9_max_f86c9 cJ9_max_f86c9 4 (some .long) 2 := ⟨tb_at 519 (by decide +kernel) (by decide +kernel), tb_at 8 (by decide +kernel) (by decide +kernel), by decide, by decide, by decide +kernel⟩
theorem sc_J9_max_f86c9 : Cond.static yJ9_max_f86c9 ∈ TB := tb_at 518 (by decide +kernel) (by decide +kernel)
theorem cal_J9_min_7cf53 : Cal yJ9_min_7cf53 cJ9_min_7cf53 2 (some .int) 2 := ⟨tb_at 386 (by decide +kernel) (by decide +kernel), tb_at 8 (by decide +kernel) (by decide +kernel), by decide, by decide, by decide +kernel⟩
theorem sc_J9_min_7cf53 : Cond.static yJ9_min_7cf53 ∈ TB := tb_at 385 (by decide +kernel) (by decide +kernel)
theorem cal_J9_min_f86c9 : Cal yJ9_min_f86c9 cJ9_min_f86c9 4 (some .long) 2 := ⟨tb_at 340 (by decide +kernel) (by decide +kernel), tb_at 8 (by decide +kernel) (by decide +kernel), by decide, by decide, by decide +kernel⟩
theorem sc_J9_min_f86c9 : Cond.static yJ9_min_f86c9 ∈ TB := tb_at 339 (by decide +kernel) (by decide +kernel)
end
section
section FIELDS
variable {p : Program} {l : Launch} {e : Env} {R : Room} {s : State} {m : MethodId} {args : Array Value} {below : List Frame} {meth : Method} {c : Code} {H : Heap} {locs : List Loc} {cells slots : Nat} {Q : State → Prop} {g : GG} {cc : ByteArray} {own : String} {nL pc : Nat} {ls : Array Slot} {rest : List Value} {I : Mem}
theorem inX0 : ∀ w ∈ u_ws RX0 TX0 3, w ∈ TB := by decide +kernel
theorem g0_0_t {k : Nat} (hk : tag k = 0) : tag (k + 1) = 9 := tgA 0 1 9 (by decide +kernel) (by decide) hk
theorem g0_0 {k index : Nat} (X : Cx g p s m args c cc own nL) (hP : Wp g I H) (hk : tag k = 0) (hlink : Cond.fieldLink own index RX0 "ring" "[LStepperPlanner$State;" ∈ TB) (hd : decode cc pc = .ok (.getfield index, 3)) (kk : W p l e R s m args below meth c H locs cells slots Q (F0 m (pc + 3) ls (.ref (ga g (k + 1)) :: rest))) : W p l e R s m args below meth c H locs cells slots Q (F0 m pc ls (.ref (ga g k) :: rest)) :=
  r_get (j := 0) X hP (tag_lt hk (by decide)) (by rw [lay, hk]; rfl) rfl inX0 (by decide) hlink rfl hd kk
theorem g0_1 {k index : Nat} (X : Cx g p s m args c cc own nL) (hP : Wp g I H) (hk : tag k = 0) (hlink : Cond.fieldLink own index RX0 "end" "I" ∈ TB) (hd : decode cc pc = .ok (.getfield index, 3)) (kk : W p l e R s m args below meth c H locs cells slots Q (F0 m (pc + 3) ls (.int (I k 1) :: rest))) : W p l e R s m args below meth c H locs cells slots Q (F0 m pc ls (.ref (ga g k) :: rest)) :=
  r_get (j := 1) X hP (tag_lt hk (by decide)) (by rw [lay, hk]; rfl) rfl inX0 (by decide) hlink rfl hd kk
theorem p0_1 {k index : Nat} {x : Int32} {I1 : Mem} (X : Cx g p s m args c cc own nL) (hP : Wp g I H) (hS : va_S (gA g) s.heap H locs) (hk : tag k = 0) (hlink : Cond.fieldLink own index RX0 "end" "I" ∈ TB) (hI : I1 = st I k 1 x) (hd : decode cc pc = .ok (.putfield index, 3)) (kk : ∀ (H1 : Heap) (locs1 : List Loc), Wp g I1 H1 → va_S (gA g) s.heap H1 locs1 → W p l e R s m args below meth c H1 locs1 cells slots Q (F0 m (pc + 3) ls rest)) : W p l e R s m args below meth c H locs cells slots Q (F0 m pc ls (.int x :: .ref (ga g k) :: rest)) := by
  subst hI
  exact r_put (ty := .int) (j := 1) X hP hS (tag_lt hk (by decide)) (by rw [lay, hk]; rfl) rfl inX0 tyX0 tyX0_ok nmX0 (by decide) hlink rfl (by decide +kernel) rfl rfl (Nat.le_of_ble_eq_true rfl) hd (fun H1 locs1 hP1 hS1 => kk H1 locs1 (by rw [lay_put (j := 1) (v := x) (by rw [hk]; rfl)] at hP1; exact hP1) hS1)
theorem g0_2 {k index : Nat} (X : Cx g p s m args c cc own nL) (hP : Wp g I H) (hk : tag k = 0) (hlink : Cond.fieldLink own index RX0 "count" "I" ∈ TB) (hd : decode cc pc = .ok (.getfield index, 3)) (kk : W p l e R s m args below meth c H locs cells slots Q (F0 m (pc + 3) ls (.int (I k 2) :: rest))) : W p l e R s m args below meth c H locs cells slots Q (F0 m pc ls (.ref (ga g k) :: rest)) :=
  r_get (j := 2) X hP (tag_lt hk (by decide)) (by rw [lay, hk]; rfl) rfl inX0 (by decide) hlink rfl hd kk
theorem p0_2 {k index : Nat} {x : Int32} {I1 : Mem} (X : Cx g p s m args c cc own nL) (hP : Wp g I H) (hS : va_S (gA g) s.heap H locs) (hk : tag k = 0) (hlink : Cond.fieldLink own index RX0 "count" "I" ∈ TB) (hI : I1 = st I k 2 x) (hd : decode cc pc = .ok (.putfield index, 3)) (kk : ∀ (H1 : Heap) (locs1 : List Loc), Wp g I1 H1 → va_S (gA g) s.heap H1 locs1 → W p l e R s m args below meth c H1 locs1 cells slots Q (F0 m (pc + 3) ls rest)) : W p l e R s m args below meth c H locs cells slots Q (F0 m pc ls (.int x :: .ref (ga g k) :: rest)) := by
  subst hI
  exact r_put (ty := .int) (j := 2) X hP hS (tag_lt hk (by decide)) (by rw [lay, hk]; rfl) rfl inX0 tyX0 tyX0_ok nmX0 (by decide) hlink rfl (by decide +kernel) rfl rfl (Nat.le_of_ble_eq_true rfl) hd (fun H1 locs1 hP1 hS1 => kk H1 locs1 (by rw [lay_put (j := 2) (v := x) (by rw [hk]; rfl)] at hP1; exact hP1) hS1)
theorem inX2 : ∀ w ∈ u_ws RX2 TX2 5, w ∈ TB := by decide +kernel
theorem g2_0 {k index : Nat} (X : Cx g p s m args c cc own nL) (hP : Wp g I H) (hk : tag k = 1) (hlink : Cond.fieldLink own index RX2 "acceleration" "I" ∈ TB) (hd : decode cc pc = .ok (.getfield index, 3)) (kk : W p l e R s m args below meth c H locs cells slots Q (F0 m (pc + 3) ls (.int (I k 0) :: rest))) : W p l e R s m args below meth c H locs cells slots Q (F0 m pc ls (.ref (ga g k) :: rest)) :=
  r_get (j := 0) X hP (tag_lt hk (by decide)) (by rw [lay, hk]; rfl) rfl inX2 (by decide) hlink rfl hd kk
theorem p2_0 {k index : Nat} {x : Int32} {I1 : Mem} (X : Cx g p s m args c cc own nL) (hP : Wp g I H) (hS : va_S (gA g) s.heap H locs) (hk : tag k = 1) (hlink : Cond.fieldLink own index RX2 "acceleration" "I" ∈ TB) (hI : I1 = st I k 0 x) (hd : decode cc pc = .ok (.putfield index, 3)) (kk : ∀ (H1 : Heap) (locs1 : List Loc), Wp g I1 H1 → va_S (gA g) s.heap H1 locs1 → W p l e R s m args below meth c H1 locs1 cells slots Q (F0 m (pc + 3) ls rest)) : W p l e R s m args below meth c H locs cells slots Q (F0 m pc ls (.int x :: .ref (ga g k) :: rest)) := by
  subst hI
  exact r_put (ty := .int) (j := 0) X hP hS (tag_lt hk (by decide)) (by rw [lay, hk]; rfl) rfl inX2 tyX2 tyX2_ok nmX2 (by decide) hlink rfl (by decide +kernel) rfl rfl (Nat.le_of_ble_eq_true rfl) hd (fun H1 locs1 hP1 hS1 => kk H1 locs1 (by rw [lay_put (j := 0) (v := x) (by rw [hk]; rfl)] at hP1; exact hP1) hS1)
theorem g2_1 {k index : Nat} (X : Cx g p s m args c cc own nL) (hP : Wp g I H) (hk : tag k = 1) (hlink : Cond.fieldLink own index RX2 "speedLimit" "I" ∈ TB) (hd : decode cc pc = .ok (.getfield index, 3)) (kk : W p l e R s m args below meth c H locs cells slots Q (F0 m (pc + 3) ls (.int (I k 1) :: rest))) : W p l e R s m args below meth c H locs cells slots Q (F0 m pc ls (.ref (ga g k) :: rest)) :=
  r_get (j := 1) X hP (tag_lt hk (by decide)) (by rw [lay, hk]; rfl) rfl inX2 (by decide) hlink rfl hd kk
theorem p2_1 {k index : Nat} {x : Int32} {I1 : Mem} (X : Cx g p s m args c cc own nL) (hP : Wp g I H) (hS : va_S (gA g) s.heap H locs) (hk : tag k = 1) (hlink : Cond.fieldLink own index RX2 "speedLimit" "I" ∈ TB) (hI : I1 = st I k 1 x) (hd : decode cc pc = .ok (.putfield index, 3)) (kk : ∀ (H1 : Heap) (locs1 : List Loc), Wp g I1 H1 → va_S (gA g) s.heap H1 locs1 → W p l e R s m args below meth c H1 locs1 cells slots Q (F0 m (pc + 3) ls rest)) : W p l e R s m args below meth c H locs cells slots Q (F0 m pc ls (.int x :: .ref (ga g k) :: rest)) := by
  subst hI
  exact r_put (ty := .int) (j := 1) X hP hS (tag_lt hk (by decide)) (by rw [lay, hk]; rfl) rfl inX2 tyX2 tyX2_ok nmX2 (by decide) hlink rfl (by decide +kernel) rfl rfl (Nat.le_of_ble_eq_true rfl) hd (fun H1 locs1 hP1 hS1 => kk H1 locs1 (by rw [lay_put (j := 1) (v := x) (by rw [hk]; rfl)] at hP1; exact hP1) hS1)
theorem g2_2 {k index : Nat} (X : Cx g p s m args c cc own nL) (hP : Wp g I H) (hk : tag k = 1) (hlink : Cond.fieldLink own index RX2 "cruise" "I" ∈ TB) (hd : decode cc pc = .ok (.getfield index, 3)) (kk : W p l e R s m args below meth c H locs cells slots Q (F0 m (pc + 3) ls (.int (I k 2) :: rest))) : W p l e R s m args below meth c H locs cells slots Q (F0 m pc ls (.ref (ga g k) :: rest)) :=
  r_get (j := 2) X hP (tag_lt hk (by decide)) (by rw [lay, hk]; rfl) rfl inX2 (by decide) hlink rfl hd kk
theorem p2_2 {k index : Nat} {x : Int32} {I1 : Mem} (X : Cx g p s m args c cc own nL) (hP : Wp g I H) (hS : va_S (gA g) s.heap H locs) (hk : tag k = 1) (hlink : Cond.fieldLink own index RX2 "cruise" "I" ∈ TB) (hI : I1 = st I k 2 x) (hd : decode cc pc = .ok (.putfield index, 3)) (kk : ∀ (H1 : Heap) (locs1 : List Loc), Wp g I1 H1 → va_S (gA g) s.heap H1 locs1 → W p l e R s m args below meth c H1 locs1 cells slots Q (F0 m (pc + 3) ls rest)) : W p l e R s m args below meth c H locs cells slots Q (F0 m pc ls (.int x :: .ref (ga g k) :: rest)) := by
  subst hI
  exact r_put (ty := .int) (j := 2) X hP hS (tag_lt hk (by decide)) (by rw [lay, hk]; rfl) rfl inX2 tyX2 tyX2_ok nmX2 (by decide) hlink rfl (by decide +kernel) rfl rfl (Nat.le_of_ble_eq_true rfl) hd (fun H1 locs1 hP1 hS1 => kk H1 locs1 (by rw [lay_put (j := 2) (v := x) (by rw [hk]; rfl)] at hP1; exact hP1) hS1)
theorem g2_3 {k index : Nat} (X : Cx g p s m args c cc own nL) (hP : Wp g I H) (hk : tag k = 1) (hlink : Cond.fieldLink own index RX2 "top" "I" ∈ TB) (hd : decode cc pc = .ok (.getfield index, 3)) (kk : W p l e R s m args below meth c H locs cells slots Q (F0 m (pc + 3) ls (.int (I k 3) :: rest))) : W p l e R s m args below meth c H locs cells slots Q (F0 m pc ls (.ref (ga g k) :: rest)) :=
  r_get (j := 3) X hP (tag_lt hk (by decide)) (by rw [lay, hk]; rfl) rfl inX2 (by decide) hlink rfl hd kk
theorem p2_3 {k index : Nat} {x : Int32} {I1 : Mem} (X : Cx g p s m args c cc own nL) (hP : Wp g I H) (hS : va_S (gA g) s.heap H locs) (hk : tag k = 1) (hlink : Cond.fieldLink own index RX2 "top" "I" ∈ TB) (hI : I1 = st I k 3 x) (hd : decode cc pc = .ok (.putfield index, 3)) (kk : ∀ (H1 : Heap) (locs1 : List Loc), Wp g I1 H1 → va_S (gA g) s.heap H1 locs1 → W p l e R s m args below meth c H1 locs1 cells slots Q (F0 m (pc + 3) ls rest)) : W p l e R s m args below meth c H locs cells slots Q (F0 m pc ls (.int x :: .ref (ga g k) :: rest)) := by
  subst hI
  exact r_put (ty := .int) (j := 3) X hP hS (tag_lt hk (by decide)) (by rw [lay, hk]; rfl) rfl inX2 tyX2 tyX2_ok nmX2 (by decide) hlink rfl (by decide +kernel) rfl rfl (Nat.le_of_ble_eq_true rfl) hd (fun H1 locs1 hP1 hS1 => kk H1 locs1 (by rw [lay_put (j := 3) (v := x) (by rw [hk]; rfl)] at hP1; exact hP1) hS1)
theorem g2_4_t {k : Nat} (hk : tag k = 1) : tag (k + 1) = 1011 := tgA 1 1 1011 (by decide +kernel) (by decide) hk
theorem g2_4 {k index : Nat} (X : Cx g p s m args c cc own nL) (hP : Wp g I H) (hk : tag k = 1) (hlink : Cond.fieldLink own index RX2 "roots" "[I" ∈ TB) (hd : decode cc pc = .ok (.getfield index, 3)) (kk : W p l e R s m args below meth c H locs cells slots Q (F0 m (pc + 3) ls (.ref (ga g (k + 1)) :: rest))) : W p l e R s m args below meth c H locs cells slots Q (F0 m pc ls (.ref (ga g k) :: rest)) :=
  r_get (j := 4) X hP (tag_lt hk (by decide)) (by rw [lay, hk]; rfl) rfl inX2 (by decide) hlink rfl hd kk
theorem inX3 : ∀ w ∈ u_ws RX3 TX3 2, w ∈ TB := by decide +kernel
theorem g3_0_t {k : Nat} (hk : tag k = 2) : tag (k + 1) = 4 := tgA 2 1 4 (by decide +kernel) (by decide) hk
theorem g3_0 {k index : Nat} (X : Cx g p s m args c cc own nL) (hP : Wp g I H) (hk : tag k = 2) (hlink : Cond.fieldLink own index RX3 "state" "LStepperPlanner$State;" ∈ TB) (hd : decode cc pc = .ok (.getfield index, 3)) (kk : W p l e R s m args below meth c H locs cells slots Q (F0 m (pc + 3) ls (.ref (ga g (k + 1)) :: rest))) : W p l e R s m args below meth c H locs cells slots Q (F0 m pc ls (.ref (ga g k) :: rest)) :=
  r_get (j := 0) X hP (tag_lt hk (by decide)) (by rw [lay, hk]; rfl) rfl inX3 (by decide) hlink rfl hd kk
theorem g3_1 {k index : Nat} (X : Cx g p s m args c cc own nL) (hP : Wp g I H) (hk : tag k = 2) (hlink : Cond.fieldLink own index RX3 "filled" "Z" ∈ TB) (hd : decode cc pc = .ok (.getfield index, 3)) (kk : W p l e R s m args below meth c H locs cells slots Q (F0 m (pc + 3) ls (.int (I k 1) :: rest))) : W p l e R s m args below meth c H locs cells slots Q (F0 m pc ls (.ref (ga g k) :: rest)) :=
  r_get (j := 1) X hP (tag_lt hk (by decide)) (by rw [lay, hk]; rfl) rfl inX3 (by decide) hlink rfl hd kk
theorem p3_1 {k index : Nat} {x : Int32} {I1 : Mem} (X : Cx g p s m args c cc own nL) (hP : Wp g I H) (hS : va_S (gA g) s.heap H locs) (hk : tag k = 2) (hlink : Cond.fieldLink own index RX3 "filled" "Z" ∈ TB) (hI : I1 = st I k 1 x) (hn : narrow .boolean (.int x) = .int x ∧ fits .boolean (.int x) = true) (hd : decode cc pc = .ok (.putfield index, 3)) (kk : ∀ (H1 : Heap) (locs1 : List Loc), Wp g I1 H1 → va_S (gA g) s.heap H1 locs1 → W p l e R s m args below meth c H1 locs1 cells slots Q (F0 m (pc + 3) ls rest)) : W p l e R s m args below meth c H locs cells slots Q (F0 m pc ls (.int x :: .ref (ga g k) :: rest)) := by
  subst hI
  exact r_put (ty := .boolean) (j := 1) X hP hS (tag_lt hk (by decide)) (by rw [lay, hk]; rfl) rfl inX3 tyX3 tyX3_ok nmX3 (by decide) hlink rfl (by decide +kernel) hn.1 hn.2 (Nat.le_of_ble_eq_true rfl) hd (fun H1 locs1 hP1 hS1 => kk H1 locs1 (by rw [lay_put (j := 1) (v := x) (by rw [hk]; rfl)] at hP1; exact hP1) hS1)
theorem inX4 : ∀ w ∈ u_ws RX4 TX4 4, w ∈ TB := by decide +kernel
theorem g4_0_t {k : Nat} (hk : tag k = 3) : tag (k + 1) = 90 := tgA 3 1 90 (by decide +kernel) (by decide) hk
theorem g4_0 {k index : Nat} (X : Cx g p s m args c cc own nL) (hP : Wp g I H) (hk : tag k = 3) (hlink : Cond.fieldLink own index RX4 "characters" "[I" ∈ TB) (hd : decode cc pc = .ok (.getfield index, 3)) (kk : W p l e R s m args below meth c H locs cells slots Q (F0 m (pc + 3) ls (.ref (ga g (k + 1)) :: rest))) : W p l e R s m args below meth c H locs cells slots Q (F0 m pc ls (.ref (ga g k) :: rest)) :=
  r_get (j := 0) X hP (tag_lt hk (by decide)) (by rw [lay, hk]; rfl) rfl inX4 (by decide) hlink rfl hd kk
theorem g4_1 {k index : Nat} (X : Cx g p s m args c cc own nL) (hP : Wp g I H) (hk : tag k = 3) (hlink : Cond.fieldLink own index RX4 "length" "I" ∈ TB) (hd : decode cc pc = .ok (.getfield index, 3)) (kk : W p l e R s m args below meth c H locs cells slots Q (F0 m (pc + 3) ls (.int (I k 1) :: rest))) : W p l e R s m args below meth c H locs cells slots Q (F0 m pc ls (.ref (ga g k) :: rest)) :=
  r_get (j := 1) X hP (tag_lt hk (by decide)) (by rw [lay, hk]; rfl) rfl inX4 (by decide) hlink rfl hd kk
theorem p4_1 {k index : Nat} {x : Int32} {I1 : Mem} (X : Cx g p s m args c cc own nL) (hP : Wp g I H) (hS : va_S (gA g) s.heap H locs) (hk : tag k = 3) (hlink : Cond.fieldLink own index RX4 "length" "I" ∈ TB) (hI : I1 = st I k 1 x) (hd : decode cc pc = .ok (.putfield index, 3)) (kk : ∀ (H1 : Heap) (locs1 : List Loc), Wp g I1 H1 → va_S (gA g) s.heap H1 locs1 → W p l e R s m args below meth c H1 locs1 cells slots Q (F0 m (pc + 3) ls rest)) : W p l e R s m args below meth c H locs cells slots Q (F0 m pc ls (.int x :: .ref (ga g k) :: rest)) := by
  subst hI
  exact r_put (ty := .int) (j := 1) X hP hS (tag_lt hk (by decide)) (by rw [lay, hk]; rfl) rfl inX4 tyX4 tyX4_ok nmX4 (by decide) hlink rfl (by decide +kernel) rfl rfl (Nat.le_of_ble_eq_true rfl) hd (fun H1 locs1 hP1 hS1 => kk H1 locs1 (by rw [lay_put (j := 1) (v := x) (by rw [hk]; rfl)] at hP1; exact hP1) hS1)
theorem g4_2 {k index : Nat} (X : Cx g p s m args c cc own nL) (hP : Wp g I H) (hk : tag k = 3) (hlink : Cond.fieldLink own index RX4 "at" "I" ∈ TB) (hd : decode cc pc = .ok (.getfield index, 3)) (kk : W p l e R s m args below meth c H locs cells slots Q (F0 m (pc + 3) ls (.int (I k 2) :: rest))) : W p l e R s m args below meth c H locs cells slots Q (F0 m pc ls (.ref (ga g k) :: rest)) :=
  r_get (j := 2) X hP (tag_lt hk (by decide)) (by rw [lay, hk]; rfl) rfl inX4 (by decide) hlink rfl hd kk
theorem p4_2 {k index : Nat} {x : Int32} {I1 : Mem} (X : Cx g p s m args c cc own nL) (hP : Wp g I H) (hS : va_S (gA g) s.heap H locs) (hk : tag k = 3) (hlink : Cond.fieldLink own index RX4 "at" "I" ∈ TB) (hI : I1 = st I k 2 x) (hd : decode cc pc = .ok (.putfield index, 3)) (kk : ∀ (H1 : Heap) (locs1 : List Loc), Wp g I1 H1 → va_S (gA g) s.heap H1 locs1 → W p l e R s m args below meth c H1 locs1 cells slots Q (F0 m (pc + 3) ls rest)) : W p l e R s m args below meth c H locs cells slots Q (F0 m pc ls (.int x :: .ref (ga g k) :: rest)) := by
  subst hI
  exact r_put (ty := .int) (j := 2) X hP hS (tag_lt hk (by decide)) (by rw [lay, hk]; rfl) rfl inX4 tyX4 tyX4_ok nmX4 (by decide) hlink rfl (by decide +kernel) rfl rfl (Nat.le_of_ble_eq_true rfl) hd (fun H1 locs1 hP1 hS1 => kk H1 locs1 (by rw [lay_put (j := 2) (v := x) (by rw [hk]; rfl)] at hP1; exact hP1) hS1)
theorem g4_3 {k index : Nat} (X : Cx g p s m args c cc own nL) (hP : Wp g I H) (hk : tag k = 3) (hlink : Cond.fieldLink own index RX4 "fault" "I" ∈ TB) (hd : decode cc pc = .ok (.getfield index, 3)) (kk : W p l e R s m args below meth c H locs cells slots Q (F0 m (pc + 3) ls (.int (I k 3) :: rest))) : W p l e R s m args below meth c H locs cells slots Q (F0 m pc ls (.ref (ga g k) :: rest)) :=
  r_get (j := 3) X hP (tag_lt hk (by decide)) (by rw [lay, hk]; rfl) rfl inX4 (by decide) hlink rfl hd kk
theorem p4_3 {k index : Nat} {x : Int32} {I1 : Mem} (X : Cx g p s m args c cc own nL) (hP : Wp g I H) (hS : va_S (gA g) s.heap H locs) (hk : tag k = 3) (hlink : Cond.fieldLink own index RX4 "fault" "I" ∈ TB) (hI : I1 = st I k 3 x) (hd : decode cc pc = .ok (.putfield index, 3)) (kk : ∀ (H1 : Heap) (locs1 : List Loc), Wp g I1 H1 → va_S (gA g) s.heap H1 locs1 → W p l e R s m args below meth c H1 locs1 cells slots Q (F0 m (pc + 3) ls rest)) : W p l e R s m args below meth c H locs cells slots Q (F0 m pc ls (.int x :: .ref (ga g k) :: rest)) := by
  subst hI
  exact r_put (ty := .int) (j := 3) X hP hS (tag_lt hk (by decide)) (by rw [lay, hk]; rfl) rfl inX4 tyX4 tyX4_ok nmX4 (by decide) hlink rfl (by decide +kernel) rfl rfl (Nat.le_of_ble_eq_true rfl) hd (fun H1 locs1 hP1 hS1 => kk H1 locs1 (by rw [lay_put (j := 3) (v := x) (by rw [hk]; rfl)] at hP1; exact hP1) hS1)
theorem inX5 : ∀ w ∈ u_ws RX5 TX5 12, w ∈ TB := by decide +kernel
theorem g5_0 {k index : Nat} (X : Cx g p s m args c cc own nL) (hP : Wp g I H) (hk : tag k = 4) (hlink : Cond.fieldLink own index RX5 "acceleration" "I" ∈ TB) (hd : decode cc pc = .ok (.getfield index, 3)) (kk : W p l e R s m args below meth c H locs cells slots Q (F0 m (pc + 3) ls (.int (I k 0) :: rest))) : W p l e R s m args below meth c H locs cells slots Q (F0 m pc ls (.ref (ga g k) :: rest)) :=
  r_get (j := 0) X hP (tag_lt hk (by decide)) (by rw [lay, hk]; rfl) rfl inX5 (by decide) hlink rfl hd kk
theorem p5_0 {k index : Nat} {x : Int32} {I1 : Mem} (X : Cx g p s m args c cc own nL) (hP : Wp g I H) (hS : va_S (gA g) s.heap H locs) (hk : tag k = 4) (hlink : Cond.fieldLink own index RX5 "acceleration" "I" ∈ TB) (hI : I1 = st I k 0 x) (hd : decode cc pc = .ok (.putfield index, 3)) (kk : ∀ (H1 : Heap) (locs1 : List Loc), Wp g I1 H1 → va_S (gA g) s.heap H1 locs1 → W p l e R s m args below meth c H1 locs1 cells slots Q (F0 m (pc + 3) ls rest)) : W p l e R s m args below meth c H locs cells slots Q (F0 m pc ls (.int x :: .ref (ga g k) :: rest)) := by
  subst hI
  exact r_put (ty := .int) (j := 0) X hP hS (tag_lt hk (by decide)) (by rw [lay, hk]; rfl) rfl inX5 tyX5 tyX5_ok nmX5 (by decide) hlink rfl (by decide +kernel) rfl rfl (Nat.le_of_ble_eq_true rfl) hd (fun H1 locs1 hP1 hS1 => kk H1 locs1 (by rw [lay_put (j := 0) (v := x) (by rw [hk]; rfl)] at hP1; exact hP1) hS1)
theorem g5_1 {k index : Nat} (X : Cx g p s m args c cc own nL) (hP : Wp g I H) (hk : tag k = 4) (hlink : Cond.fieldLink own index RX5 "speedLimit" "I" ∈ TB) (hd : decode cc pc = .ok (.getfield index, 3)) (kk : W p l e R s m args below meth c H locs cells slots Q (F0 m (pc + 3) ls (.int (I k 1) :: rest))) : W p l e R s m args below meth c H locs cells slots Q (F0 m pc ls (.ref (ga g k) :: rest)) :=
  r_get (j := 1) X hP (tag_lt hk (by decide)) (by rw [lay, hk]; rfl) rfl inX5 (by decide) hlink rfl hd kk
theorem p5_1 {k index : Nat} {x : Int32} {I1 : Mem} (X : Cx g p s m args c cc own nL) (hP : Wp g I H) (hS : va_S (gA g) s.heap H locs) (hk : tag k = 4) (hlink : Cond.fieldLink own index RX5 "speedLimit" "I" ∈ TB) (hI : I1 = st I k 1 x) (hd : decode cc pc = .ok (.putfield index, 3)) (kk : ∀ (H1 : Heap) (locs1 : List Loc), Wp g I1 H1 → va_S (gA g) s.heap H1 locs1 → W p l e R s m args below meth c H1 locs1 cells slots Q (F0 m (pc + 3) ls rest)) : W p l e R s m args below meth c H locs cells slots Q (F0 m pc ls (.int x :: .ref (ga g k) :: rest)) := by
  subst hI
  exact r_put (ty := .int) (j := 1) X hP hS (tag_lt hk (by decide)) (by rw [lay, hk]; rfl) rfl inX5 tyX5 tyX5_ok nmX5 (by decide) hlink rfl (by decide +kernel) rfl rfl (Nat.le_of_ble_eq_true rfl) hd (fun H1 locs1 hP1 hS1 => kk H1 locs1 (by rw [lay_put (j := 1) (v := x) (by rw [hk]; rfl)] at hP1; exact hP1) hS1)
theorem g5_2 {k index : Nat} (X : Cx g p s m args c cc own nL) (hP : Wp g I H) (hk : tag k = 4) (hlink : Cond.fieldLink own index RX5 "x" "I" ∈ TB) (hd : decode cc pc = .ok (.getfield index, 3)) (kk : W p l e R s m args below meth c H locs cells slots Q (F0 m (pc + 3) ls (.int (I k 2) :: rest))) : W p l e R s m args below meth c H locs cells slots Q (F0 m pc ls (.ref (ga g k) :: rest)) :=
  r_get (j := 2) X hP (tag_lt hk (by decide)) (by rw [lay, hk]; rfl) rfl inX5 (by decide) hlink rfl hd kk
theorem p5_2 {k index : Nat} {x : Int32} {I1 : Mem} (X : Cx g p s m args c cc own nL) (hP : Wp g I H) (hS : va_S (gA g) s.heap H locs) (hk : tag k = 4) (hlink : Cond.fieldLink own index RX5 "x" "I" ∈ TB) (hI : I1 = st I k 2 x) (hd : decode cc pc = .ok (.putfield index, 3)) (kk : ∀ (H1 : Heap) (locs1 : List Loc), Wp g I1 H1 → va_S (gA g) s.heap H1 locs1 → W p l e R s m args below meth c H1 locs1 cells slots Q (F0 m (pc + 3) ls rest)) : W p l e R s m args below meth c H locs cells slots Q (F0 m pc ls (.int x :: .ref (ga g k) :: rest)) := by
  subst hI
  exact r_put (ty := .int) (j := 2) X hP hS (tag_lt hk (by decide)) (by rw [lay, hk]; rfl) rfl inX5 tyX5 tyX5_ok nmX5 (by decide) hlink rfl (by decide +kernel) rfl rfl (Nat.le_of_ble_eq_true rfl) hd (fun H1 locs1 hP1 hS1 => kk H1 locs1 (by rw [lay_put (j := 2) (v := x) (by rw [hk]; rfl)] at hP1; exact hP1) hS1)
theorem g5_3 {k index : Nat} (X : Cx g p s m args c cc own nL) (hP : Wp g I H) (hk : tag k = 4) (hlink : Cond.fieldLink own index RX5 "y" "I" ∈ TB) (hd : decode cc pc = .ok (.getfield index, 3)) (kk : W p l e R s m args below meth c H locs cells slots Q (F0 m (pc + 3) ls (.int (I k 3) :: rest))) : W p l e R s m args below meth c H locs cells slots Q (F0 m pc ls (.ref (ga g k) :: rest)) :=
  r_get (j := 3) X hP (tag_lt hk (by decide)) (by rw [lay, hk]; rfl) rfl inX5 (by decide) hlink rfl hd kk
theorem p5_3 {k index : Nat} {x : Int32} {I1 : Mem} (X : Cx g p s m args c cc own nL) (hP : Wp g I H) (hS : va_S (gA g) s.heap H locs) (hk : tag k = 4) (hlink : Cond.fieldLink own index RX5 "y" "I" ∈ TB) (hI : I1 = st I k 3 x) (hd : decode cc pc = .ok (.putfield index, 3)) (kk : ∀ (H1 : Heap) (locs1 : List Loc), Wp g I1 H1 → va_S (gA g) s.heap H1 locs1 → W p l e R s m args below meth c H1 locs1 cells slots Q (F0 m (pc + 3) ls rest)) : W p l e R s m args below meth c H locs cells slots Q (F0 m pc ls (.int x :: .ref (ga g k) :: rest)) := by
  subst hI
  exact r_put (ty := .int) (j := 3) X hP hS (tag_lt hk (by decide)) (by rw [lay, hk]; rfl) rfl inX5 tyX5 tyX5_ok nmX5 (by decide) hlink rfl (by decide +kernel) rfl rfl (Nat.le_of_ble_eq_true rfl) hd (fun H1 locs1 hP1 hS1 => kk H1 locs1 (by rw [lay_put (j := 3) (v := x) (by rw [hk]; rfl)] at hP1; exact hP1) hS1)
theorem g5_4 {k index : Nat} (X : Cx g p s m args c cc own nL) (hP : Wp g I H) (hk : tag k = 4) (hlink : Cond.fieldLink own index RX5 "ticks" "I" ∈ TB) (hd : decode cc pc = .ok (.getfield index, 3)) (kk : W p l e R s m args below meth c H locs cells slots Q (F0 m (pc + 3) ls (.int (I k 4) :: rest))) : W p l e R s m args below meth c H locs cells slots Q (F0 m pc ls (.ref (ga g k) :: rest)) :=
  r_get (j := 4) X hP (tag_lt hk (by decide)) (by rw [lay, hk]; rfl) rfl inX5 (by decide) hlink rfl hd kk
theorem p5_4 {k index : Nat} {x : Int32} {I1 : Mem} (X : Cx g p s m args c cc own nL) (hP : Wp g I H) (hS : va_S (gA g) s.heap H locs) (hk : tag k = 4) (hlink : Cond.fieldLink own index RX5 "ticks" "I" ∈ TB) (hI : I1 = st I k 4 x) (hd : decode cc pc = .ok (.putfield index, 3)) (kk : ∀ (H1 : Heap) (locs1 : List Loc), Wp g I1 H1 → va_S (gA g) s.heap H1 locs1 → W p l e R s m args below meth c H1 locs1 cells slots Q (F0 m (pc + 3) ls rest)) : W p l e R s m args below meth c H locs cells slots Q (F0 m pc ls (.int x :: .ref (ga g k) :: rest)) := by
  subst hI
  exact r_put (ty := .int) (j := 4) X hP hS (tag_lt hk (by decide)) (by rw [lay, hk]; rfl) rfl inX5 tyX5 tyX5_ok nmX5 (by decide) hlink rfl (by decide +kernel) rfl rfl (Nat.le_of_ble_eq_true rfl) hd (fun H1 locs1 hP1 hS1 => kk H1 locs1 (by rw [lay_put (j := 4) (v := x) (by rw [hk]; rfl)] at hP1; exact hP1) hS1)
theorem g5_5 {k index : Nat} (X : Cx g p s m args c cc own nL) (hP : Wp g I H) (hk : tag k = 4) (hlink : Cond.fieldLink own index RX5 "count" "I" ∈ TB) (hd : decode cc pc = .ok (.getfield index, 3)) (kk : W p l e R s m args below meth c H locs cells slots Q (F0 m (pc + 3) ls (.int (I k 5) :: rest))) : W p l e R s m args below meth c H locs cells slots Q (F0 m pc ls (.ref (ga g k) :: rest)) :=
  r_get (j := 5) X hP (tag_lt hk (by decide)) (by rw [lay, hk]; rfl) rfl inX5 (by decide) hlink rfl hd kk
theorem p5_5 {k index : Nat} {x : Int32} {I1 : Mem} (X : Cx g p s m args c cc own nL) (hP : Wp g I H) (hS : va_S (gA g) s.heap H locs) (hk : tag k = 4) (hlink : Cond.fieldLink own index RX5 "count" "I" ∈ TB) (hI : I1 = st I k 5 x) (hd : decode cc pc = .ok (.putfield index, 3)) (kk : ∀ (H1 : Heap) (locs1 : List Loc), Wp g I1 H1 → va_S (gA g) s.heap H1 locs1 → W p l e R s m args below meth c H1 locs1 cells slots Q (F0 m (pc + 3) ls rest)) : W p l e R s m args below meth c H locs cells slots Q (F0 m pc ls (.int x :: .ref (ga g k) :: rest)) := by
  subst hI
  exact r_put (ty := .int) (j := 5) X hP hS (tag_lt hk (by decide)) (by rw [lay, hk]; rfl) rfl inX5 tyX5 tyX5_ok nmX5 (by decide) hlink rfl (by decide +kernel) rfl rfl (Nat.le_of_ble_eq_true rfl) hd (fun H1 locs1 hP1 hS1 => kk H1 locs1 (by rw [lay_put (j := 5) (v := x) (by rw [hk]; rfl)] at hP1; exact hP1) hS1)
theorem g5_6_t {k : Nat} (hk : tag k = 4) : tag (k + 1) = 18 := tgA 4 1 18 (by decide +kernel) (by decide) hk
theorem g5_6 {k index : Nat} (X : Cx g p s m args c cc own nL) (hP : Wp g I H) (hk : tag k = 4) (hlink : Cond.fieldLink own index RX5 "distancesX" "[I" ∈ TB) (hd : decode cc pc = .ok (.getfield index, 3)) (kk : W p l e R s m args below meth c H locs cells slots Q (F0 m (pc + 3) ls (.ref (ga g (k + 1)) :: rest))) : W p l e R s m args below meth c H locs cells slots Q (F0 m pc ls (.ref (ga g k) :: rest)) :=
  r_get (j := 6) X hP (tag_lt hk (by decide)) (by rw [lay, hk]; rfl) rfl inX5 (by decide) hlink rfl hd kk
theorem g5_7_t {k : Nat} (hk : tag k = 4) : tag (k + 2) = 18 := tgA 4 2 18 (by decide +kernel) (by decide) hk
theorem g5_7 {k index : Nat} (X : Cx g p s m args c cc own nL) (hP : Wp g I H) (hk : tag k = 4) (hlink : Cond.fieldLink own index RX5 "distancesY" "[I" ∈ TB) (hd : decode cc pc = .ok (.getfield index, 3)) (kk : W p l e R s m args below meth c H locs cells slots Q (F0 m (pc + 3) ls (.ref (ga g (k + 2)) :: rest))) : W p l e R s m args below meth c H locs cells slots Q (F0 m pc ls (.ref (ga g k) :: rest)) :=
  r_get (j := 7) X hP (tag_lt hk (by decide)) (by rw [lay, hk]; rfl) rfl inX5 (by decide) hlink rfl hd kk
theorem g5_8_t {k : Nat} (hk : tag k = 4) : tag (k + 3) = 18 := tgA 4 3 18 (by decide +kernel) (by decide) hk
theorem g5_8 {k index : Nat} (X : Cx g p s m args c cc own nL) (hP : Wp g I H) (hk : tag k = 4) (hlink : Cond.fieldLink own index RX5 "waits" "[I" ∈ TB) (hd : decode cc pc = .ok (.getfield index, 3)) (kk : W p l e R s m args below meth c H locs cells slots Q (F0 m (pc + 3) ls (.ref (ga g (k + 3)) :: rest))) : W p l e R s m args below meth c H locs cells slots Q (F0 m pc ls (.ref (ga g k) :: rest)) :=
  r_get (j := 8) X hP (tag_lt hk (by decide)) (by rw [lay, hk]; rfl) rfl inX5 (by decide) hlink rfl hd kk
theorem g5_9 {k index : Nat} (X : Cx g p s m args c cc own nL) (hP : Wp g I H) (hk : tag k = 4) (hlink : Cond.fieldLink own index RX5 "made" "I" ∈ TB) (hd : decode cc pc = .ok (.getfield index, 3)) (kk : W p l e R s m args below meth c H locs cells slots Q (F0 m (pc + 3) ls (.int (I k 9) :: rest))) : W p l e R s m args below meth c H locs cells slots Q (F0 m pc ls (.ref (ga g k) :: rest)) :=
  r_get (j := 9) X hP (tag_lt hk (by decide)) (by rw [lay, hk]; rfl) rfl inX5 (by decide) hlink rfl hd kk
theorem p5_9 {k index : Nat} {x : Int32} {I1 : Mem} (X : Cx g p s m args c cc own nL) (hP : Wp g I H) (hS : va_S (gA g) s.heap H locs) (hk : tag k = 4) (hlink : Cond.fieldLink own index RX5 "made" "I" ∈ TB) (hI : I1 = st I k 9 x) (hd : decode cc pc = .ok (.putfield index, 3)) (kk : ∀ (H1 : Heap) (locs1 : List Loc), Wp g I1 H1 → va_S (gA g) s.heap H1 locs1 → W p l e R s m args below meth c H1 locs1 cells slots Q (F0 m (pc + 3) ls rest)) : W p l e R s m args below meth c H locs cells slots Q (F0 m pc ls (.int x :: .ref (ga g k) :: rest)) := by
  subst hI
  exact r_put (ty := .int) (j := 9) X hP hS (tag_lt hk (by decide)) (by rw [lay, hk]; rfl) rfl inX5 tyX5 tyX5_ok nmX5 (by decide) hlink rfl (by decide +kernel) rfl rfl (Nat.le_of_ble_eq_true rfl) hd (fun H1 locs1 hP1 hS1 => kk H1 locs1 (by rw [lay_put (j := 9) (v := x) (by rw [hk]; rfl)] at hP1; exact hP1) hS1)
theorem g5_10 {k index : Nat} (X : Cx g p s m args c cc own nL) (hP : Wp g I H) (hk : tag k = 4) (hlink : Cond.fieldLink own index RX5 "left" "I" ∈ TB) (hd : decode cc pc = .ok (.getfield index, 3)) (kk : W p l e R s m args below meth c H locs cells slots Q (F0 m (pc + 3) ls (.int (I k 10) :: rest))) : W p l e R s m args below meth c H locs cells slots Q (F0 m pc ls (.ref (ga g k) :: rest)) :=
  r_get (j := 10) X hP (tag_lt hk (by decide)) (by rw [lay, hk]; rfl) rfl inX5 (by decide) hlink rfl hd kk
theorem p5_10 {k index : Nat} {x : Int32} {I1 : Mem} (X : Cx g p s m args c cc own nL) (hP : Wp g I H) (hS : va_S (gA g) s.heap H locs) (hk : tag k = 4) (hlink : Cond.fieldLink own index RX5 "left" "I" ∈ TB) (hI : I1 = st I k 10 x) (hd : decode cc pc = .ok (.putfield index, 3)) (kk : ∀ (H1 : Heap) (locs1 : List Loc), Wp g I1 H1 → va_S (gA g) s.heap H1 locs1 → W p l e R s m args below meth c H1 locs1 cells slots Q (F0 m (pc + 3) ls rest)) : W p l e R s m args below meth c H locs cells slots Q (F0 m pc ls (.int x :: .ref (ga g k) :: rest)) := by
  subst hI
  exact r_put (ty := .int) (j := 10) X hP hS (tag_lt hk (by decide)) (by rw [lay, hk]; rfl) rfl inX5 tyX5 tyX5_ok nmX5 (by decide) hlink rfl (by decide +kernel) rfl rfl (Nat.le_of_ble_eq_true rfl) hd (fun H1 locs1 hP1 hS1 => kk H1 locs1 (by rw [lay_put (j := 10) (v := x) (by rw [hk]; rfl)] at hP1; exact hP1) hS1)
theorem g5_11 {k index : Nat} (X : Cx g p s m args c cc own nL) (hP : Wp g I H) (hk : tag k = 4) (hlink : Cond.fieldLink own index RX5 "index" "I" ∈ TB) (hd : decode cc pc = .ok (.getfield index, 3)) (kk : W p l e R s m args below meth c H locs cells slots Q (F0 m (pc + 3) ls (.int (I k 11) :: rest))) : W p l e R s m args below meth c H locs cells slots Q (F0 m pc ls (.ref (ga g k) :: rest)) :=
  r_get (j := 11) X hP (tag_lt hk (by decide)) (by rw [lay, hk]; rfl) rfl inX5 (by decide) hlink rfl hd kk
theorem p5_11 {k index : Nat} {x : Int32} {I1 : Mem} (X : Cx g p s m args c cc own nL) (hP : Wp g I H) (hS : va_S (gA g) s.heap H locs) (hk : tag k = 4) (hlink : Cond.fieldLink own index RX5 "index" "I" ∈ TB) (hI : I1 = st I k 11 x) (hd : decode cc pc = .ok (.putfield index, 3)) (kk : ∀ (H1 : Heap) (locs1 : List Loc), Wp g I1 H1 → va_S (gA g) s.heap H1 locs1 → W p l e R s m args below meth c H1 locs1 cells slots Q (F0 m (pc + 3) ls rest)) : W p l e R s m args below meth c H locs cells slots Q (F0 m pc ls (.int x :: .ref (ga g k) :: rest)) := by
  subst hI
  exact r_put (ty := .int) (j := 11) X hP hS (tag_lt hk (by decide)) (by rw [lay, hk]; rfl) rfl inX5 tyX5 tyX5_ok nmX5 (by decide) hlink rfl (by decide +kernel) rfl rfl (Nat.le_of_ble_eq_true rfl) hd (fun H1 locs1 hP1 hS1 => kk H1 locs1 (by rw [lay_put (j := 11) (v := x) (by rw [hk]; rfl)] at hP1; exact hP1) hS1)
theorem inX6 : ∀ w ∈ u_ws RX6 TX6 7, w ∈ TB := by decide +kernel
theorem g6_0_t {k : Nat} (hk : tag k = 5) : tag (k + 1) = 3 := tgA 5 1 3 (by decide +kernel) (by decide) hk
theorem g6_0 {k index : Nat} (X : Cx g p s m args c cc own nL) (hP : Wp g I H) (hk : tag k = 5) (hlink : Cond.fieldLink own index RX6 "text" "LStepperPlanner$SetupText;" ∈ TB) (hd : decode cc pc = .ok (.getfield index, 3)) (kk : W p l e R s m args below meth c H locs cells slots Q (F0 m (pc + 3) ls (.ref (ga g (k + 1)) :: rest))) : W p l e R s m args below meth c H locs cells slots Q (F0 m pc ls (.ref (ga g k) :: rest)) :=
  r_get (j := 0) X hP (tag_lt hk (by decide)) (by rw [lay, hk]; rfl) rfl inX6 (by decide) hlink rfl hd kk
theorem g6_1_t {k : Nat} (hk : tag k = 5) : tag (k + 3) = 4 := tgA 5 3 4 (by decide +kernel) (by decide) hk
theorem g6_1 {k index : Nat} (X : Cx g p s m args c cc own nL) (hP : Wp g I H) (hk : tag k = 5) (hlink : Cond.fieldLink own index RX6 "state" "LStepperPlanner$State;" ∈ TB) (hd : decode cc pc = .ok (.getfield index, 3)) (kk : W p l e R s m args below meth c H locs cells slots Q (F0 m (pc + 3) ls (.ref (ga g (k + 3)) :: rest))) : W p l e R s m args below meth c H locs cells slots Q (F0 m pc ls (.ref (ga g k) :: rest)) :=
  r_get (j := 1) X hP (tag_lt hk (by decide)) (by rw [lay, hk]; rfl) rfl inX6 (by decide) hlink rfl hd kk
theorem g6_2_t {k : Nat} (hk : tag k = 5) : tag (k + 7) = 4 := tgA 5 7 4 (by decide +kernel) (by decide) hk
theorem g6_2 {k index : Nat} (X : Cx g p s m args c cc own nL) (hP : Wp g I H) (hk : tag k = 5) (hlink : Cond.fieldLink own index RX6 "copy" "LStepperPlanner$State;" ∈ TB) (hd : decode cc pc = .ok (.getfield index, 3)) (kk : W p l e R s m args below meth c H locs cells slots Q (F0 m (pc + 3) ls (.ref (ga g (k + 7)) :: rest))) : W p l e R s m args below meth c H locs cells slots Q (F0 m pc ls (.ref (ga g k) :: rest)) :=
  r_get (j := 2) X hP (tag_lt hk (by decide)) (by rw [lay, hk]; rfl) rfl inX6 (by decide) hlink rfl hd kk
theorem g6_3_t {k : Nat} (hk : tag k = 5) : tag (k + 11) = 0 := tgA 5 11 0 (by decide +kernel) (by decide) hk
theorem g6_3 {k index : Nat} (X : Cx g p s m args c cc own nL) (hP : Wp g I H) (hk : tag k = 5) (hlink : Cond.fieldLink own index RX6 "history" "LStepperPlanner$History;" ∈ TB) (hd : decode cc pc = .ok (.getfield index, 3)) (kk : W p l e R s m args below meth c H locs cells slots Q (F0 m (pc + 3) ls (.ref (ga g (k + 11)) :: rest))) : W p l e R s m args below meth c H locs cells slots Q (F0 m pc ls (.ref (ga g k) :: rest)) :=
  r_get (j := 3) X hP (tag_lt hk (by decide)) (by rw [lay, hk]; rfl) rfl inX6 (by decide) hlink rfl hd kk
theorem g6_4_t {k : Nat} (hk : tag k = 5) : tag (k + 69) = 2 := tgA 5 69 2 (by decide +kernel) (by decide) hk
theorem g6_4 {k index : Nat} (X : Cx g p s m args c cc own nL) (hP : Wp g I H) (hk : tag k = 5) (hlink : Cond.fieldLink own index RX6 "firstSlot" "LStepperPlanner$SaveSlot;" ∈ TB) (hd : decode cc pc = .ok (.getfield index, 3)) (kk : W p l e R s m args below meth c H locs cells slots Q (F0 m (pc + 3) ls (.ref (ga g (k + 69)) :: rest))) : W p l e R s m args below meth c H locs cells slots Q (F0 m pc ls (.ref (ga g k) :: rest)) :=
  r_get (j := 4) X hP (tag_lt hk (by decide)) (by rw [lay, hk]; rfl) rfl inX6 (by decide) hlink rfl hd kk
theorem g6_5_t {k : Nat} (hk : tag k = 5) : tag (k + 74) = 2 := tgA 5 74 2 (by decide +kernel) (by decide) hk
theorem g6_5 {k index : Nat} (X : Cx g p s m args c cc own nL) (hP : Wp g I H) (hk : tag k = 5) (hlink : Cond.fieldLink own index RX6 "secondSlot" "LStepperPlanner$SaveSlot;" ∈ TB) (hd : decode cc pc = .ok (.getfield index, 3)) (kk : W p l e R s m args below meth c H locs cells slots Q (F0 m (pc + 3) ls (.ref (ga g (k + 74)) :: rest))) : W p l e R s m args below meth c H locs cells slots Q (F0 m pc ls (.ref (ga g k) :: rest)) :=
  r_get (j := 5) X hP (tag_lt hk (by decide)) (by rw [lay, hk]; rfl) rfl inX6 (by decide) hlink rfl hd kk
theorem g6_6_t {k : Nat} (hk : tag k = 5) : tag (k + 79) = 1 := tgA 5 79 1 (by decide +kernel) (by decide) hk
theorem g6_6 {k index : Nat} (X : Cx g p s m args c cc own nL) (hP : Wp g I H) (hk : tag k = 5) (hlink : Cond.fieldLink own index RX6 "ramp" "LStepperPlanner$Ramp;" ∈ TB) (hd : decode cc pc = .ok (.getfield index, 3)) (kk : W p l e R s m args below meth c H locs cells slots Q (F0 m (pc + 3) ls (.ref (ga g (k + 79)) :: rest))) : W p l e R s m args below meth c H locs cells slots Q (F0 m pc ls (.ref (ga g k) :: rest)) :=
  r_get (j := 6) X hP (tag_lt hk (by decide)) (by rw [lay, hk]; rfl) rfl inX6 (by decide) hlink rfl hd kk
theorem inX7 : ∀ w ∈ u_ws RX7 TX7 17, w ∈ TB := by decide +kernel
theorem g7_0_t {k : Nat} (hk : tag k = 6) : tag (k + 1) = 90 := tgA 6 1 90 (by decide +kernel) (by decide) hk
theorem g7_0 {k index : Nat} (X : Cx g p s m args c cc own nL) (hP : Wp g I H) (hk : tag k = 6) (hlink : Cond.fieldLink own index RX7 "text" "[I" ∈ TB) (hd : decode cc pc = .ok (.getfield index, 3)) (kk : W p l e R s m args below meth c H locs cells slots Q (F0 m (pc + 3) ls (.ref (ga g (k + 1)) :: rest))) : W p l e R s m args below meth c H locs cells slots Q (F0 m pc ls (.ref (ga g k) :: rest)) :=
  r_get (j := 0) X hP (tag_lt hk (by decide)) (by rw [lay, hk]; rfl) rfl inX7 (by decide) hlink rfl hd kk
theorem g7_1 {k index : Nat} (X : Cx g p s m args c cc own nL) (hP : Wp g I H) (hk : tag k = 6) (hlink : Cond.fieldLink own index RX7 "length" "I" ∈ TB) (hd : decode cc pc = .ok (.getfield index, 3)) (kk : W p l e R s m args below meth c H locs cells slots Q (F0 m (pc + 3) ls (.int (I k 1) :: rest))) : W p l e R s m args below meth c H locs cells slots Q (F0 m pc ls (.ref (ga g k) :: rest)) :=
  r_get (j := 1) X hP (tag_lt hk (by decide)) (by rw [lay, hk]; rfl) rfl inX7 (by decide) hlink rfl hd kk
theorem p7_1 {k index : Nat} {x : Int32} {I1 : Mem} (X : Cx g p s m args c cc own nL) (hP : Wp g I H) (hS : va_S (gA g) s.heap H locs) (hk : tag k = 6) (hlink : Cond.fieldLink own index RX7 "length" "I" ∈ TB) (hI : I1 = st I k 1 x) (hd : decode cc pc = .ok (.putfield index, 3)) (kk : ∀ (H1 : Heap) (locs1 : List Loc), Wp g I1 H1 → va_S (gA g) s.heap H1 locs1 → W p l e R s m args below meth c H1 locs1 cells slots Q (F0 m (pc + 3) ls rest)) : W p l e R s m args below meth c H locs cells slots Q (F0 m pc ls (.int x :: .ref (ga g k) :: rest)) := by
  subst hI
  exact r_put (ty := .int) (j := 1) X hP hS (tag_lt hk (by decide)) (by rw [lay, hk]; rfl) rfl inX7 tyX7 tyX7_ok nmX7 (by decide) hlink rfl (by decide +kernel) rfl rfl (Nat.le_of_ble_eq_true rfl) hd (fun H1 locs1 hP1 hS1 => kk H1 locs1 (by rw [lay_put (j := 1) (v := x) (by rw [hk]; rfl)] at hP1; exact hP1) hS1)
theorem g7_2 {k index : Nat} (X : Cx g p s m args c cc own nL) (hP : Wp g I H) (hk : tag k = 6) (hlink : Cond.fieldLink own index RX7 "place" "I" ∈ TB) (hd : decode cc pc = .ok (.getfield index, 3)) (kk : W p l e R s m args below meth c H locs cells slots Q (F0 m (pc + 3) ls (.int (I k 2) :: rest))) : W p l e R s m args below meth c H locs cells slots Q (F0 m pc ls (.ref (ga g k) :: rest)) :=
  r_get (j := 2) X hP (tag_lt hk (by decide)) (by rw [lay, hk]; rfl) rfl inX7 (by decide) hlink rfl hd kk
theorem p7_2 {k index : Nat} {x : Int32} {I1 : Mem} (X : Cx g p s m args c cc own nL) (hP : Wp g I H) (hS : va_S (gA g) s.heap H locs) (hk : tag k = 6) (hlink : Cond.fieldLink own index RX7 "place" "I" ∈ TB) (hI : I1 = st I k 2 x) (hd : decode cc pc = .ok (.putfield index, 3)) (kk : ∀ (H1 : Heap) (locs1 : List Loc), Wp g I1 H1 → va_S (gA g) s.heap H1 locs1 → W p l e R s m args below meth c H1 locs1 cells slots Q (F0 m (pc + 3) ls rest)) : W p l e R s m args below meth c H locs cells slots Q (F0 m pc ls (.int x :: .ref (ga g k) :: rest)) := by
  subst hI
  exact r_put (ty := .int) (j := 2) X hP hS (tag_lt hk (by decide)) (by rw [lay, hk]; rfl) rfl inX7 tyX7 tyX7_ok nmX7 (by decide) hlink rfl (by decide +kernel) rfl rfl (Nat.le_of_ble_eq_true rfl) hd (fun H1 locs1 hP1 hS1 => kk H1 locs1 (by rw [lay_put (j := 2) (v := x) (by rw [hk]; rfl)] at hP1; exact hP1) hS1)
theorem g7_3_t {k : Nat} (hk : tag k = 6) : tag (k + 2) = 43 := tgA 6 2 43 (by decide +kernel) (by decide) hk
theorem g7_3 {k index : Nat} (X : Cx g p s m args c cc own nL) (hP : Wp g I H) (hk : tag k = 6) (hlink : Cond.fieldLink own index RX7 "now" "[I" ∈ TB) (hd : decode cc pc = .ok (.getfield index, 3)) (kk : W p l e R s m args below meth c H locs cells slots Q (F0 m (pc + 3) ls (.ref (ga g (k + 2)) :: rest))) : W p l e R s m args below meth c H locs cells slots Q (F0 m pc ls (.ref (ga g k) :: rest)) :=
  r_get (j := 3) X hP (tag_lt hk (by decide)) (by rw [lay, hk]; rfl) rfl inX7 (by decide) hlink rfl hd kk
theorem g7_4_t {k : Nat} (hk : tag k = 6) : tag (k + 3) = 43 := tgA 6 3 43 (by decide +kernel) (by decide) hk
theorem g7_4 {k index : Nat} (X : Cx g p s m args c cc own nL) (hP : Wp g I H) (hk : tag k = 6) (hlink : Cond.fieldLink own index RX7 "trial" "[I" ∈ TB) (hd : decode cc pc = .ok (.getfield index, 3)) (kk : W p l e R s m args below meth c H locs cells slots Q (F0 m (pc + 3) ls (.ref (ga g (k + 3)) :: rest))) : W p l e R s m args below meth c H locs cells slots Q (F0 m pc ls (.ref (ga g k) :: rest)) :=
  r_get (j := 4) X hP (tag_lt hk (by decide)) (by rw [lay, hk]; rfl) rfl inX7 (by decide) hlink rfl hd kk
theorem g7_5_t {k : Nat} (hk : tag k = 6) : tag (k + 4) = 43 := tgA 6 4 43 (by decide +kernel) (by decide) hk
theorem g7_5 {k index : Nat} (X : Cx g p s m args c cc own nL) (hP : Wp g I H) (hk : tag k = 6) (hlink : Cond.fieldLink own index RX7 "read" "[I" ∈ TB) (hd : decode cc pc = .ok (.getfield index, 3)) (kk : W p l e R s m args below meth c H locs cells slots Q (F0 m (pc + 3) ls (.ref (ga g (k + 4)) :: rest))) : W p l e R s m args below meth c H locs cells slots Q (F0 m pc ls (.ref (ga g k) :: rest)) :=
  r_get (j := 5) X hP (tag_lt hk (by decide)) (by rw [lay, hk]; rfl) rfl inX7 (by decide) hlink rfl hd kk
theorem g7_6_t {k : Nat} (hk : tag k = 6) : tag (k + 5) = 472 := tgA 6 5 472 (by decide +kernel) (by decide) hk
theorem g7_6 {k index : Nat} (X : Cx g p s m args c cc own nL) (hP : Wp g I H) (hk : tag k = 6) (hlink : Cond.fieldLink own index RX7 "diary" "[I" ∈ TB) (hd : decode cc pc = .ok (.getfield index, 3)) (kk : W p l e R s m args below meth c H locs cells slots Q (F0 m (pc + 3) ls (.ref (ga g (k + 5)) :: rest))) : W p l e R s m args below meth c H locs cells slots Q (F0 m pc ls (.ref (ga g k) :: rest)) :=
  r_get (j := 6) X hP (tag_lt hk (by decide)) (by rw [lay, hk]; rfl) rfl inX7 (by decide) hlink rfl hd kk
theorem g7_7 {k index : Nat} (X : Cx g p s m args c cc own nL) (hP : Wp g I H) (hk : tag k = 6) (hlink : Cond.fieldLink own index RX7 "acts" "I" ∈ TB) (hd : decode cc pc = .ok (.getfield index, 3)) (kk : W p l e R s m args below meth c H locs cells slots Q (F0 m (pc + 3) ls (.int (I k 7) :: rest))) : W p l e R s m args below meth c H locs cells slots Q (F0 m pc ls (.ref (ga g k) :: rest)) :=
  r_get (j := 7) X hP (tag_lt hk (by decide)) (by rw [lay, hk]; rfl) rfl inX7 (by decide) hlink rfl hd kk
theorem p7_7 {k index : Nat} {x : Int32} {I1 : Mem} (X : Cx g p s m args c cc own nL) (hP : Wp g I H) (hS : va_S (gA g) s.heap H locs) (hk : tag k = 6) (hlink : Cond.fieldLink own index RX7 "acts" "I" ∈ TB) (hI : I1 = st I k 7 x) (hd : decode cc pc = .ok (.putfield index, 3)) (kk : ∀ (H1 : Heap) (locs1 : List Loc), Wp g I1 H1 → va_S (gA g) s.heap H1 locs1 → W p l e R s m args below meth c H1 locs1 cells slots Q (F0 m (pc + 3) ls rest)) : W p l e R s m args below meth c H locs cells slots Q (F0 m pc ls (.int x :: .ref (ga g k) :: rest)) := by
  subst hI
  exact r_put (ty := .int) (j := 7) X hP hS (tag_lt hk (by decide)) (by rw [lay, hk]; rfl) rfl inX7 tyX7 tyX7_ok nmX7 (by decide) hlink rfl (by decide +kernel) rfl rfl (Nat.le_of_ble_eq_true rfl) hd (fun H1 locs1 hP1 hS1 => kk H1 locs1 (by rw [lay_put (j := 7) (v := x) (by rw [hk]; rfl)] at hP1; exact hP1) hS1)
theorem g7_8 {k index : Nat} (X : Cx g p s m args c cc own nL) (hP : Wp g I H) (hk : tag k = 6) (hlink : Cond.fieldLink own index RX7 "next" "I" ∈ TB) (hd : decode cc pc = .ok (.getfield index, 3)) (kk : W p l e R s m args below meth c H locs cells slots Q (F0 m (pc + 3) ls (.int (I k 8) :: rest))) : W p l e R s m args below meth c H locs cells slots Q (F0 m pc ls (.ref (ga g k) :: rest)) :=
  r_get (j := 8) X hP (tag_lt hk (by decide)) (by rw [lay, hk]; rfl) rfl inX7 (by decide) hlink rfl hd kk
theorem p7_8 {k index : Nat} {x : Int32} {I1 : Mem} (X : Cx g p s m args c cc own nL) (hP : Wp g I H) (hS : va_S (gA g) s.heap H locs) (hk : tag k = 6) (hlink : Cond.fieldLink own index RX7 "next" "I" ∈ TB) (hI : I1 = st I k 8 x) (hd : decode cc pc = .ok (.putfield index, 3)) (kk : ∀ (H1 : Heap) (locs1 : List Loc), Wp g I1 H1 → va_S (gA g) s.heap H1 locs1 → W p l e R s m args below meth c H1 locs1 cells slots Q (F0 m (pc + 3) ls rest)) : W p l e R s m args below meth c H locs cells slots Q (F0 m pc ls (.int x :: .ref (ga g k) :: rest)) := by
  subst hI
  exact r_put (ty := .int) (j := 8) X hP hS (tag_lt hk (by decide)) (by rw [lay, hk]; rfl) rfl inX7 tyX7 tyX7_ok nmX7 (by decide) hlink rfl (by decide +kernel) rfl rfl (Nat.le_of_ble_eq_true rfl) hd (fun H1 locs1 hP1 hS1 => kk H1 locs1 (by rw [lay_put (j := 8) (v := x) (by rw [hk]; rfl)] at hP1; exact hP1) hS1)
theorem g7_9_t {k : Nat} (hk : tag k = 6) : tag (k + 6) = 76 := tgA 6 6 76 (by decide +kernel) (by decide) hk
theorem g7_9 {k index : Nat} (X : Cx g p s m args c cc own nL) (hP : Wp g I H) (hk : tag k = 6) (hlink : Cond.fieldLink own index RX7 "kept" "[I" ∈ TB) (hd : decode cc pc = .ok (.getfield index, 3)) (kk : W p l e R s m args below meth c H locs cells slots Q (F0 m (pc + 3) ls (.ref (ga g (k + 6)) :: rest))) : W p l e R s m args below meth c H locs cells slots Q (F0 m pc ls (.ref (ga g k) :: rest)) :=
  r_get (j := 9) X hP (tag_lt hk (by decide)) (by rw [lay, hk]; rfl) rfl inX7 (by decide) hlink rfl hd kk
theorem g7_10_t {k : Nat} (hk : tag k = 6) : tag (k + 7) = 8 := tgA 6 7 8 (by decide +kernel) (by decide) hk
theorem g7_10 {k index : Nat} (X : Cx g p s m args c cc own nL) (hP : Wp g I H) (hk : tag k = 6) (hlink : Cond.fieldLink own index RX7 "isKept" "[Z" ∈ TB) (hd : decode cc pc = .ok (.getfield index, 3)) (kk : W p l e R s m args below meth c H locs cells slots Q (F0 m (pc + 3) ls (.ref (ga g (k + 7)) :: rest))) : W p l e R s m args below meth c H locs cells slots Q (F0 m pc ls (.ref (ga g k) :: rest)) :=
  r_get (j := 10) X hP (tag_lt hk (by decide)) (by rw [lay, hk]; rfl) rfl inX7 (by decide) hlink rfl hd kk
theorem g7_11_t {k : Nat} (hk : tag k = 6) : tag (k + 8) = 1011 := tgA 6 8 1011 (by decide +kernel) (by decide) hk
theorem g7_11 {k index : Nat} (X : Cx g p s m args c cc own nL) (hP : Wp g I H) (hk : tag k = 6) (hlink : Cond.fieldLink own index RX7 "root" "[I" ∈ TB) (hd : decode cc pc = .ok (.getfield index, 3)) (kk : W p l e R s m args below meth c H locs cells slots Q (F0 m (pc + 3) ls (.ref (ga g (k + 8)) :: rest))) : W p l e R s m args below meth c H locs cells slots Q (F0 m pc ls (.ref (ga g k) :: rest)) :=
  r_get (j := 11) X hP (tag_lt hk (by decide)) (by rw [lay, hk]; rfl) rfl inX7 (by decide) hlink rfl hd kk
theorem g7_12 {k index : Nat} (X : Cx g p s m args c cc own nL) (hP : Wp g I H) (hk : tag k = 6) (hlink : Cond.fieldLink own index RX7 "rootOf" "I" ∈ TB) (hd : decode cc pc = .ok (.getfield index, 3)) (kk : W p l e R s m args below meth c H locs cells slots Q (F0 m (pc + 3) ls (.int (I k 12) :: rest))) : W p l e R s m args below meth c H locs cells slots Q (F0 m pc ls (.ref (ga g k) :: rest)) :=
  r_get (j := 12) X hP (tag_lt hk (by decide)) (by rw [lay, hk]; rfl) rfl inX7 (by decide) hlink rfl hd kk
theorem p7_12 {k index : Nat} {x : Int32} {I1 : Mem} (X : Cx g p s m args c cc own nL) (hP : Wp g I H) (hS : va_S (gA g) s.heap H locs) (hk : tag k = 6) (hlink : Cond.fieldLink own index RX7 "rootOf" "I" ∈ TB) (hI : I1 = st I k 12 x) (hd : decode cc pc = .ok (.putfield index, 3)) (kk : ∀ (H1 : Heap) (locs1 : List Loc), Wp g I1 H1 → va_S (gA g) s.heap H1 locs1 → W p l e R s m args below meth c H1 locs1 cells slots Q (F0 m (pc + 3) ls rest)) : W p l e R s m args below meth c H locs cells slots Q (F0 m pc ls (.int x :: .ref (ga g k) :: rest)) := by
  subst hI
  exact r_put (ty := .int) (j := 12) X hP hS (tag_lt hk (by decide)) (by rw [lay, hk]; rfl) rfl inX7 tyX7 tyX7_ok nmX7 (by decide) hlink rfl (by decide +kernel) rfl rfl (Nat.le_of_ble_eq_true rfl) hd (fun H1 locs1 hP1 hS1 => kk H1 locs1 (by rw [lay_put (j := 12) (v := x) (by rw [hk]; rfl)] at hP1; exact hP1) hS1)
theorem g7_13 {k index : Nat} (X : Cx g p s m args c cc own nL) (hP : Wp g I H) (hk : tag k = 6) (hlink : Cond.fieldLink own index RX7 "rootMany" "I" ∈ TB) (hd : decode cc pc = .ok (.getfield index, 3)) (kk : W p l e R s m args below meth c H locs cells slots Q (F0 m (pc + 3) ls (.int (I k 13) :: rest))) : W p l e R s m args below meth c H locs cells slots Q (F0 m pc ls (.ref (ga g k) :: rest)) :=
  r_get (j := 13) X hP (tag_lt hk (by decide)) (by rw [lay, hk]; rfl) rfl inX7 (by decide) hlink rfl hd kk
theorem p7_13 {k index : Nat} {x : Int32} {I1 : Mem} (X : Cx g p s m args c cc own nL) (hP : Wp g I H) (hS : va_S (gA g) s.heap H locs) (hk : tag k = 6) (hlink : Cond.fieldLink own index RX7 "rootMany" "I" ∈ TB) (hI : I1 = st I k 13 x) (hd : decode cc pc = .ok (.putfield index, 3)) (kk : ∀ (H1 : Heap) (locs1 : List Loc), Wp g I1 H1 → va_S (gA g) s.heap H1 locs1 → W p l e R s m args below meth c H1 locs1 cells slots Q (F0 m (pc + 3) ls rest)) : W p l e R s m args below meth c H locs cells slots Q (F0 m pc ls (.int x :: .ref (ga g k) :: rest)) := by
  subst hI
  exact r_put (ty := .int) (j := 13) X hP hS (tag_lt hk (by decide)) (by rw [lay, hk]; rfl) rfl inX7 tyX7 tyX7_ok nmX7 (by decide) hlink rfl (by decide +kernel) rfl rfl (Nat.le_of_ble_eq_true rfl) hd (fun H1 locs1 hP1 hS1 => kk H1 locs1 (by rw [lay_put (j := 13) (v := x) (by rw [hk]; rfl)] at hP1; exact hP1) hS1)
theorem g7_14 {k index : Nat} (X : Cx g p s m args c cc own nL) (hP : Wp g I H) (hk : tag k = 6) (hlink : Cond.fieldLink own index RX7 "topAt" "I" ∈ TB) (hd : decode cc pc = .ok (.getfield index, 3)) (kk : W p l e R s m args below meth c H locs cells slots Q (F0 m (pc + 3) ls (.int (I k 14) :: rest))) : W p l e R s m args below meth c H locs cells slots Q (F0 m pc ls (.ref (ga g k) :: rest)) :=
  r_get (j := 14) X hP (tag_lt hk (by decide)) (by rw [lay, hk]; rfl) rfl inX7 (by decide) hlink rfl hd kk
theorem p7_14 {k index : Nat} {x : Int32} {I1 : Mem} (X : Cx g p s m args c cc own nL) (hP : Wp g I H) (hS : va_S (gA g) s.heap H locs) (hk : tag k = 6) (hlink : Cond.fieldLink own index RX7 "topAt" "I" ∈ TB) (hI : I1 = st I k 14 x) (hd : decode cc pc = .ok (.putfield index, 3)) (kk : ∀ (H1 : Heap) (locs1 : List Loc), Wp g I1 H1 → va_S (gA g) s.heap H1 locs1 → W p l e R s m args below meth c H1 locs1 cells slots Q (F0 m (pc + 3) ls rest)) : W p l e R s m args below meth c H locs cells slots Q (F0 m pc ls (.int x :: .ref (ga g k) :: rest)) := by
  subst hI
  exact r_put (ty := .int) (j := 14) X hP hS (tag_lt hk (by decide)) (by rw [lay, hk]; rfl) rfl inX7 tyX7 tyX7_ok nmX7 (by decide) hlink rfl (by decide +kernel) rfl rfl (Nat.le_of_ble_eq_true rfl) hd (fun H1 locs1 hP1 hS1 => kk H1 locs1 (by rw [lay_put (j := 14) (v := x) (by rw [hk]; rfl)] at hP1; exact hP1) hS1)
theorem g7_15 {k index : Nat} (X : Cx g p s m args c cc own nL) (hP : Wp g I H) (hk : tag k = 6) (hlink : Cond.fieldLink own index RX7 "topWith" "I" ∈ TB) (hd : decode cc pc = .ok (.getfield index, 3)) (kk : W p l e R s m args below meth c H locs cells slots Q (F0 m (pc + 3) ls (.int (I k 15) :: rest))) : W p l e R s m args below meth c H locs cells slots Q (F0 m pc ls (.ref (ga g k) :: rest)) :=
  r_get (j := 15) X hP (tag_lt hk (by decide)) (by rw [lay, hk]; rfl) rfl inX7 (by decide) hlink rfl hd kk
theorem p7_15 {k index : Nat} {x : Int32} {I1 : Mem} (X : Cx g p s m args c cc own nL) (hP : Wp g I H) (hS : va_S (gA g) s.heap H locs) (hk : tag k = 6) (hlink : Cond.fieldLink own index RX7 "topWith" "I" ∈ TB) (hI : I1 = st I k 15 x) (hd : decode cc pc = .ok (.putfield index, 3)) (kk : ∀ (H1 : Heap) (locs1 : List Loc), Wp g I1 H1 → va_S (gA g) s.heap H1 locs1 → W p l e R s m args below meth c H1 locs1 cells slots Q (F0 m (pc + 3) ls rest)) : W p l e R s m args below meth c H locs cells slots Q (F0 m pc ls (.int x :: .ref (ga g k) :: rest)) := by
  subst hI
  exact r_put (ty := .int) (j := 15) X hP hS (tag_lt hk (by decide)) (by rw [lay, hk]; rfl) rfl inX7 tyX7 tyX7_ok nmX7 (by decide) hlink rfl (by decide +kernel) rfl rfl (Nat.le_of_ble_eq_true rfl) hd (fun H1 locs1 hP1 hS1 => kk H1 locs1 (by rw [lay_put (j := 15) (v := x) (by rw [hk]; rfl)] at hP1; exact hP1) hS1)
theorem g7_16 {k index : Nat} (X : Cx g p s m args c cc own nL) (hP : Wp g I H) (hk : tag k = 6) (hlink : Cond.fieldLink own index RX7 "topWas" "I" ∈ TB) (hd : decode cc pc = .ok (.getfield index, 3)) (kk : W p l e R s m args below meth c H locs cells slots Q (F0 m (pc + 3) ls (.int (I k 16) :: rest))) : W p l e R s m args below meth c H locs cells slots Q (F0 m pc ls (.ref (ga g k) :: rest)) :=
  r_get (j := 16) X hP (tag_lt hk (by decide)) (by rw [lay, hk]; rfl) rfl inX7 (by decide) hlink rfl hd kk
theorem p7_16 {k index : Nat} {x : Int32} {I1 : Mem} (X : Cx g p s m args c cc own nL) (hP : Wp g I H) (hS : va_S (gA g) s.heap H locs) (hk : tag k = 6) (hlink : Cond.fieldLink own index RX7 "topWas" "I" ∈ TB) (hI : I1 = st I k 16 x) (hd : decode cc pc = .ok (.putfield index, 3)) (kk : ∀ (H1 : Heap) (locs1 : List Loc), Wp g I1 H1 → va_S (gA g) s.heap H1 locs1 → W p l e R s m args below meth c H1 locs1 cells slots Q (F0 m (pc + 3) ls rest)) : W p l e R s m args below meth c H locs cells slots Q (F0 m pc ls (.int x :: .ref (ga g k) :: rest)) := by
  subst hI
  exact r_put (ty := .int) (j := 16) X hP hS (tag_lt hk (by decide)) (by rw [lay, hk]; rfl) rfl inX7 tyX7 tyX7_ok nmX7 (by decide) hlink rfl (by decide +kernel) rfl rfl (Nat.le_of_ble_eq_true rfl) hd (fun H1 locs1 hP1 hS1 => kk H1 locs1 (by rw [lay_put (j := 16) (v := x) (by rw [hk]; rfl)] at hP1; exact hP1) hS1)
end FIELDS
theorem gd_lt {i : Int32} {n : Nat} (h : ¬ (i < 0 ∨ n ≤ i.toNatClampNeg)) : i.toNatClampNeg < n := Nat.not_le.mp fun q => h (Or.inr q)
end
section
/-! CONSTRUCTORS: the cells come one by one, each at the next address -/
def cx (c0 : Nat → va_E) (k : Nat) (L : List va_E) : Nat → va_E := fun x => if x < k then c0 x else L.getD (x - k) (.inr (7, []))
def Wz (g : GG) (c0 : Nat → va_E) (k : Nat) (L : List va_E) (H : Heap) : Prop := va_P (gD g) vwCl (wl g (cx c0 k L) (k + L.length)) H
theorem cx_at {c0 : Nat → va_E} {k i : Nat} {L : List va_E} {e : va_E} (h : L[i]? = some e) : cx c0 k L (k + i) = e := by
  unfold cx
  rw [if_neg (by omega), Nat.add_sub_cancel_left, List.getD_eq_getElem?_getD, h]
  rfl
theorem cx_push {c0 : Nat → va_E} {k : Nat} {L : List va_E} {e : va_E} {x : Nat} (hx : x < k + (L.length + 1)) : va_up (cx c0 k L) (k + L.length) e x = cx c0 k (L ++ [e]) x := by
  unfold va_up cx
  by_cases h1 : x = k + L.length
  · subst h1
    rw [if_pos rfl, if_neg (by omega), Nat.add_sub_cancel_left, List.getD_eq_getElem?_getD, List.getElem?_append_right (Nat.le_refl _), Nat.sub_self]
    rfl
  · rw [if_neg h1]
    by_cases h2 : x < k
    · rw [if_pos h2, if_pos h2]
    · rw [if_neg h2, if_neg h2, List.getD_eq_getElem?_getD, List.getD_eq_getElem?_getD, List.getElem?_append_left (by omega)]
theorem cx_set {c0 : Nat → va_E} {k i : Nat} {L : List va_E} {e : va_E} {x : Nat} (hi : i < L.length) : va_up (cx c0 k L) (k + i) e x = cx c0 k (L.set i e) x := by
  unfold va_up cx
  by_cases h1 : x = k + i
  · subst h1
    rw [if_pos rfl, if_neg (by omega), Nat.add_sub_cancel_left, List.getD_eq_getElem?_getD, List.getElem?_set_self hi]
    rfl
  · rw [if_neg h1]
    by_cases h2 : x < k
    · rw [if_pos h2, if_pos h2]
    · rw [if_neg h2, if_neg h2, List.getD_eq_getElem?_getD, List.getD_eq_getElem?_getD, List.getElem?_set_ne (by omega)]
theorem cx_cut {c0 : Nat → va_E} {k : Nat} {A B L2 : List va_E} {x : Nat} : cx (cx c0 k (A ++ B)) (k + A.length) L2 x = cx c0 k (A ++ L2) x := by
  unfold cx
  by_cases h1 : x < k
  · rw [if_pos (show x < k + A.length by omega), if_pos h1, if_pos h1]
  · by_cases h2 : x < k + A.length
    · rw [if_pos h2, if_neg h1, if_neg h1, List.getD_eq_getElem?_getD, List.getD_eq_getElem?_getD, List.getElem?_append_left (by omega), List.getElem?_append_left (by omega)]
    · rw [if_neg h2, if_neg h1, List.getD_eq_getElem?_getD, List.getD_eq_getElem?_getD, List.getElem?_append_right (by omega), show x - (k + A.length) = x - k - A.length by omega]
theorem Wz.cut {g : GG} {c0 : Nat → va_E} {k : Nat} {A B : List va_E} {H : Heap} (h : Wz g c0 k (A ++ B) H) : Wz g (cx c0 k (A ++ B)) (k + A.length) B H := by
  unfold Wz at h ⊢
  rw [wl_congr (c' := cx c0 k (A ++ B)) (fun x _ => cx_cut), show k + A.length + B.length = k + (A ++ B).length by rw [List.length_append]; omega]
  exact h
theorem Wz.back {g : GG} {c0 : Nat → va_E} {k : Nat} {A B L2 : List va_E} {H : Heap} (h : Wz g (cx c0 k (A ++ B)) (k + A.length) L2 H) : Wz g c0 k (A ++ L2) H := by
  unfold Wz at h ⊢
  rw [wl_congr (c' := cx c0 k (A ++ L2)) (fun x _ => cx_cut), show k + A.length + L2.length = k + (A ++ L2).length by rw [List.length_append]; omega] at h
  exact h
def Lin (g : GG) : Prop := ∀ k, ga g k = g.1 + k
theorem Lin.ap {g : GG} (h : Lin g) (n : Nat) : Apart g n := ⟨fun i j _ _ hij => by rw [h i, h j] at hij; omega, fun i _ => by rw [h i]; omega⟩
theorem Wz.lt {g : GG} {c0 : Nat → va_E} {k i : Nat} {L : List va_E} {H : Heap} (hg : Lin g) (h : Wz g c0 k L H) (hi : i < k + L.length) : g.1 + i < H.size := by
  have := (h i _ (wl_get hi)).lt
  rwa [hg i] at this
theorem grow_q {g : GG} {c : Nat → va_E} {n q : Nat} {e : va_E} {H1 : Heap} (hg : Lin g) (hP : va_P (gD g) vwCl (wl g c n ++ [(q, e)]) H1) (hD : va_D (gA g) (wl g c n ++ [(q, e)])) (hz : H1.size ≤ g.1 + n + 1) : q = ga g n := by
  have hlen : (wl g c n).length = n := by simp [wl]
  have hq : (wl g c n ++ [(q, e)])[n]? = some (q, e) := by
    rw [List.getElem?_append_right (by omega), hlen, Nat.sub_self]
    rfl
  have h1 : q < H1.size := (hP n _ hq).lt
  have h2 : g.1 ≤ q := hD.2 n _ hq
  rw [hg n]
  rcases Nat.lt_or_ge q (g.1 + n) with h3 | h3
  · exfalso
    have hk : (wl g c n ++ [(q, e)])[q - g.1]? = some (ga g (q - g.1), c (q - g.1)) := by
      rw [List.getElem?_append_left (by omega)]
      exact wl_get (by omega)
    have := hD.1 _ _ _ _ hk hq (by rw [hg]; show g.1 + (q - g.1) = q; omega)
    omega
  · omega
theorem wl_push {g : GG} {c0 : Nat → va_E} {k : Nat} {L : List va_E} {e : va_E} : wl g (cx c0 k L) (k + L.length) ++ [(ga g (k + L.length), e)] = wl g (cx c0 k (L ++ [e])) (k + (L ++ [e]).length) := by
  have h1 : (L ++ [e]).length = L.length + 1 := by simp
  rw [h1, ← wl_congr (c := va_up (cx c0 k L) (k + L.length) e) (fun x hx => cx_push hx)]
  unfold wl
  rw [← Nat.add_assoc, List.range_succ, List.map_append]
  refine congr (congrArg _ (List.map_congr_left fun x hx => ?_)) (by simp [va_up])
  have := List.mem_range.mp hx
  rw [va_up, if_neg (by omega)]
def NW (U : State) : Prop := va_Nw (.methodLinkNest RX6 9 yX4_init RX6) U ∧ va_Nw (.methodLinkNest RX6 18 yX5_init RX6) U ∧ va_Nw (.methodLinkNest RX0 17 yX5_init RX6) U ∧ va_Nw (.methodLinkNest RX6 35 yX3_init RX6) U ∧ va_Nw (.methodLinkNest RX3 9 yX5_init RX6) U ∧ va_Nw (.methodLinkNest RX6 45 yX2_init RX6) U ∧ va_AO RX5 U
theorem NW.moved {u U : State} (hW : u.WarmedH U.vm) (h : NW u) : NW U := by
  obtain ⟨h0_, h1_, h2_, h3_, h4_, h5_, h7⟩ := h
  exact ⟨va_Nw.warmM hW h0_, va_Nw.warmM hW h1_, va_Nw.warmM hW h2_, va_Nw.warmM hW h3_, va_Nw.warmM hW h4_, va_Nw.warmM hW h5_, h7.moved hW.alike⟩
theorem NW.same {u U : State} (hv : u.vm = U.vm) (h : NW u) : NW U := by
  obtain ⟨h0_, h1_, h2_, h3_, h4_, h5_, h7⟩ := h
  exact ⟨h0_.same rfl hv, h1_.same rfl hv, h2_.same rfl hv, h3_.same rfl hv, h4_.same rfl hv, h5_.same rfl hv, h7.moved (by rw [hv]; exact Vm.Alike.refl _)⟩
def Pn (g : GG) (c0 : Nat → va_E) (k : Nat) (L : List va_E) (U : State) : Prop := U.heap.size = g.1 + (k + L.length) ∧ Wz g c0 k L U.heap ∧ va_K (gD g) vwCl (gT g) U ∧ NW U
def Qn (g : GG) (c0 : Nat → va_E) (k : Nat) (L : List va_E) : Array Value → State → Outcome → State → Prop := fun _ st0 oc t => oc = .returned none ∧ Wz g c0 k L t.heap ∧ va_F (gA g) st0 t
def Mn (l : Launch) (g : GG) (y : MethodName) (bytes : ByteArray) (maxL : Nat) (rm : Room) (c0 : Nat → va_E) (k : Nat) (L L' : List va_E) (mc ms : Nat) : Prop :=
  Met l y (.code y bytes maxL none :: TB) rm (va_Pc [.ref (ga g k)] (Pn g c0 k L)) (Qn g c0 k L') mc ms (gA g)
theorem pn_blind {g : GG} {c0 : Nat → va_E} {k : Nat} {L : List va_E} {av : List Value} : FrameBlind (va_Pc av (Pn g c0 k L)) := by
  intro a U f mk q
  obtain ⟨e, hz, hP, hK, hN⟩ := q
  exact ⟨e, hz, hP, va_K.moved (u := U) (U := U.calling f mk a) (Vm.Alike.refl U.vm) hK, hN.same rfl⟩
def Cy (g : GG) (p : Program) (s : State) (m : MethodId) (args : Array Value) (c : Code) (cc : ByteArray) (own : String) (nL n0 : Nat) : Prop :=
  CallFix p m c cc nL s args TB own ∧ va_K (gD g) vwCl (gT g) s ∧ Lin g ∧ s.heap.size = g.1 + n0 ∧ NW s
section CTORROWS
variable {p : Program} {l : Launch} {e : Env} {R : Room} {s : State} {m : MethodId} {args : Array Value} {below : List Frame} {meth : Method} {c : Code} {H : Heap} {locs : List Loc} {cells slots : Nat} {Q : State → Prop} {g : GG} {cc : ByteArray} {own : String} {nL pc n0 : Nat} {ls : Array Slot} {rest : List Value} {c0 : Nat → va_E} {k : Nat} {L : List va_E}
theorem Cy.hx (X : Cy g p s m args c cc own nL n0) : p.tables.exec = Jvm.exec := X.1.1
theorem Cy.hb (X : Cy g p s m args c cc own nL n0) : c.code = cc := X.1.2.1
theorem Cy.ow (X : Cy g p s m args c cc own nL n0) : s.vm.findClass own = some m.cls := X.1.2.2.2.1
theorem Cy.hts (X : Cy g p s m args c cc own nL n0) : ∀ w ∈ TB, w.before args s = true := X.1.2.2.2.2
theorem Cy.hK (X : Cy g p s m args c cc own nL n0) : va_K (gD g) vwCl (gT g) s := X.2.1
theorem Cy.sz (X : Cy g p s m args c cc own nL n0) : s.heap.size = g.1 + n0 := X.2.2.2.1
theorem Cy.hA (X : Cy g p s m args c cc own nL n0) : ∀ q : Nat, s.heap.size ≤ q → gA g q := fun q h => by rw [X.sz] at h; exact Nat.le_trans (Nat.le_add_right _ _) h
/-- how large the heap is at most -/
theorem n_size (kk : H.size ≤ s.heap.size + cells → ∀ gg : JFrame, gg = F0 m pc ls rest → W p l e R s m args below meth c H locs cells slots Q gg) : W p l e R s m args below meth c H locs cells slots Q (F0 m pc ls rest) := fun T hT X => kk (hT ▸ X.heapSize) _ rfl T hT X
theorem Mn.of {y : MethodName} {bytes : ByteArray} {maxL : Nat} {rm : Room} {L' : List va_E} {mc ms : Nat} (hg : Lin g) (hy : plainFor y = true) (hav : 1 ≤ maxL)
    (body : ∀ (p : Program) (e : Env) (s : State) (m : MethodId) (args : Array Value) (below : List Frame) (meth : Method) (c : Code) (ls : Array Slot), Cy g p s m args c bytes y.cls maxL (k + L.length) → meth.sig.returnType = none → meth.locks = false → meth.name = y.name → Wz g c0 k L s.heap → va_S (gA g) s.heap s.heap [] → lv_has ls maxL [(0, .ref (ga g k))] →
      W p l e rm s m args below meth c s.heap [] 0 0 (MQ below (Qn g c0 k L') args s mc ms (gA g)) (F0 m 0 ls [])) : Mn l g y bytes maxL rm c0 k L L' mc ms := by
  refine met_of (cc := bytes) (maxL := maxL) (ret := none) hy rfl ?_
  intro p e s m args below meth c s₁ B hml hv
  obtain ⟨rfl, hz, hP, hK, hN⟩ := hv
  have hts := atoms_spec (ws := .code y bytes maxL none :: TB) B.pre
  have hl := lv_entry [.ref (ga g k)] (n := maxL) hav
  rw [lg_entry_eq]
  exact body p e s m _ below meth c _ ⟨⟨B.exec, B.bytes, hml, findClass_of_methodNamed B.named, fun w hw => hts w (List.mem_cons_of_mem _ hw)⟩, hK, hg, hz, hN⟩ B.returns B.notSynchronized (name_of_methodNamed B.named B.method).1 hP va_S.rf hl
theorem n_vret {mc ms : Nat} {L' : List va_E} (X : Cy g p s m args c cc own nL n0) (hr : meth.sig.returnType = none) (hlk : meth.locks = false) (hP : Wz g c0 k L' H) (hS : va_S (gA g) s.heap H locs) (hd : decode cc pc = .ok (.return_, 1)) :
    W p l e R s m args below meth c H locs mc ms (MQ below (Qn g c0 k L') args s mc ms (gA g)) (F0 m pc ls []) :=
  W.vret X.hx X.hb hr (fun t ht hW => ⟨rfl, by rw [Wz, ht]; exact hP, hS.F ht⟩) hS.2.2 hd hlk
theorem n_new {index ci N : Nat} {C : String} {T : u_T} {fs : List Value} (X : Cy g p s m args c cc own nL n0) (hP : Wz g c0 k L H) (hS : va_S (gA g) s.heap H locs) (hn : n0 + cells = k + L.length) (hc : vwCl[ci]? = some (C, T, N)) (hin : ∀ w ∈ u_ws C T N, w ∈ TB) (ty : Nat → FieldType) (hty : ∀ k, k < N → parseFieldDescriptor (T k).2.2.1 = some (ty k)) (hcl : Cond.classLink own index C ∈ TB) (hinst : Cond.instantiable C N ∈ TB) (hini : Cond.initialized C ∈ TB) (hfs : ∀ j, j < N → defaultValue (ty j) = vp_V fs j) (hcells : cells + 1 ≤ R.cells) (hslots : slots + N ≤ R.slots) (hd : decode cc pc = .ok (.new index, 3))
    (kk : ∀ H1 : Heap, Wz g c0 k (L ++ [.inr (ci, fs)]) H1 → va_S (gA g) s.heap H1 locs → W p l e R s m args below meth c H1 locs (cells + 1) (slots + N) Q (F0 m (pc + 3) ls (.ref (ga g (k + L.length)) :: rest))) : W p l e R s m args below meth c H locs cells slots Q (F0 m pc ls rest) := by
  refine va_new (D := gD g) (ci := ci) (fs := fs) (C := C) (T := T) (N := N) X.hx X.hb X.hts hin ty hty X.ow (X.hts _ hcl) (X.hts _ hinst) (X.hts _ hini) X.hK hP ((X.2.2.1.ap _).D _) hS X.hA hc hfs hcells hslots hd (fun q H1 hP1 hD1 hS1 => ?_)
  refine n_size (fun hz gg hgg => ?_)
  have hq := grow_q X.2.2.1 hP1 hD1 (by have := X.sz; omega)
  subst hq
  rw [wl_push] at hP1
  rw [hgg]
  exact kk H1 hP1 hS1
theorem n_newa {n : Int32} {N' : Nat} {atype : ArrayType} {ty : FieldType} {a0 : vp_A} {cA : ClassId} (X : Cy g p s m args c cc own nL n0) (hP : Wz g c0 k L H) (hS : va_S (gA g) s.heap H locs) (hn : n0 + cells = k + L.length) (harr : Cond.arrayClass (newarray.typeOf atype) ∈ TB) (hty : newarray.typeOf atype = ty) (hcA : s.vm.findClass ("[" ++ ty.toString) = some cA) (hra : ∀ x : ClassId, va_RA s x ty → s.vm.findClass ("[" ++ ty.toString) = some x) (ha : ∀ cA : ClassId, vp_cell cA a0 = arrV cA N' (fun _ => defaultValue ty)) (hn0 : ¬ n < 0) (hN : n.toNatClampNeg = N') (hbytes : N' * componentBytes ty ≤ 536870912) (hcells : cells + 1 ≤ R.cells) (hslots : slots + N' ≤ R.slots) (hd : decode cc pc = .ok (.newarray atype, 2))
    (kk : ∀ H1 : Heap, Wz g c0 k (L ++ [.inl (cA, a0)]) H1 → va_S (gA g) s.heap H1 locs → W p l e R s m args below meth c H1 locs (cells + 1) (slots + N') Q (F0 m (pc + 2) ls (.ref (ga g (k + L.length)) :: rest))) : W p l e R s m args below meth c H locs cells slots Q (F0 m pc ls (.int n :: rest)) := by
  refine va_newa (D := gD g) (a0 := a0) X.hx X.hb (X.hts _ harr) hty X.hK hP ((X.2.2.1.ap _).D _) hS X.hA ha hn0 hN hbytes hcells hslots hd (fun q cB H1 hK1 hP1 hD1 hS1 => ?_)
  refine n_size (fun hz gg hgg => ?_)
  have hB := hra cB (hK1.2 (gT g).length _ (by rw [List.getElem?_append_right (Nat.le_refl _), Nat.sub_self]; rfl)).2
  have hBA : cB = cA := Option.some.inj (hB.symm.trans hcA)
  subst hBA
  have hq := grow_q X.2.2.1 hP1 hD1 (by have := X.sz; omega)
  subst hq
  rw [wl_push] at hP1
  rw [hgg]
  exact kk H1 hP1 hS1
theorem n_newI {n : Int32} {N' : Nat} (X : Cy g p s m args c cc own nL n0) (hP : Wz g c0 k L H) (hS : va_S (gA g) s.heap H locs) (hn : n0 + cells = k + L.length) (harr : Cond.arrayClass .int ∈ TB) (hn0 : ¬ n < 0) (hN : n.toNatClampNeg = N') (hbytes : N' * 4 ≤ 536870912) (hcells : cells + 1 ≤ R.cells) (hslots : slots + N' ≤ R.slots) (hd : decode cc pc = .ok (.newarray .int, 2))
    (kk : ∀ H1 : Heap, Wz g c0 k (L ++ [.inl (g.2.2.2.1, N', .inl (fun _ => 0))]) H1 → va_S (gA g) s.heap H1 locs → W p l e R s m args below meth c H1 locs (cells + 1) (slots + N') Q (F0 m (pc + 2) ls (.ref (ga g (k + L.length)) :: rest))) : W p l e R s m args below meth c H locs cells slots Q (F0 m pc ls (.int n :: rest)) :=
  n_newa (atype := .int) (ty := .int) X hP hS hn harr rfl (X.hK.2 0 _ rfl).2 (fun x h => h) (fun cA => by rw [vp_cell_i]; rfl) hn0 hN hbytes hcells hslots hd kk
theorem n_newZ {n : Int32} {N' : Nat} (X : Cy g p s m args c cc own nL n0) (hP : Wz g c0 k L H) (hS : va_S (gA g) s.heap H locs) (hn : n0 + cells = k + L.length) (harr : Cond.arrayClass .boolean ∈ TB) (hn0 : ¬ n < 0) (hN : n.toNatClampNeg = N') (hbytes : N' * 1 ≤ 536870912) (hcells : cells + 1 ≤ R.cells) (hslots : slots + N' ≤ R.slots) (hd : decode cc pc = .ok (.newarray .boolean, 2))
    (kk : ∀ H1 : Heap, Wz g c0 k (L ++ [.inl (g.2.2.2.2.1, N', .inl (fun _ => 0))]) H1 → va_S (gA g) s.heap H1 locs → W p l e R s m args below meth c H1 locs (cells + 1) (slots + N') Q (F0 m (pc + 2) ls (.ref (ga g (k + L.length)) :: rest))) : W p l e R s m args below meth c H locs cells slots Q (F0 m pc ls (.int n :: rest)) :=
  n_newa (atype := .boolean) (ty := .boolean) X hP hS hn harr rfl (X.hK.2 1 _ rfl).2 (fun x h => h) (fun cA => by rw [vp_cell_i]; rfl) hn0 hN hbytes hcells hslots hd kk
theorem n_newQ {n : Int32} {index N' : Nat} (X : Cy g p s m args c cc own nL n0) (hP : Wz g c0 k L H) (hS : va_S (gA g) s.heap H locs) (hn : n0 + cells = k + L.length) (hcl : Cond.classLink own index RX5 ∈ TB) (hn0 : ¬ n < 0) (hN : n.toNatClampNeg = N') (hbytes : N' * 4 ≤ 536870912) (hcells : cells + 1 ≤ R.cells) (hslots : slots + N' ≤ R.slots) (hd : decode cc pc = .ok (.anewarray index, 3))
    (kk : ∀ H1 : Heap, Wz g c0 k (L ++ [.inl (g.2.2.2.2.2, N', .inr (.inr (.inr (.inr (fun _ => none)))))]) H1 → va_S (gA g) s.heap H1 locs → W p l e R s m args below meth c H1 locs (cells + 1) (slots + N') Q (F0 m (pc + 3) ls (.ref (ga g (k + L.length)) :: rest))) : W p l e R s m args below meth c H locs cells slots Q (F0 m pc ls (.int n :: rest)) := by
  refine va_newq (D := gD g) X.hx X.hb X.ow (X.hts _ hcl) X.2.2.2.2.2.2.2.2.2.2 X.hK hP ((X.2.2.1.ap _).D _) hS X.hA hn0 hN hbytes hcells hslots hd (fun q cB H1 hK1 hP1 hD1 hS1 => ?_)
  refine n_size (fun hz gg hgg => ?_)
  obtain ⟨_, _, -, -, -, hB⟩ := (hK1.2 (gT g).length (cB, .object RX5) (by rw [List.getElem?_append_right (Nat.le_refl _), Nat.sub_self]; rfl)).2
  obtain ⟨_, _, -, -, -, hA⟩ := (X.hK.2 2 (g.2.2.2.2.2, .object RX5) rfl).2
  have hBA : cB = g.2.2.2.2.2 := Option.some.inj (hB.symm.trans hA)
  subst hBA
  have hq := grow_q X.2.2.1 hP1 hD1 (by have := X.sz; omega)
  subst hq
  rw [wl_push] at hP1
  rw [hgg]
  exact kk H1 hP1 hS1
theorem n_get {i ci j index N : Nat} {C : String} {T : u_T} {fs : List Value} {v : Value} (X : Cy g p s m args c cc own nL n0) (hP : Wz g c0 k L H) (hi : L[i]? = some (.inr (ci, fs))) (hil : i < L.length) (hc : vwCl[ci]? = some (C, T, N)) (hin : ∀ w ∈ u_ws C T N, w ∈ TB) (hj : j < N) (hlink : Cond.fieldLink own index (T j).1 (T j).2.1 (T j).2.2.1 ∈ TB) (hv : fs[j]? = some v) (hd : decode cc pc = .ok (.getfield index, 3))
    (kk : W p l e R s m args below meth c H locs cells slots Q (F0 m (pc + 3) ls (v :: rest))) : W p l e R s m args below meth c H locs cells slots Q (F0 m pc ls (.ref (ga g (k + i)) :: rest)) :=
  va_get (D := gD g) (ci := ci) (v := v) (C := C) (T := T) (N := N) X.hx X.hb X.hts hin X.ow X.hK hP (k + i) (by rw [wl_get (by omega), cx_at hi]) hc j hj (X.hts _ hlink) (fun _ h9 => h9) hv hd kk
theorem n_put {i ci j index N : Nat} {C : String} {T : u_T} {fs : List Value} {ty : FieldType} {v : Value} (X : Cy g p s m args c cc own nL n0) (hP : Wz g c0 k L H) (hS : va_S (gA g) s.heap H locs) (hi : L[i]? = some (.inr (ci, fs))) (hil : i < L.length) (hc : vwCl[ci]? = some (C, T, N)) (hin : ∀ w ∈ u_ws C T N, w ∈ TB) (ty0 : Nat → FieldType) (hty : ∀ k, k < N → parseFieldDescriptor (T k).2.2.1 = some (ty0 k)) (hnm : ∀ a, a < N → ∀ b, b < N → a ≠ b → (T a).2.1 ≠ (T b).2.1) (hj : j < N) (hlink : Cond.fieldLink own index (T j).1 (T j).2.1 (T j).2.2.1 ∈ TB) (hfin : (T j).2.2.2 = false) (hty1 : parseFieldDescriptor (T j).2.2.1 = some ty) (hn : narrow ty v = v) (hfit : fits ty v = true) (hlen : j < fs.length) (hd : decode cc pc = .ok (.putfield index, 3))
    (kk : ∀ (H1 : Heap) (locs1 : List Loc), Wz g c0 k (L.set i (.inr (ci, fs.set j v))) H1 → va_S (gA g) s.heap H1 locs1 → W p l e R s m args below meth c H1 locs1 cells slots Q (F0 m (pc + 3) ls rest)) : W p l e R s m args below meth c H locs cells slots Q (F0 m pc ls (v :: .ref (ga g (k + i)) :: rest)) :=
  va_put (D := gD g) (ci := ci) (v := v) (ty := ty) (C := C) (T := T) (N := N) X.hx X.hb X.hts hin ty0 hty hnm X.ow X.hK hP ((X.2.2.1.ap _).D _) hS (k + i) (by rw [wl_get (by omega), cx_at hi]) hc j hj (X.hts _ hlink) (fun _ h9 => h9) hfin hty1 hn hfit hlen hd (fun H1 locs1 hP1 _ hS1 => kk H1 locs1 (by rw [wl_set _ (by omega), wl_congr (fun x _ => cx_set hil)] at hP1; rw [Wz, List.length_set]; exact hP1) hS1)
theorem n_putF {i ci j index N : Nat} {C : String} {T : u_T} {fs : List Value} {ty : FieldType} {v : Value} (X : Cy g p s m args c cc own nL n0) (hP : Wz g c0 k L H) (hS : va_S (gA g) s.heap H locs) (hi : L[i]? = some (.inr (ci, fs))) (hil : i < L.length) (hc : vwCl[ci]? = some (C, T, N)) (hin : ∀ w ∈ u_ws C T N, w ∈ TB) (ty0 : Nat → FieldType) (hty : ∀ k, k < N → parseFieldDescriptor (T k).2.2.1 = some (ty0 k)) (hnm : ∀ a, a < N → ∀ b, b < N → a ≠ b → (T a).2.1 ≠ (T b).2.1) (hj : j < N) (hlink : Cond.fieldLink own index (T j).1 (T j).2.1 (T j).2.2.1 ∈ TB) (hfin : (T j).2.2.2 = true) (hin2 : meth.name = "<init>") (hdecl : (T j).1 = own) (hty1 : parseFieldDescriptor (T j).2.2.1 = some ty) (hn : narrow ty v = v) (hfit : fits ty v = true) (hlen : j < fs.length) (hd : decode cc pc = .ok (.putfield index, 3))
    (kk : ∀ (H1 : Heap) (locs1 : List Loc), Wz g c0 k (L.set i (.inr (ci, fs.set j v))) H1 → va_S (gA g) s.heap H1 locs1 → W p l e R s m args below meth c H1 locs1 cells slots Q (F0 m (pc + 3) ls rest)) : W p l e R s m args below meth c H locs cells slots Q (F0 m pc ls (v :: .ref (ga g (k + i)) :: rest)) :=
  va_putF (D := gD g) (ci := ci) (v := v) (ty := ty) (C := C) (T := T) (N := N) X.hx X.hb X.hts hin ty0 hty hnm X.ow X.hK hP ((X.2.2.1.ap _).D _) hS (k + i) (by rw [wl_get (by omega), cx_at hi]) hc j hj (X.hts _ hlink) (fun _ h9 => h9) hfin hin2 hdecl hty1 hn hfit hlen hd (fun H1 locs1 hP1 _ hS1 => kk H1 locs1 (by rw [wl_set _ (by omega), wl_congr (fun x _ => cx_set hil)] at hP1; rw [Wz, List.length_set]; exact hP1) hS1)
theorem n_iast {i n j : Nat} {x v : Int32} {f : Nat → Int32} (X : Cy g p s m args c cc own nL n0) (hP : Wz g c0 k L H) (hS : va_S (gA g) s.heap H locs) (hi : L[i]? = some (.inl (g.2.2.2.1, n, .inl f))) (hil : i < L.length) (hx : ¬ (x < 0 ∨ n ≤ x.toNatClampNeg)) (hj : x.toNatClampNeg = j) (hd : decode cc pc = .ok (.iastore, 1))
    (kk : ∀ (H1 : Heap) (locs1 : List Loc), Wz g c0 k (L.set i (.inl (g.2.2.2.1, n, .inl (upd f j v)))) H1 → va_S (gA g) s.heap H1 locs1 → W p l e R s m args below meth c H1 locs1 cells slots Q (F0 m (pc + 1) ls rest)) : W p l e R s m args below meth c H locs cells slots Q (F0 m pc ls (.int v :: .int x :: .ref (ga g (k + i)) :: rest)) := by
  subst hj
  exact va_iast (D := gD g) X.hx X.hb X.hK hP ((X.2.2.1.ap _).D _) hS (k + i) 0 (by rw [wl_get (by omega), cx_at hi]) rfl hx hd (fun H1 locs1 hP1 _ hS1 => kk H1 locs1 (by rw [wl_set _ (by omega), wl_congr (fun x _ => cx_set hil)] at hP1; rw [Wz, List.length_set]; exact hP1) hS1)
theorem n_alenq {i n : Nat} {v : Int32} {f : Nat → Option Nat} (X : Cy g p s m args c cc own nL n0) (hP : Wz g c0 k L H) (hi : L[i]? = some (.inl (g.2.2.2.2.2, n, .inr (.inr (.inr (.inr f)))))) (hil : i < L.length) (hv : Int32.ofNat n = v) (hd : decode cc pc = .ok (.arraylength, 1))
    (kk : W p l e R s m args below meth c H locs cells slots Q (F0 m (pc + 1) ls (.int v :: rest))) : W p l e R s m args below meth c H locs cells slots Q (F0 m pc ls (.ref (ga g (k + i)) :: rest)) :=
  va_alen (D := gD g) (x := (n, .inr (.inr (.inr (.inr f))))) (ty := .object RX5) X.hx X.hb X.hK hP (k + i) 2 (by rw [wl_get (by omega), cx_at hi]) rfl hv hd kk
theorem n_aast {i n j jo : Nat} {x : Int32} {vs : List Value} {f : Nat → Option Nat} (X : Cy g p s m args c cc own nL n0) (hP : Wz g c0 k L H) (hS : va_S (gA g) s.heap H locs) (hi : L[i]? = some (.inl (g.2.2.2.2.2, n, .inr (.inr (.inr (.inr f)))))) (hil : i < L.length) (ho : L[jo]? = some (.inr (4, vs))) (hol : jo < L.length) (hx : ¬ (x < 0 ∨ n ≤ x.toNatClampNeg)) (hj : x.toNatClampNeg = j) (hd : decode cc pc = .ok (.aastore, 1))
    (kk : ∀ (H1 : Heap) (locs1 : List Loc), Wz g c0 k (L.set i (.inl (g.2.2.2.2.2, n, .inr (.inr (.inr (.inr (va_up f j (some (ga g (k + jo)))))))))) H1 → va_S (gA g) s.heap H1 locs1 → W p l e R s m args below meth c H1 locs1 cells slots Q (F0 m (pc + 1) ls rest)) : W p l e R s m args below meth c H locs cells slots Q (F0 m pc ls (.ref (ga g (k + jo)) :: .int x :: .ref (ga g (k + i)) :: rest)) := by
  subst hj
  exact va_astq (D := gD g) (r := (RX5, TX5, 12)) X.hx X.hb X.hK hP ((X.2.2.1.ap _).D _) hS (k + i) 2 (k + jo) 4 (by rw [wl_get (by omega), cx_at hi]) rfl (by rw [wl_get (by omega), cx_at ho]) rfl hx hd (fun H1 locs1 hP1 _ hS1 => kk H1 locs1 (by rw [wl_set _ (by omega), wl_congr (fun x _ => cx_set hil)] at hP1; rw [Wz, List.length_set]; exact hP1) hS1)
theorem n_obj {idx : Nat} (X : Cy g p s m args c cc own nL n0) (hl : ls.size = nL) (hlink : Cond.methodLink own idx objectInit ∈ TB) (hin : Cond.instanceMethod objectInit ∈ TB) (hco : Cond.code objectInit ⟨#[0xb1]⟩ 1 none ∈ TB) (hd : decode cc pc = .ok (.invokespecial idx, 3)) (hf : 1 ≤ R.frames) (hlo : (rest.map fun v => v.category).sum + 12 ≤ R.locals) {a : Nat} (kk : W p l e R s m args below meth c H locs cells slots Q (F0 m (pc + 3) ls rest)) : W p l e R s m args below meth c H locs cells slots Q (F0 m pc ls (.ref a :: rest)) :=
  W.objInit X.hx X.hb X.ow (X.hts _ hlink) (X.hts _ hin) (X.hts _ hco) rfl (by rw [X.1.2.2.1]; exact hl) rfl hd hf (by show 2 * 0 + _ + 12 ≤ _; omega) kk
theorem n_go {mc ms k1 : Nat} {c1 : Nat → va_E} {L1 : List va_E} {A1 : Array Value} {st0 : List Value} (hr : va_Run p l e R s m args below meth c H locs cells slots mc ms (F0 m pc ls st0) rest (Qn g c1 k1 L1 A1) (gA g)) (hS : va_S (gA g) s.heap H locs)
    (kk : ∀ (H1 : Heap) (locs1 : List Loc), Wz g c1 k1 L1 H1 → va_S (gA g) s.heap H1 locs1 → W p l e R s m args below meth c H1 locs1 (cells + mc) (slots + ms) Q (F0 m (pc + 3) ls rest)) : W p l e R s m args below meth c H locs cells slots Q (F0 m pc ls st0) := by
  intro T hT X
  obtain ⟨v, st₀, t, T', L, h0, X', hL, e1, e2, ⟨hv, hp, hz, hk⟩, stp⟩ := hr T hT X
  cases hv
  rw [h0] at hz hk
  obtain ⟨t2, a1, b1⟩ := kk T'.heap (locs ++ L) (by rw [e1]; exact hp)
    ⟨Nat.le_trans hS.1 (by rw [e1]; exact hz), fun q h1 h2 => by rw [e1, hk q (Nat.lt_of_lt_of_le h1 hS.1) h2]; exact hS.2.1 q h1 h2, fun q hq => by
      rcases List.mem_append.mp hq with h | h
      · exact hS.2.2 q h
      · exact hL q h⟩ T' rfl X'
  exact ⟨t2, stp t2 a1, b1⟩
theorem n_call {y : MethodName} {bytes : ByteArray} {maxL index mc ms : Nat} {rm : Room} (A B L2 : List va_E) (X : Cy g p s m args c cc own nL n0) (hM : Mn l g y bytes maxL rm (cx c0 k (A ++ B)) (k + A.length) B L2 mc ms) (hL : L = A ++ B) (hy : Cal y bytes maxL none 0) (hst : Cond.instanceMethod y ∈ TB) (hlink : Cond.methodLink own index y ∈ TB) (hnm : y.name = "<init>") (hz : rm.cells = mc ∧ rm.slots = ms) (hR : rm.frames + 1 ≤ R.frames ∧ 8 + (maxL + 11) + rm.locals ≤ R.locals) (hP : Wz g c0 k L H) (hS : va_S (gA g) s.heap H locs) (hn : n0 + cells = k + L.length) (hpos : 0 < L.length) (hl : ls.size = nL) (hw : (rest.map fun v => v.category).sum ≤ 8) (hd : decode cc pc = .ok (.invokespecial index, 3)) (hf : cells + mc ≤ R.cells ∧ slots + ms ≤ R.slots)
    (kk : ∀ (H1 : Heap) (locs1 : List Loc), Wz g c0 k (A ++ L2) H1 → va_S (gA g) s.heap H1 locs1 → W p l e R s m args below meth c H1 locs1 (cells + mc) (slots + ms) Q (F0 m (pc + 3) ls rest)) : W p l e R s m args below meth c H locs cells slots Q (F0 m pc ls (.ref (ga g (k + A.length)) :: rest)) := by
  subst hL
  refine n_size (fun hsz gg hgg => ?_)
  have hlt := hP.lt X.2.2.1 (i := k + ((A ++ B).length - 1)) (by omega)
  have hs := X.sz
  have hlen : (A ++ B).length = A.length + B.length := List.length_append
  rw [hgg]
  exact n_go (va_runI (As := []) (rest := rest) X.1 hM ⟨callB_of 0 X.hts (cal_good hy) rfl hz.1 hz.2 (X.hts _ hy.2.1) (X.hts _ hlink) hy.2.2 hR, hnm, X.hts _ hst⟩ ⟨pn_blind, fun U hU hW => ⟨rfl, by rw [hU]; omega, by rw [hU]; exact hP.cut, va_K.moved hW.alike X.hK, X.2.2.2.2.moved hW⟩⟩ rfl rfl hl rfl (lv_room hw) hd hf) hS (fun H1 locs1 h1 h2 => kk H1 locs1 h1.back h2)
theorem n_callN {y : MethodName} {host : String} {bytes : ByteArray} {maxL index mc ms : Nat} {rm : Room} (A B L2 : List va_E) (X : Cy g p s m args c cc own nL n0) (hM : Mn l g y bytes maxL rm (cx c0 k (A ++ B)) (k + A.length) B L2 mc ms) (hL : L = A ++ B) (hy : Cal y bytes maxL none 0) (hst : Cond.instanceMethod y ∈ TB) (hlink : va_Nw (.methodLinkNest own index y host) s) (hnm : y.name = "<init>") (hz : rm.cells = mc ∧ rm.slots = ms) (hR : rm.frames + 1 ≤ R.frames ∧ 8 + (maxL + 11) + rm.locals ≤ R.locals) (hP : Wz g c0 k L H) (hS : va_S (gA g) s.heap H locs) (hn : n0 + cells = k + L.length) (hpos : 0 < L.length) (hl : ls.size = nL) (hw : (rest.map fun v => v.category).sum ≤ 8) (hd : decode cc pc = .ok (.invokespecial index, 3)) (hf : cells + mc ≤ R.cells ∧ slots + ms ≤ R.slots)
    (kk : ∀ (H1 : Heap) (locs1 : List Loc), Wz g c0 k (A ++ L2) H1 → va_S (gA g) s.heap H1 locs1 → W p l e R s m args below meth c H1 locs1 (cells + mc) (slots + ms) Q (F0 m (pc + 3) ls rest)) : W p l e R s m args below meth c H locs cells slots Q (F0 m pc ls (.ref (ga g (k + A.length)) :: rest)) := by
  subst hL
  refine n_size (fun hsz gg hgg => ?_)
  have hlt := hP.lt X.2.2.1 (i := k + ((A ++ B).length - 1)) (by omega)
  have hs := X.sz
  have hlen : (A ++ B).length = A.length + B.length := List.length_append
  rw [hgg]
  exact n_go (va_runIN (As := []) (rest := rest) X.1 hM ⟨va_cnB 0 X.hts (cal_good hy) rfl hz.1 hz.2 hlink (X.hts _ hy.2.1) hy.2.2 hR, hnm, X.hts _ hst⟩ ⟨pn_blind, fun U hU hW => ⟨rfl, by rw [hU]; omega, by rw [hU]; exact hP.cut, va_K.moved hW.alike X.hK, X.2.2.2.2.moved hW⟩⟩ rfl rfl hl rfl (lv_room hw) hd hf) hS (fun H1 locs1 h1 h2 => kk H1 locs1 h1.back h2)
/-- a table of references counts to its length alone -/
theorem n_ring {i n : Nat} {f f' : Nat → Option Nat} (hP : Wz g c0 k L H) (hi : L[i]? = some (.inl (g.2.2.2.2.2, n, .inr (.inr (.inr (.inr f)))))) (hil : i < L.length) (hff : ∀ j, j < n → f j = f' j) : Wz g c0 k (L.set i (.inl (g.2.2.2.2.2, n, .inr (.inr (.inr (.inr f')))))) H := by
  have hc : vp_cell g.2.2.2.2.2 (n, .inr (.inr (.inr (.inr f)))) = vp_cell g.2.2.2.2.2 (n, .inr (.inr (.inr (.inr f')))) := by
    rw [vp_cell_q, vp_cell_q]
    unfold arrV
    congr 2
    funext j
    show va_rf (f j.val) = va_rf (f' j.val)
    rw [hff j.val j.isLt]
  unfold Wz at hP ⊢
  rw [List.length_set, ← wl_congr (fun x _ => cx_set hil), ← wl_set _ (by omega)]
  intro x q hx
  by_cases hxi : x = k + i
  · subst hxi
    have h0 := hP (k + i) _ (wl_get (by omega))
    rw [cx_at hi] at h0
    rw [List.getElem?_set_self (by simp [wl]; omega)] at hx
    cases hx
    show H[_]? = _
    rw [← hc]
    exact h0
  · rw [List.getElem?_set_ne (Ne.symm hxi)] at hx
    exact hP x q hx
end CTORROWS
end
section
theorem kx_2 : Cond.initialized RX4 ∈ TB := tb_at 2 (by decide +kernel) (by decide +kernel)
theorem kx_3 : Cond.initialized RX5 ∈ TB := tb_at 3 (by decide +kernel) (by decide +kernel)
theorem kx_4 : Cond.initialized RX0 ∈ TB := tb_at 4 (by decide +kernel) (by decide +kernel)
theorem kx_5 : Cond.initialized RX3 ∈ TB := tb_at 5 (by decide +kernel) (by decide +kernel)
theorem kx_6 : Cond.initialized RX2 ∈ TB := tb_at 6 (by decide +kernel) (by decide +kernel)
theorem kx_15 : Cond.methodLink RX6 1 objectInit ∈ TB := tb_at 15 (by decide +kernel) (by decide +kernel)
theorem kx_16 : Cond.instanceMethod objectInit ∈ TB := tb_at 16 (by decide +kernel) (by decide +kernel)
theorem kx_17 : Cond.code objectInit ⟨#[0xb1]⟩ 1 none ∈ TB := tb_at 17 (by decide +kernel) (by decide +kernel)
theorem kx_18 : Cond.classLink RX6 7 RX4 ∈ TB := tb_at 18 (by decide +kernel) (by decide +kernel)
theorem kx_19 : Cond.instantiable RX4 4 ∈ TB := tb_at 19 (by decide +kernel) (by decide +kernel)
theorem kx_23 : Cond.methodLink RX4 3 objectInit ∈ TB := tb_at 23 (by decide +kernel) (by decide +kernel)
theorem kx_38 : Cond.arrayClass .int ∈ TB := tb_at 38 (by decide +kernel) (by decide +kernel)
theorem kx_39 : Cond.classLink RX6 16 RX5 ∈ TB := tb_at 39 (by decide +kernel) (by decide +kernel)
theorem kx_40 : Cond.instantiable RX5 12 ∈ TB := tb_at 40 (by decide +kernel) (by decide +kernel)
theorem kx_44 : Cond.methodLink RX5 3 objectInit ∈ TB := tb_at 44 (by decide +kernel) (by decide +kernel)
theorem kx_91 : Cond.classLink RX6 26 RX0 ∈ TB := tb_at 91 (by decide +kernel) (by decide +kernel)
theorem kx_92 : Cond.instantiable RX0 3 ∈ TB := tb_at 92 (by decide +kernel) (by decide +kernel)
theorem kx_96 : Cond.methodLink RX0 3 objectInit ∈ TB := tb_at 96 (by decide +kernel) (by decide +kernel)
theorem kx_97 : Cond.classLink RX0 9 RX5 ∈ TB := tb_at 97 (by decide +kernel) (by decide +kernel)
theorem kx_111 : Cond.classLink RX6 33 RX3 ∈ TB := tb_at 111 (by decide +kernel) (by decide +kernel)
theorem kx_112 : Cond.instantiable RX3 2 ∈ TB := tb_at 112 (by decide +kernel) (by decide +kernel)
theorem kx_116 : Cond.methodLink RX3 1 objectInit ∈ TB := tb_at 116 (by decide +kernel) (by decide +kernel)
theorem kx_117 : Cond.classLink RX3 7 RX5 ∈ TB := tb_at 117 (by decide +kernel) (by decide +kernel)
theorem kx_127 : Cond.classLink RX6 43 RX2 ∈ TB := tb_at 127 (by decide +kernel) (by decide +kernel)
theorem kx_128 : Cond.instantiable RX2 5 ∈ TB := tb_at 128 (by decide +kernel) (by decide +kernel)
theorem kx_132 : Cond.methodLink RX2 3 objectInit ∈ TB := tb_at 132 (by decide +kernel) (by decide +kernel)
theorem kx_550 : Cond.methodLink RX7 1 objectInit ∈ TB := tb_at 550 (by decide +kernel) (by decide +kernel)
theorem kx_603 : Cond.arrayClass .boolean ∈ TB := tb_at 603 (by decide +kernel) (by decide +kernel)
section CTORS
abbrev rm4_init : Room := { frames := 1, cells := 1, slots := 80, locals := 14 }
set_option maxHeartbeats 4000000 in
set_option maxRecDepth 100000 in
theorem c4_init (l : Launch) (g : GG) (hg : Lin g) (c0 : Nat → va_E) (k : Nat) : Mn l g yX4_init cX4_init 1 rm4_init c0 k [.inr (3, [.null, .int 0, .int 0, .int 0])] [.inr (3, [.ref (ga g (k + 1)), .int 0, .int 0, .int 0]), .inl (g.2.2.2.1, 80, .inl (fun _ => 0))] 1 80 := by
  refine Mn.of hg (by decide +kernel) (by decide) ?_
  intro p e s m args below meth c ls X hr hlk hin hP hS hl
  replace X : Cy g p s m args c cX4_init RX4 1 (k + 1) := X
  have hx := X.hx
  have hb := X.hb
  replace hin : meth.name = "<init>" := hin
  obtain ⟨H, hHs⟩ : ∃ H, H = s.heap := ⟨_, rfl⟩
  rw [← hHs] at hP
  rw [show va_S (gA g) s.heap s.heap [] = va_S (gA g) s.heap H [] from by rw [hHs]] at hS
  rw [← hHs]
  refine lv_aload_n hx hb dX4_init_0 rfl (lv_at hl 0 rfl) ?_
  refine n_obj X hl.1 kx_23 kx_16 kx_17 dX4_init_1 (Nat.le_of_ble_eq_true rfl) (Nat.le_of_ble_eq_true rfl) ?_
  refine lv_aload_n hx hb dX4_init_4 rfl (lv_at hl 0 rfl) ?_
  refine lv_bipush (v := (80 : Int32)) hx hb dX4_init_5 (by decide +kernel) ?_
  refine n_newI (N' := 80) X hP hS (by show k + 1 + 0 = k + 1; omega) kx_38 (by decide) (by decide +kernel) (Nat.le_of_ble_eq_true rfl) (Nat.le_of_ble_eq_true rfl) (Nat.le_of_ble_eq_true rfl) dX4_init_7 (fun H hP hS => ?_)
  replace hP : Wz g c0 k [.inr (3, [.null, .int 0, .int 0, .int 0]), .inl (g.2.2.2.1, 80, .inl (fun _ => 0))] H := hP
  show W p l e rm4_init s m args below meth c H _ 1 80 _ (F0 m 9 ls [.ref (ga g (k + 1)), .ref (ga g k)])
  refine n_putF (i := 0) (j := 0) (ty := (.array .int)) X hP hS rfl (Nat.le_of_ble_eq_true rfl) rfl inX4 tyX4 tyX4_ok nmX4 (by decide) k_24 rfl hin rfl (by decide +kernel) rfl rfl (Nat.le_of_ble_eq_true rfl) dX4_init_9 (fun H locs hP hS => ?_)
  replace hP : Wz g c0 k [.inr (3, [.ref (ga g (k + 1)), .int 0, .int 0, .int 0]), .inl (g.2.2.2.1, 80, .inl (fun _ => 0))] H := hP
  exact n_vret X hr hlk hP hS dX4_init_12
abbrev rm5_init : Room := { frames := 1, cells := 3, slots := 24, locals := 14 }
set_option maxHeartbeats 4000000 in
set_option maxRecDepth 100000 in
theorem c5_init (l : Launch) (g : GG) (hg : Lin g) (c0 : Nat → va_E) (k : Nat) : Mn l g yX5_init cX5_init 1 rm5_init c0 k [.inr (4, [.int 0, .int 0, .int 0, .int 0, .int 0, .int 0, .null, .null, .null, .int 0, .int 0, .int 0])] [.inr (4, [.int 100, .int 200, .int 0, .int 0, .int 0, .int 0, .ref (ga g (k + 1)), .ref (ga g (k + 2)), .ref (ga g (k + 3)), .int 0, .int 0, .int 0]), .inl (g.2.2.2.1, 8, .inl (fun _ => 0)), .inl (g.2.2.2.1, 8, .inl (fun _ => 0)), .inl (g.2.2.2.1, 8, .inl (fun _ => 0))] 3 24 := by
  refine Mn.of hg (by decide +kernel) (by decide) ?_
  intro p e s m args below meth c ls X hr hlk hin hP hS hl
  replace X : Cy g p s m args c cX5_init RX5 1 (k + 1) := X
  have hx := X.hx
  have hb := X.hb
  replace hin : meth.name = "<init>" := hin
  obtain ⟨H, hHs⟩ : ∃ H, H = s.heap := ⟨_, rfl⟩
  rw [← hHs] at hP
  rw [show va_S (gA g) s.heap s.heap [] = va_S (gA g) s.heap H [] from by rw [hHs]] at hS
  rw [← hHs]
  refine lv_aload_n hx hb dX5_init_0 rfl (lv_at hl 0 rfl) ?_
  refine n_obj X hl.1 kx_44 kx_16 kx_17 dX5_init_1 (Nat.le_of_ble_eq_true rfl) (Nat.le_of_ble_eq_true rfl) ?_
  refine lv_aload_n hx hb dX5_init_4 rfl (lv_at hl 0 rfl) ?_
  refine lv_bipush (v := (100 : Int32)) hx hb dX5_init_5 (by decide +kernel) ?_
  refine n_put (i := 0) (j := 0) (ty := .int) X hP hS rfl (Nat.le_of_ble_eq_true rfl) rfl inX5 tyX5 tyX5_ok nmX5 (by decide) k_45 rfl (by decide +kernel) rfl rfl (Nat.le_of_ble_eq_true rfl) dX5_init_7 (fun H locs hP hS => ?_)
  replace hP : Wz g c0 k [.inr (4, [.int 100, .int 0, .int 0, .int 0, .int 0, .int 0, .null, .null, .null, .int 0, .int 0, .int 0])] H := hP
  refine lv_aload_n hx hb dX5_init_10 rfl (lv_at hl 0 rfl) ?_
  refine lv_sipush (v := (200 : Int32)) hx hb dX5_init_11 (by decide +kernel) ?_
  refine n_put (i := 0) (j := 1) (ty := .int) X hP hS rfl (Nat.le_of_ble_eq_true rfl) rfl inX5 tyX5 tyX5_ok nmX5 (by decide) k_48 rfl (by decide +kernel) rfl rfl (Nat.le_of_ble_eq_true rfl) dX5_init_14 (fun H locs hP hS => ?_)
  replace hP : Wz g c0 k [.inr (4, [.int 100, .int 200, .int 0, .int 0, .int 0, .int 0, .null, .null, .null, .int 0, .int 0, .int 0])] H := hP
  refine lv_aload_n hx hb dX5_init_17 rfl (lv_at hl 0 rfl) ?_
  refine lv_bipush (v := (8 : Int32)) hx hb dX5_init_18 (by decide +kernel) ?_
  refine n_newI (N' := 8) X hP hS (by show k + 1 + 0 = k + 1; omega) kx_38 (by decide) (by decide +kernel) (Nat.le_of_ble_eq_true rfl) (Nat.le_of_ble_eq_true rfl) (Nat.le_of_ble_eq_true rfl) dX5_init_20 (fun H hP hS => ?_)
  replace hP : Wz g c0 k [.inr (4, [.int 100, .int 200, .int 0, .int 0, .int 0, .int 0, .null, .null, .null, .int 0, .int 0, .int 0]), .inl (g.2.2.2.1, 8, .inl (fun _ => 0))] H := hP
  show W p l e rm5_init s m args below meth c H _ 1 8 _ (F0 m 22 ls [.ref (ga g (k + 1)), .ref (ga g k)])
  refine n_putF (i := 0) (j := 6) (ty := (.array .int)) X hP hS rfl (Nat.le_of_ble_eq_true rfl) rfl inX5 tyX5 tyX5_ok nmX5 (by decide) k_58 rfl hin rfl (by decide +kernel) rfl rfl (Nat.le_of_ble_eq_true rfl) dX5_init_22 (fun H locs hP hS => ?_)
  replace hP : Wz g c0 k [.inr (4, [.int 100, .int 200, .int 0, .int 0, .int 0, .int 0, .ref (ga g (k + 1)), .null, .null, .int 0, .int 0, .int 0]), .inl (g.2.2.2.1, 8, .inl (fun _ => 0))] H := hP
  refine lv_aload_n hx hb dX5_init_25 rfl (lv_at hl 0 rfl) ?_
  refine lv_bipush (v := (8 : Int32)) hx hb dX5_init_26 (by decide +kernel) ?_
  refine n_newI (N' := 8) X hP hS (by show k + 1 + 1 = k + 2; omega) kx_38 (by decide) (by decide +kernel) (Nat.le_of_ble_eq_true rfl) (Nat.le_of_ble_eq_true rfl) (Nat.le_of_ble_eq_true rfl) dX5_init_28 (fun H hP hS => ?_)
  replace hP : Wz g c0 k [.inr (4, [.int 100, .int 200, .int 0, .int 0, .int 0, .int 0, .ref (ga g (k + 1)), .null, .null, .int 0, .int 0, .int 0]), .inl (g.2.2.2.1, 8, .inl (fun _ => 0)), .inl (g.2.2.2.1, 8, .inl (fun _ => 0))] H := hP
  show W p l e rm5_init s m args below meth c H _ 2 16 _ (F0 m 30 ls [.ref (ga g (k + 2)), .ref (ga g k)])
  refine n_putF (i := 0) (j := 7) (ty := (.array .int)) X hP hS rfl (Nat.le_of_ble_eq_true rfl) rfl inX5 tyX5 tyX5_ok nmX5 (by decide) k_59 rfl hin rfl (by decide +kernel) rfl rfl (Nat.le_of_ble_eq_true rfl) dX5_init_30 (fun H locs hP hS => ?_)
  replace hP : Wz g c0 k [.inr (4, [.int 100, .int 200, .int 0, .int 0, .int 0, .int 0, .ref (ga g (k + 1)), .ref (ga g (k + 2)), .null, .int 0, .int 0, .int 0]), .inl (g.2.2.2.1, 8, .inl (fun _ => 0)), .inl (g.2.2.2.1, 8, .inl (fun _ => 0))] H := hP
  refine lv_aload_n hx hb dX5_init_33 rfl (lv_at hl 0 rfl) ?_
  refine lv_bipush (v := (8 : Int32)) hx hb dX5_init_34 (by decide +kernel) ?_
  refine n_newI (N' := 8) X hP hS (by show k + 1 + 2 = k + 3; omega) kx_38 (by decide) (by decide +kernel) (Nat.le_of_ble_eq_true rfl) (Nat.le_of_ble_eq_true rfl) (Nat.le_of_ble_eq_true rfl) dX5_init_36 (fun H hP hS => ?_)
  replace hP : Wz g c0 k [.inr (4, [.int 100, .int 200, .int 0, .int 0, .int 0, .int 0, .ref (ga g (k + 1)), .ref (ga g (k + 2)), .null, .int 0, .int 0, .int 0]), .inl (g.2.2.2.1, 8, .inl (fun _ => 0)), .inl (g.2.2.2.1, 8, .inl (fun _ => 0)), .inl (g.2.2.2.1, 8, .inl (fun _ => 0))] H := hP
  show W p l e rm5_init s m args below meth c H _ 3 24 _ (F0 m 38 ls [.ref (ga g (k + 3)), .ref (ga g k)])
  refine n_putF (i := 0) (j := 8) (ty := (.array .int)) X hP hS rfl (Nat.le_of_ble_eq_true rfl) rfl inX5 tyX5 tyX5_ok nmX5 (by decide) k_60 rfl hin rfl (by decide +kernel) rfl rfl (Nat.le_of_ble_eq_true rfl) dX5_init_38 (fun H locs hP hS => ?_)
  replace hP : Wz g c0 k [.inr (4, [.int 100, .int 200, .int 0, .int 0, .int 0, .int 0, .ref (ga g (k + 1)), .ref (ga g (k + 2)), .ref (ga g (k + 3)), .int 0, .int 0, .int 0]), .inl (g.2.2.2.1, 8, .inl (fun _ => 0)), .inl (g.2.2.2.1, 8, .inl (fun _ => 0)), .inl (g.2.2.2.1, 8, .inl (fun _ => 0))] H := hP
  exact n_vret X hr hlk hP hS dX5_init_41
abbrev rm0_init : Room := { frames := 2, cells := 57, slots := 518, locals := 34 }
set_option maxHeartbeats 4000000 in
set_option maxRecDepth 100000 in
theorem c0_init (l : Launch) (g : GG) (hg : Lin g) (c0 : Nat → va_E) (k : Nat) : Mn l g yX0_init cX0_init 2 rm0_init c0 k [.inr (0, [.null, .int 0, .int 0])] [.inr (0, [.ref (ga g (k + 1)), .int 0, .int 0]), .inl (g.2.2.2.2.2, 14, .inr (.inr (.inr (.inr (fun j => some (ga g (k + 2 + 4 * j))))))), .inr (4, [.int 100, .int 200, .int 0, .int 0, .int 0, .int 0, .ref (ga g (k + 3)), .ref (ga g (k + 4)), .ref (ga g (k + 5)), .int 0, .int 0, .int 0]), .inl (g.2.2.2.1, 8, .inl (fun _ => 0)), .inl (g.2.2.2.1, 8, .inl (fun _ => 0)), .inl (g.2.2.2.1, 8, .inl (fun _ => 0)), .inr (4, [.int 100, .int 200, .int 0, .int 0, .int 0, .int 0, .ref (ga g (k + 7)), .ref (ga g (k + 8)), .ref (ga g (k + 9)), .int 0, .int 0, .int 0]), .inl (g.2.2.2.1, 8, .inl (fun _ => 0)), .inl (g.2.2.2.1, 8, .inl (fun _ => 0)), .inl (g.2.2.2.1, 8, .inl (fun _ => 0)), .inr (4, [.int 100, .int 200, .int 0, .int 0, .int 0, .int 0, .ref (ga g (k + 11)), .ref (ga g (k + 12)), .ref (ga g (k + 13)), .int 0, .int 0, .int 0]), .inl (g.2.2.2.1, 8, .inl (fun _ => 0)), .inl (g.2.2.2.1, 8, .inl (fun _ => 0)), .inl (g.2.2.2.1, 8, .inl (fun _ => 0)), .inr (4, [.int 100, .int 200, .int 0, .int 0, .int 0, .int 0, .ref (ga g (k + 15)), .ref (ga g (k + 16)), .ref (ga g (k + 17)), .int 0, .int 0, .int 0]), .inl (g.2.2.2.1, 8, .inl (fun _ => 0)), .inl (g.2.2.2.1, 8, .inl (fun _ => 0)), .inl (g.2.2.2.1, 8, .inl (fun _ => 0)), .inr (4, [.int 100, .int 200, .int 0, .int 0, .int 0, .int 0, .ref (ga g (k + 19)), .ref (ga g (k + 20)), .ref (ga g (k + 21)), .int 0, .int 0, .int 0]), .inl (g.2.2.2.1, 8, .inl (fun _ => 0)), .inl (g.2.2.2.1, 8, .inl (fun _ => 0)), .inl (g.2.2.2.1, 8, .inl (fun _ => 0)), .inr (4, [.int 100, .int 200, .int 0, .int 0, .int 0, .int 0, .ref (ga g (k + 23)), .ref (ga g (k + 24)), .ref (ga g (k + 25)), .int 0, .int 0, .int 0]), .inl (g.2.2.2.1, 8, .inl (fun _ => 0)), .inl (g.2.2.2.1, 8, .inl (fun _ => 0)), .inl (g.2.2.2.1, 8, .inl (fun _ => 0)), .inr (4, [.int 100, .int 200, .int 0, .int 0, .int 0, .int 0, .ref (ga g (k + 27)), .ref (ga g (k + 28)), .ref (ga g (k + 29)), .int 0, .int 0, .int 0]), .inl (g.2.2.2.1, 8, .inl (fun _ => 0)), .inl (g.2.2.2.1, 8, .inl (fun _ => 0)), .inl (g.2.2.2.1, 8, .inl (fun _ => 0)), .inr (4, [.int 100, .int 200, .int 0, .int 0, .int 0, .int 0, .ref (ga g (k + 31)), .ref (ga g (k + 32)), .ref (ga g (k + 33)), .int 0, .int 0, .int 0]), .inl (g.2.2.2.1, 8, .inl (fun _ => 0)), .inl (g.2.2.2.1, 8, .inl (fun _ => 0)), .inl (g.2.2.2.1, 8, .inl (fun _ => 0)), .inr (4, [.int 100, .int 200, .int 0, .int 0, .int 0, .int 0, .ref (ga g (k + 35)), .ref (ga g (k + 36)), .ref (ga g (k + 37)), .int 0, .int 0, .int 0]), .inl (g.2.2.2.1, 8, .inl (fun _ => 0)), .inl (g.2.2.2.1, 8, .inl (fun _ => 0)), .inl (g.2.2.2.1, 8, .inl (fun _ => 0)), .inr (4, [.int 100, .int 200, .int 0, .int 0, .int 0, .int 0, .ref (ga g (k + 39)), .ref (ga g (k + 40)), .ref (ga g (k + 41)), .int 0, .int 0, .int 0]), .inl (g.2.2.2.1, 8, .inl (fun _ => 0)), .inl (g.2.2.2.1, 8, .inl (fun _ => 0)), .inl (g.2.2.2.1, 8, .inl (fun _ => 0)), .inr (4, [.int 100, .int 200, .int 0, .int 0, .int 0, .int 0, .ref (ga g (k + 43)), .ref (ga g (k + 44)), .ref (ga g (k + 45)), .int 0, .int 0, .int 0]), .inl (g.2.2.2.1, 8, .inl (fun _ => 0)), .inl (g.2.2.2.1, 8, .inl (fun _ => 0)), .inl (g.2.2.2.1, 8, .inl (fun _ => 0)), .inr (4, [.int 100, .int 200, .int 0, .int 0, .int 0, .int 0, .ref (ga g (k + 47)), .ref (ga g (k + 48)), .ref (ga g (k + 49)), .int 0, .int 0, .int 0]), .inl (g.2.2.2.1, 8, .inl (fun _ => 0)), .inl (g.2.2.2.1, 8, .inl (fun _ => 0)), .inl (g.2.2.2.1, 8, .inl (fun _ => 0)), .inr (4, [.int 100, .int 200, .int 0, .int 0, .int 0, .int 0, .ref (ga g (k + 51)), .ref (ga g (k + 52)), .ref (ga g (k + 53)), .int 0, .int 0, .int 0]), .inl (g.2.2.2.1, 8, .inl (fun _ => 0)), .inl (g.2.2.2.1, 8, .inl (fun _ => 0)), .inl (g.2.2.2.1, 8, .inl (fun _ => 0)), .inr (4, [.int 100, .int 200, .int 0, .int 0, .int 0, .int 0, .ref (ga g (k + 55)), .ref (ga g (k + 56)), .ref (ga g (k + 57)), .int 0, .int 0, .int 0]), .inl (g.2.2.2.1, 8, .inl (fun _ => 0)), .inl (g.2.2.2.1, 8, .inl (fun _ => 0)), .inl (g.2.2.2.1, 8, .inl (fun _ => 0))] 57 518 := by
  refine Mn.of hg (by decide +kernel) (by decide) ?_
  intro p e s m args below meth c ls X hr hlk hin hP hS hl
  replace X : Cy g p s m args c cX0_init RX0 2 (k + 1) := X
  have hx := X.hx
  have hb := X.hb
  replace hin : meth.name = "<init>" := hin
  obtain ⟨H, hHs⟩ : ∃ H, H = s.heap := ⟨_, rfl⟩
  rw [← hHs] at hP
  rw [show va_S (gA g) s.heap s.heap [] = va_S (gA g) s.heap H [] from by rw [hHs]] at hS
  rw [← hHs]
  refine lv_aload_n hx hb dX0_init_0 rfl (lv_at hl 0 rfl) ?_
  refine n_obj X hl.1 kx_96 kx_16 kx_17 dX0_init_1 (Nat.le_of_ble_eq_true rfl) (Nat.le_of_ble_eq_true rfl) ?_
  refine lv_aload_n hx hb dX0_init_4 rfl (lv_at hl 0 rfl) ?_
  refine lv_bipush (v := (14 : Int32)) hx hb dX0_init_5 (by decide +kernel) ?_
  refine n_newQ (N' := 14) X hP hS (by show k + 1 + 0 = k + 1; omega) kx_97 (by decide) (by decide +kernel) (Nat.le_of_ble_eq_true rfl) (Nat.le_of_ble_eq_true rfl) (Nat.le_of_ble_eq_true rfl) dX0_init_7 (fun H hP hS => ?_)
  replace hP : Wz g c0 k [.inr (0, [.null, .int 0, .int 0]), .inl (g.2.2.2.2.2, 14, .inr (.inr (.inr (.inr (fun _ => none)))))] H := hP
  show W p l e rm0_init s m args below meth c H _ 1 14 _ (F0 m 10 ls [.ref (ga g (k + 1)), .ref (ga g k)])
  refine n_putF (i := 0) (j := 0) (ty := (.array (.object RX5))) X hP hS rfl (Nat.le_of_ble_eq_true rfl) rfl inX0 tyX0 tyX0_ok nmX0 (by decide) k_100 rfl hin rfl (by decide +kernel) rfl rfl (Nat.le_of_ble_eq_true rfl) dX0_init_10 (fun H locs hP hS => ?_)
  replace hP : Wz g c0 k [.inr (0, [.ref (ga g (k + 1)), .int 0, .int 0]), .inl (g.2.2.2.2.2, 14, .inr (.inr (.inr (.inr (fun _ => none)))))] H := hP
  refine lv_iconst (v := (0 : Int32)) hx hb dX0_init_13 (by decide +kernel) ?_
  refine lv_istore_n (lv' := [(1, .int (0 : Int32)), (0, .ref (ga g k))]) hx hb dX0_init_14 rfl hl (by decide) rfl (fun ls hl => ?_)
  refine lv_iload_n hx hb dX0_init_15 rfl (lv_at hl 0 rfl) ?_
  refine lv_aload_n hx hb dX0_init_16 rfl (lv_at hl 1 rfl) ?_
  refine n_get (i := 0) (j := 0) X hP rfl (Nat.le_of_ble_eq_true rfl) rfl inX0 (by decide) k_100 rfl dX0_init_17 ?_
  refine n_alenq (i := 1) (v := (14 : Int32)) X hP rfl (Nat.le_of_ble_eq_true rfl) (by decide +kernel) dX0_init_20 ?_
  refine lv_icmp_ge (tgt := 43) hx hb dX0_init_21 (by decide) (fun cc_ => ?_) (fun cc_ => ?_)
  · exact absurd cc_ (by decide)
  refine lv_aload_n hx hb dX0_init_24 rfl (lv_at hl 1 rfl) ?_
  refine n_get (i := 0) (j := 0) X hP rfl (Nat.le_of_ble_eq_true rfl) rfl inX0 (by decide) k_100 rfl dX0_init_25 ?_
  refine lv_iload_n hx hb dX0_init_28 rfl (lv_at hl 0 rfl) ?_
  refine n_new (ci := 4) (fs := [.int 0, .int 0, .int 0, .int 0, .int 0, .int 0, .null, .null, .null, .int 0, .int 0, .int 0]) X hP hS (by show k + 1 + 1 = k + 2; omega) rfl inX5 tyX5 tyX5_ok kx_97 kx_40 kx_3 (fun j hj => by rcases (show j = 0 ∨ j = 1 ∨ j = 2 ∨ j = 3 ∨ j = 4 ∨ j = 5 ∨ j = 6 ∨ j = 7 ∨ j = 8 ∨ j = 9 ∨ j = 10 ∨ j = 11 by omega) with rfl | rfl | rfl | rfl | rfl | rfl | rfl | rfl | rfl | rfl | rfl | rfl <;> rfl) (Nat.le_of_ble_eq_true rfl) (Nat.le_of_ble_eq_true rfl) dX0_init_29 (fun H hP hS => ?_)
  replace hP : Wz g c0 k [.inr (0, [.ref (ga g (k + 1)), .int 0, .int 0]), .inl (g.2.2.2.2.2, 14, .inr (.inr (.inr (.inr (fun _ => none))))), .inr (4, [.int 0, .int 0, .int 0, .int 0, .int 0, .int 0, .null, .null, .null, .int 0, .int 0, .int 0])] H := hP
  show W p l e rm0_init s m args below meth c H _ 2 26 _ (F0 m 32 ls [.ref (ga g (k + 2)), .int (0 : Int32), .ref (ga g (k + 1))])
  refine lv_dup hx hb dX0_init_32 rfl ?_
  refine n_callN (mc := 3) (ms := 24) (rest := [.ref (ga g (k + 2)), .int (0 : Int32), .ref (ga g (k + 1))]) [.inr (0, [.ref (ga g (k + 1)), .int 0, .int 0]), .inl (g.2.2.2.2.2, 14, .inr (.inr (.inr (.inr (fun _ => none)))))] [.inr (4, [.int 0, .int 0, .int 0, .int 0, .int 0, .int 0, .null, .null, .null, .int 0, .int 0, .int 0])] [.inr (4, [.int 100, .int 200, .int 0, .int 0, .int 0, .int 0, .ref (ga g (k + 3)), .ref (ga g (k + 4)), .ref (ga g (k + 5)), .int 0, .int 0, .int 0]), .inl (g.2.2.2.1, 8, .inl (fun _ => 0)), .inl (g.2.2.2.1, 8, .inl (fun _ => 0)), .inl (g.2.2.2.1, 8, .inl (fun _ => 0))] X (c5_init l g hg _ _) rfl cal_X5_init im_X5_init X.2.2.2.2.2.2.1 rfl ⟨rfl, rfl⟩ ⟨Nat.le_of_ble_eq_true rfl, Nat.le_of_ble_eq_true rfl⟩ hP hS (by show k + 1 + 2 = k + 3; omega) (Nat.succ_pos _) hl.1 (Nat.le_of_ble_eq_true rfl) dX0_init_33 ⟨Nat.le_of_ble_eq_true rfl, Nat.le_of_ble_eq_true rfl⟩ (fun H locs hP hS => ?_)
  replace hP : Wz g c0 k [.inr (0, [.ref (ga g (k + 1)), .int 0, .int 0]), .inl (g.2.2.2.2.2, 14, .inr (.inr (.inr (.inr (fun _ => none))))), .inr (4, [.int 100, .int 200, .int 0, .int 0, .int 0, .int 0, .ref (ga g (k + 3)), .ref (ga g (k + 4)), .ref (ga g (k + 5)), .int 0, .int 0, .int 0]), .inl (g.2.2.2.1, 8, .inl (fun _ => 0)), .inl (g.2.2.2.1, 8, .inl (fun _ => 0)), .inl (g.2.2.2.1, 8, .inl (fun _ => 0))] H := hP
  show W p l e rm0_init s m args below meth c H _ 5 50 _ (F0 m 36 ls [.ref (ga g (k + 2)), .int (0 : Int32), .ref (ga g (k + 1))])
  refine n_aast (i := 1) (j := 0) (jo := 2) X hP hS rfl (Nat.le_of_ble_eq_true rfl) rfl (Nat.le_of_ble_eq_true rfl) (by decide +kernel) (by decide +kernel) dX0_init_36 (fun H locs hP hS => ?_)
  replace hP : Wz g c0 k [.inr (0, [.ref (ga g (k + 1)), .int 0, .int 0]), .inl (g.2.2.2.2.2, 14, .inr (.inr (.inr (.inr (va_up (fun _ => none) 0 (some (ga g (k + 2)))))))), .inr (4, [.int 100, .int 200, .int 0, .int 0, .int 0, .int 0, .ref (ga g (k + 3)), .ref (ga g (k + 4)), .ref (ga g (k + 5)), .int 0, .int 0, .int 0]), .inl (g.2.2.2.1, 8, .inl (fun _ => 0)), .inl (g.2.2.2.1, 8, .inl (fun _ => 0)), .inl (g.2.2.2.1, 8, .inl (fun _ => 0))] H := hP
  refine lv_iinc (v := (1 : Int32)) (lv' := [(1, .int (1 : Int32)), (0, .ref (ga g k))]) hx hb dX0_init_37 hl (k := 0) rfl (by decide +kernel) (by decide) rfl (fun ls hl => ?_)
  refine lv_goto (tgt := 15) hx hb dX0_init_40 (by decide) ?_
  refine lv_iload_n hx hb dX0_init_15 rfl (lv_at hl 0 rfl) ?_
  refine lv_aload_n hx hb dX0_init_16 rfl (lv_at hl 1 rfl) ?_
  refine n_get (i := 0) (j := 0) X hP rfl (Nat.le_of_ble_eq_true rfl) rfl inX0 (by decide) k_100 rfl dX0_init_17 ?_
  refine n_alenq (i := 1) (v := (14 : Int32)) X hP rfl (Nat.le_of_ble_eq_true rfl) (by decide +kernel) dX0_init_20 ?_
  refine lv_icmp_ge (tgt := 43) hx hb dX0_init_21 (by decide) (fun cc_ => ?_) (fun cc_ => ?_)
  · exact absurd cc_ (by decide)
  refine lv_aload_n hx hb dX0_init_24 rfl (lv_at hl 1 rfl) ?_
  refine n_get (i := 0) (j := 0) X hP rfl (Nat.le_of_ble_eq_true rfl) rfl inX0 (by decide) k_100 rfl dX0_init_25 ?_
  refine lv_iload_n hx hb dX0_init_28 rfl (lv_at hl 0 rfl) ?_
  refine n_new (ci := 4) (fs := [.int 0, .int 0, .int 0, .int 0, .int 0, .int 0, .null, .null, .null, .int 0, .int 0, .int 0]) X hP hS (by show k + 1 + 5 = k + 6; omega) rfl inX5 tyX5 tyX5_ok kx_97 kx_40 kx_3 (fun j hj => by rcases (show j = 0 ∨ j = 1 ∨ j = 2 ∨ j = 3 ∨ j = 4 ∨ j = 5 ∨ j = 6 ∨ j = 7 ∨ j = 8 ∨ j = 9 ∨ j = 10 ∨ j = 11 by omega) with rfl | rfl | rfl | rfl | rfl | rfl | rfl | rfl | rfl | rfl | rfl | rfl <;> rfl) (Nat.le_of_ble_eq_true rfl) (Nat.le_of_ble_eq_true rfl) dX0_init_29 (fun H hP hS => ?_)
  replace hP : Wz g c0 k [.inr (0, [.ref (ga g (k + 1)), .int 0, .int 0]), .inl (g.2.2.2.2.2, 14, .inr (.inr (.inr (.inr (va_up (fun _ => none) 0 (some (ga g (k + 2)))))))), .inr (4, [.int 100, .int 200, .int 0, .int 0, .int 0, .int 0, .ref (ga g (k + 3)), .ref (ga g (k + 4)), .ref (ga g (k + 5)), .int 0, .int 0, .int 0]), .inl (g.2.2.2.1, 8, .inl (fun _ => 0)), .inl (g.2.2.2.1, 8, .inl (fun _ => 0)), .inl (g.2.2.2.1, 8, .inl (fun _ => 0)), .inr (4, [.int 0, .int 0, .int 0, .int 0, .int 0, .int 0, .null, .null, .null, .int 0, .int 0, .int 0])] H := hP
  show W p l e rm0_init s m args below meth c H _ 6 62 _ (F0 m 32 ls [.ref (ga g (k + 6)), .int (1 : Int32), .ref (ga g (k + 1))])
  refine lv_dup hx hb dX0_init_32 rfl ?_
  refine n_callN (mc := 3) (ms := 24) (rest := [.ref (ga g (k + 6)), .int (1 : Int32), .ref (ga g (k + 1))]) [.inr (0, [.ref (ga g (k + 1)), .int 0, .int 0]), .inl (g.2.2.2.2.2, 14, .inr (.inr (.inr (.inr (va_up (fun _ => none) 0 (some (ga g (k + 2)))))))), .inr (4, [.int 100, .int 200, .int 0, .int 0, .int 0, .int 0, .ref (ga g (k + 3)), .ref (ga g (k + 4)), .ref (ga g (k + 5)), .int 0, .int 0, .int 0]), .inl (g.2.2.2.1, 8, .inl (fun _ => 0)), .inl (g.2.2.2.1, 8, .inl (fun _ => 0)), .inl (g.2.2.2.1, 8, .inl (fun _ => 0))] [.inr (4, [.int 0, .int 0, .int 0, .int 0, .int 0, .int 0, .null, .null, .null, .int 0, .int 0, .int 0])] [.inr (4, [.int 100, .int 200, .int 0, .int 0, .int 0, .int 0, .ref (ga g (k + 7)), .ref (ga g (k + 8)), .ref (ga g (k + 9)), .int 0, .int 0, .int 0]), .inl (g.2.2.2.1, 8, .inl (fun _ => 0)), .inl (g.2.2.2.1, 8, .inl (fun _ => 0)), .inl (g.2.2.2.1, 8, .inl (fun _ => 0))] X (c5_init l g hg _ _) rfl cal_X5_init im_X5_init X.2.2.2.2.2.2.1 rfl ⟨rfl, rfl⟩ ⟨Nat.le_of_ble_eq_true rfl, Nat.le_of_ble_eq_true rfl⟩ hP hS (by show k + 1 + 6 = k + 7; omega) (Nat.succ_pos _) hl.1 (Nat.le_of_ble_eq_true rfl) dX0_init_33 ⟨Nat.le_of_ble_eq_true rfl, Nat.le_of_ble_eq_true rfl⟩ (fun H locs hP hS => ?_)
  replace hP : Wz g c0 k [.inr (0, [.ref (ga g (k + 1)), .int 0, .int 0]), .inl (g.2.2.2.2.2, 14, .inr (.inr (.inr (.inr (va_up (fun _ => none) 0 (some (ga g (k + 2)))))))), .inr (4, [.int 100, .int 200, .int 0, .int 0, .int 0, .int 0, .ref (ga g (k + 3)), .ref (ga g (k + 4)), .ref (ga g (k + 5)), .int 0, .int 0, .int 0]), .inl (g.2.2.2.1, 8, .inl (fun _ => 0)), .inl (g.2.2.2.1, 8, .inl (fun _ => 0)), .inl (g.2.2.2.1, 8, .inl (fun _ => 0)), .inr (4, [.int 100, .int 200, .int 0, .int 0, .int 0, .int 0, .ref (ga g (k + 7)), .ref (ga g (k + 8)), .ref (ga g (k + 9)), .int 0, .int 0, .int 0]), .inl (g.2.2.2.1, 8, .inl (fun _ => 0)), .inl (g.2.2.2.1, 8, .inl (fun _ => 0)), .inl (g.2.2.2.1, 8, .inl (fun _ => 0))] H := hP
  show W p l e rm0_init s m args below meth c H _ 9 86 _ (F0 m 36 ls [.ref (ga g (k + 6)), .int (1 : Int32), .ref (ga g (k + 1))])
  refine n_aast (i := 1) (j := 1) (jo := 6) X hP hS rfl (Nat.le_of_ble_eq_true rfl) rfl (Nat.le_of_ble_eq_true rfl) (by decide +kernel) (by decide +kernel) dX0_init_36 (fun H locs hP hS => ?_)
  replace hP : Wz g c0 k [.inr (0, [.ref (ga g (k + 1)), .int 0, .int 0]), .inl (g.2.2.2.2.2, 14, .inr (.inr (.inr (.inr (va_up (va_up (fun _ => none) 0 (some (ga g (k + 2)))) 1 (some (ga g (k + 6)))))))), .inr (4, [.int 100, .int 200, .int 0, .int 0, .int 0, .int 0, .ref (ga g (k + 3)), .ref (ga g (k + 4)), .ref (ga g (k + 5)), .int 0, .int 0, .int 0]), .inl (g.2.2.2.1, 8, .inl (fun _ => 0)), .inl (g.2.2.2.1, 8, .inl (fun _ => 0)), .inl (g.2.2.2.1, 8, .inl (fun _ => 0)), .inr (4, [.int 100, .int 200, .int 0, .int 0, .int 0, .int 0, .ref (ga g (k + 7)), .ref (ga g (k + 8)), .ref (ga g (k + 9)), .int 0, .int 0, .int 0]), .inl (g.2.2.2.1, 8, .inl (fun _ => 0)), .inl (g.2.2.2.1, 8, .inl (fun _ => 0)), .inl (g.2.2.2.1, 8, .inl (fun _ => 0))] H := hP
  refine lv_iinc (v := (2 : Int32)) (lv' := [(1, .int (2 : Int32)), (0, .ref (ga g k))]) hx hb dX0_init_37 hl (k := 0) rfl (by decide +kernel) (by decide) rfl (fun ls hl => ?_)
  refine lv_goto (tgt := 15) hx hb dX0_init_40 (by decide) ?_
  refine lv_iload_n hx hb dX0_init_15 rfl (lv_at hl 0 rfl) ?_
  refine lv_aload_n hx hb dX0_init_16 rfl (lv_at hl 1 rfl) ?_
  refine n_get (i := 0) (j := 0) X hP rfl (Nat.le_of_ble_eq_true rfl) rfl inX0 (by decide) k_100 rfl dX0_init_17 ?_
  refine n_alenq (i := 1) (v := (14 : Int32)) X hP rfl (Nat.le_of_ble_eq_true rfl) (by decide +kernel) dX0_init_20 ?_
  refine lv_icmp_ge (tgt := 43) hx hb dX0_init_21 (by decide) (fun cc_ => ?_) (fun cc_ => ?_)
  · exact absurd cc_ (by decide)
  refine lv_aload_n hx hb dX0_init_24 rfl (lv_at hl 1 rfl) ?_
  refine n_get (i := 0) (j := 0) X hP rfl (Nat.le_of_ble_eq_true rfl) rfl inX0 (by decide) k_100 rfl dX0_init_25 ?_
  refine lv_iload_n hx hb dX0_init_28 rfl (lv_at hl 0 rfl) ?_
  refine n_new (ci := 4) (fs := [.int 0, .int 0, .int 0, .int 0, .int 0, .int 0, .null, .null, .null, .int 0, .int 0, .int 0]) X hP hS (by show k + 1 + 9 = k + 10; omega) rfl inX5 tyX5 tyX5_ok kx_97 kx_40 kx_3 (fun j hj => by rcases (show j = 0 ∨ j = 1 ∨ j = 2 ∨ j = 3 ∨ j = 4 ∨ j = 5 ∨ j = 6 ∨ j = 7 ∨ j = 8 ∨ j = 9 ∨ j = 10 ∨ j = 11 by omega) with rfl | rfl | rfl | rfl | rfl | rfl | rfl | rfl | rfl | rfl | rfl | rfl <;> rfl) (Nat.le_of_ble_eq_true rfl) (Nat.le_of_ble_eq_true rfl) dX0_init_29 (fun H hP hS => ?_)
  replace hP : Wz g c0 k [.inr (0, [.ref (ga g (k + 1)), .int 0, .int 0]), .inl (g.2.2.2.2.2, 14, .inr (.inr (.inr (.inr (va_up (va_up (fun _ => none) 0 (some (ga g (k + 2)))) 1 (some (ga g (k + 6)))))))), .inr (4, [.int 100, .int 200, .int 0, .int 0, .int 0, .int 0, .ref (ga g (k + 3)), .ref (ga g (k + 4)), .ref (ga g (k + 5)), .int 0, .int 0, .int 0]), .inl (g.2.2.2.1, 8, .inl (fun _ => 0)), .inl (g.2.2.2.1, 8, .inl (fun _ => 0)), .inl (g.2.2.2.1, 8, .inl (fun _ => 0)), .inr (4, [.int 100, .int 200, .int 0, .int 0, .int 0, .int 0, .ref (ga g (k + 7)), .ref (ga g (k + 8)), .ref (ga g (k + 9)), .int 0, .int 0, .int 0]), .inl (g.2.2.2.1, 8, .inl (fun _ => 0)), .inl (g.2.2.2.1, 8, .inl (fun _ => 0)), .inl (g.2.2.2.1, 8, .inl (fun _ => 0)), .inr (4, [.int 0, .int 0, .int 0, .int 0, .int 0, .int 0, .null, .null, .null, .int 0, .int 0, .int 0])] H := hP
  show W p l e rm0_init s m args below meth c H _ 10 98 _ (F0 m 32 ls [.ref (ga g (k + 10)), .int (2 : Int32), .ref (ga g (k + 1))])
  refine lv_dup hx hb dX0_init_32 rfl ?_
  refine n_callN (mc := 3) (ms := 24) (rest := [.ref (ga g (k + 10)), .int (2 : Int32), .ref (ga g (k + 1))]) [.inr (0, [.ref (ga g (k + 1)), .int 0, .int 0]), .inl (g.2.2.2.2.2, 14, .inr (.inr (.inr (.inr (va_up (va_up (fun _ => none) 0 (some (ga g (k + 2)))) 1 (some (ga g (k + 6)))))))), .inr (4, [.int 100, .int 200, .int 0, .int 0, .int 0, .int 0, .ref (ga g (k + 3)), .ref (ga g (k + 4)), .ref (ga g (k + 5)), .int 0, .int 0, .int 0]), .inl (g.2.2.2.1, 8, .inl (fun _ => 0)), .inl (g.2.2.2.1, 8, .inl (fun _ => 0)), .inl (g.2.2.2.1, 8, .inl (fun _ => 0)), .inr (4, [.int 100, .int 200, .int 0, .int 0, .int 0, .int 0, .ref (ga g (k + 7)), .ref (ga g (k + 8)), .ref (ga g (k + 9)), .int 0, .int 0, .int 0]), .inl (g.2.2.2.1, 8, .inl (fun _ => 0)), .inl (g.2.2.2.1, 8, .inl (fun _ => 0)), .inl (g.2.2.2.1, 8, .inl (fun _ => 0))] [.inr (4, [.int 0, .int 0, .int 0, .int 0, .int 0, .int 0, .null, .null, .null, .int 0, .int 0, .int 0])] [.inr (4, [.int 100, .int 200, .int 0, .int 0, .int 0, .int 0, .ref (ga g (k + 11)), .ref (ga g (k + 12)), .ref (ga g (k + 13)), .int 0, .int 0, .int 0]), .inl (g.2.2.2.1, 8, .inl (fun _ => 0)), .inl (g.2.2.2.1, 8, .inl (fun _ => 0)), .inl (g.2.2.2.1, 8, .inl (fun _ => 0))] X (c5_init l g hg _ _) rfl cal_X5_init im_X5_init X.2.2.2.2.2.2.1 rfl ⟨rfl, rfl⟩ ⟨Nat.le_of_ble_eq_true rfl, Nat.le_of_ble_eq_true rfl⟩ hP hS (by show k + 1 + 10 = k + 11; omega) (Nat.succ_pos _) hl.1 (Nat.le_of_ble_eq_true rfl) dX0_init_33 ⟨Nat.le_of_ble_eq_true rfl, Nat.le_of_ble_eq_true rfl⟩ (fun H locs hP hS => ?_)
  replace hP : Wz g c0 k [.inr (0, [.ref (ga g (k + 1)), .int 0, .int 0]), .inl (g.2.2.2.2.2, 14, .inr (.inr (.inr (.inr (va_up (va_up (fun _ => none) 0 (some (ga g (k + 2)))) 1 (some (ga g (k + 6)))))))), .inr (4, [.int 100, .int 200, .int 0, .int 0, .int 0, .int 0, .ref (ga g (k + 3)), .ref (ga g (k + 4)), .ref (ga g (k + 5)), .int 0, .int 0, .int 0]), .inl (g.2.2.2.1, 8, .inl (fun _ => 0)), .inl (g.2.2.2.1, 8, .inl (fun _ => 0)), .inl (g.2.2.2.1, 8, .inl (fun _ => 0)), .inr (4, [.int 100, .int 200, .int 0, .int 0, .int 0, .int 0, .ref (ga g (k + 7)), .ref (ga g (k + 8)), .ref (ga g (k + 9)), .int 0, .int 0, .int 0]), .inl (g.2.2.2.1, 8, .inl (fun _ => 0)), .inl (g.2.2.2.1, 8, .inl (fun _ => 0)), .inl (g.2.2.2.1, 8, .inl (fun _ => 0)), .inr (4, [.int 100, .int 200, .int 0, .int 0, .int 0, .int 0, .ref (ga g (k + 11)), .ref (ga g (k + 12)), .ref (ga g (k + 13)), .int 0, .int 0, .int 0]), .inl (g.2.2.2.1, 8, .inl (fun _ => 0)), .inl (g.2.2.2.1, 8, .inl (fun _ => 0)), .inl (g.2.2.2.1, 8, .inl (fun _ => 0))] H := hP
  show W p l e rm0_init s m args below meth c H _ 13 122 _ (F0 m 36 ls [.ref (ga g (k + 10)), .int (2 : Int32), .ref (ga g (k + 1))])
  refine n_aast (i := 1) (j := 2) (jo := 10) X hP hS rfl (Nat.le_of_ble_eq_true rfl) rfl (Nat.le_of_ble_eq_true rfl) (by decide +kernel) (by decide +kernel) dX0_init_36 (fun H locs hP hS => ?_)
  replace hP : Wz g c0 k [.inr (0, [.ref (ga g (k + 1)), .int 0, .int 0]), .inl (g.2.2.2.2.2, 14, .inr (.inr (.inr (.inr (va_up (va_up (va_up (fun _ => none) 0 (some (ga g (k + 2)))) 1 (some (ga g (k + 6)))) 2 (some (ga g (k + 10)))))))), .inr (4, [.int 100, .int 200, .int 0, .int 0, .int 0, .int 0, .ref (ga g (k + 3)), .ref (ga g (k + 4)), .ref (ga g (k + 5)), .int 0, .int 0, .int 0]), .inl (g.2.2.2.1, 8, .inl (fun _ => 0)), .inl (g.2.2.2.1, 8, .inl (fun _ => 0)), .inl (g.2.2.2.1, 8, .inl (fun _ => 0)), .inr (4, [.int 100, .int 200, .int 0, .int 0, .int 0, .int 0, .ref (ga g (k + 7)), .ref (ga g (k + 8)), .ref (ga g (k + 9)), .int 0, .int 0, .int 0]), .inl (g.2.2.2.1, 8, .inl (fun _ => 0)), .inl (g.2.2.2.1, 8, .inl (fun _ => 0)), .inl (g.2.2.2.1, 8, .inl (fun _ => 0)), .inr (4, [.int 100, .int 200, .int 0, .int 0, .int 0, .int 0, .ref (ga g (k + 11)), .ref (ga g (k + 12)), .ref (ga g (k + 13)), .int 0, .int 0, .int 0]), .inl (g.2.2.2.1, 8, .inl (fun _ => 0)), .inl (g.2.2.2.1, 8, .inl (fun _ => 0)), .inl (g.2.2.2.1, 8, .inl (fun _ => 0))] H := hP
  refine lv_iinc (v := (3 : Int32)) (lv' := [(1, .int (3 : Int32)), (0, .ref (ga g k))]) hx hb dX0_init_37 hl (k := 0) rfl (by decide +kernel) (by decide) rfl (fun ls hl => ?_)
  refine lv_goto (tgt := 15) hx hb dX0_init_40 (by decide) ?_
  refine lv_iload_n hx hb dX0_init_15 rfl (lv_at hl 0 rfl) ?_
  refine lv_aload_n hx hb dX0_init_16 rfl (lv_at hl 1 rfl) ?_
  refine n_get (i := 0) (j := 0) X hP rfl (Nat.le_of_ble_eq_true rfl) rfl inX0 (by decide) k_100 rfl dX0_init_17 ?_
  refine n_alenq (i := 1) (v := (14 : Int32)) X hP rfl (Nat.le_of_ble_eq_true rfl) (by decide +kernel) dX0_init_20 ?_
  refine lv_icmp_ge (tgt := 43) hx hb dX0_init_21 (by decide) (fun cc_ => ?_) (fun cc_ => ?_)
  · exact absurd cc_ (by decide)
  refine lv_aload_n hx hb dX0_init_24 rfl (lv_at hl 1 rfl) ?_
  refine n_get (i := 0) (j := 0) X hP rfl (Nat.le_of_ble_eq_true rfl) rfl inX0 (by decide) k_100 rfl dX0_init_25 ?_
  refine lv_iload_n hx hb dX0_init_28 rfl (lv_at hl 0 rfl) ?_
  refine n_new (ci := 4) (fs := [.int 0, .int 0, .int 0, .int 0, .int 0, .int 0, .null, .null, .null, .int 0, .int 0, .int 0]) X hP hS (by show k + 1 + 13 = k + 14; omega) rfl inX5 tyX5 tyX5_ok kx_97 kx_40 kx_3 (fun j hj => by rcases (show j = 0 ∨ j = 1 ∨ j = 2 ∨ j = 3 ∨ j = 4 ∨ j = 5 ∨ j = 6 ∨ j = 7 ∨ j = 8 ∨ j = 9 ∨ j = 10 ∨ j = 11 by omega) with rfl | rfl | rfl | rfl | rfl | rfl | rfl | rfl | rfl | rfl | rfl | rfl <;> rfl) (Nat.le_of_ble_eq_true rfl) (Nat.le_of_ble_eq_true rfl) dX0_init_29 (fun H hP hS => ?_)
  replace hP : Wz g c0 k [.inr (0, [.ref (ga g (k + 1)), .int 0, .int 0]), .inl (g.2.2.2.2.2, 14, .inr (.inr (.inr (.inr (va_up (va_up (va_up (fun _ => none) 0 (some (ga g (k + 2)))) 1 (some (ga g (k + 6)))) 2 (some (ga g (k + 10)))))))), .inr (4, [.int 100, .int 200, .int 0, .int 0, .int 0, .int 0, .ref (ga g (k + 3)), .ref (ga g (k + 4)), .ref (ga g (k + 5)), .int 0, .int 0, .int 0]), .inl (g.2.2.2.1, 8, .inl (fun _ => 0)), .inl (g.2.2.2.1, 8, .inl (fun _ => 0)), .inl (g.2.2.2.1, 8, .inl (fun _ => 0)), .inr (4, [.int 100, .int 200, .int 0, .int 0, .int 0, .int 0, .ref (ga g (k + 7)), .ref (ga g (k + 8)), .ref (ga g (k + 9)), .int 0, .int 0, .int 0]), .inl (g.2.2.2.1, 8, .inl (fun _ => 0)), .inl (g.2.2.2.1, 8, .inl (fun _ => 0)), .inl (g.2.2.2.1, 8, .inl (fun _ => 0)), .inr (4, [.int 100, .int 200, .int 0, .int 0, .int 0, .int 0, .ref (ga g (k + 11)), .ref (ga g (k + 12)), .ref (ga g (k + 13)), .int 0, .int 0, .int 0]), .inl (g.2.2.2.1, 8, .inl (fun _ => 0)), .inl (g.2.2.2.1, 8, .inl (fun _ => 0)), .inl (g.2.2.2.1, 8, .inl (fun _ => 0)), .inr (4, [.int 0, .int 0, .int 0, .int 0, .int 0, .int 0, .null, .null, .null, .int 0, .int 0, .int 0])] H := hP
  show W p l e rm0_init s m args below meth c H _ 14 134 _ (F0 m 32 ls [.ref (ga g (k + 14)), .int (3 : Int32), .ref (ga g (k + 1))])
  refine lv_dup hx hb dX0_init_32 rfl ?_
  refine n_callN (mc := 3) (ms := 24) (rest := [.ref (ga g (k + 14)), .int (3 : Int32), .ref (ga g (k + 1))]) [.inr (0, [.ref (ga g (k + 1)), .int 0, .int 0]), .inl (g.2.2.2.2.2, 14, .inr (.inr (.inr (.inr (va_up (va_up (va_up (fun _ => none) 0 (some (ga g (k + 2)))) 1 (some (ga g (k + 6)))) 2 (some (ga g (k + 10)))))))), .inr (4, [.int 100, .int 200, .int 0, .int 0, .int 0, .int 0, .ref (ga g (k + 3)), .ref (ga g (k + 4)), .ref (ga g (k + 5)), .int 0, .int 0, .int 0]), .inl (g.2.2.2.1, 8, .inl (fun _ => 0)), .inl (g.2.2.2.1, 8, .inl (fun _ => 0)), .inl (g.2.2.2.1, 8, .inl (fun _ => 0)), .inr (4, [.int 100, .int 200, .int 0, .int 0, .int 0, .int 0, .ref (ga g (k + 7)), .ref (ga g (k + 8)), .ref (ga g (k + 9)), .int 0, .int 0, .int 0]), .inl (g.2.2.2.1, 8, .inl (fun _ => 0)), .inl (g.2.2.2.1, 8, .inl (fun _ => 0)), .inl (g.2.2.2.1, 8, .inl (fun _ => 0)), .inr (4, [.int 100, .int 200, .int 0, .int 0, .int 0, .int 0, .ref (ga g (k + 11)), .ref (ga g (k + 12)), .ref (ga g (k + 13)), .int 0, .int 0, .int 0]), .inl (g.2.2.2.1, 8, .inl (fun _ => 0)), .inl (g.2.2.2.1, 8, .inl (fun _ => 0)), .inl (g.2.2.2.1, 8, .inl (fun _ => 0))] [.inr (4, [.int 0, .int 0, .int 0, .int 0, .int 0, .int 0, .null, .null, .null, .int 0, .int 0, .int 0])] [.inr (4, [.int 100, .int 200, .int 0, .int 0, .int 0, .int 0, .ref (ga g (k + 15)), .ref (ga g (k + 16)), .ref (ga g (k + 17)), .int 0, .int 0, .int 0]), .inl (g.2.2.2.1, 8, .inl (fun _ => 0)), .inl (g.2.2.2.1, 8, .inl (fun _ => 0)), .inl (g.2.2.2.1, 8, .inl (fun _ => 0))] X (c5_init l g hg _ _) rfl cal_X5_init im_X5_init X.2.2.2.2.2.2.1 rfl ⟨rfl, rfl⟩ ⟨Nat.le_of_ble_eq_true rfl, Nat.le_of_ble_eq_true rfl⟩ hP hS (by show k + 1 + 14 = k + 15; omega) (Nat.succ_pos _) hl.1 (Nat.le_of_ble_eq_true rfl) dX0_init_33 ⟨Nat.le_of_ble_eq_true rfl, Nat.le_of_ble_eq_true rfl⟩ (fun H locs hP hS => ?_)
  replace hP : Wz g c0 k [.inr (0, [.ref (ga g (k + 1)), .int 0, .int 0]), .inl (g.2.2.2.2.2, 14, .inr (.inr (.inr (.inr (va_up (va_up (va_up (fun _ => none) 0 (some (ga g (k + 2)))) 1 (some (ga g (k + 6)))) 2 (some (ga g (k + 10)))))))), .inr (4, [.int 100, .int 200, .int 0, .int 0, .int 0, .int 0, .ref (ga g (k + 3)), .ref (ga g (k + 4)), .ref (ga g (k + 5)), .int 0, .int 0, .int 0]), .inl (g.2.2.2.1, 8, .inl (fun _ => 0)), .inl (g.2.2.2.1, 8, .inl (fun _ => 0)), .inl (g.2.2.2.1, 8, .inl (fun _ => 0)), .inr (4, [.int 100, .int 200, .int 0, .int 0, .int 0, .int 0, .ref (ga g (k + 7)), .ref (ga g (k + 8)), .ref (ga g (k + 9)), .int 0, .int 0, .int 0]), .inl (g.2.2.2.1, 8, .inl (fun _ => 0)), .inl (g.2.2.2.1, 8, .inl (fun _ => 0)), .inl (g.2.2.2.1, 8, .inl (fun _ => 0)), .inr (4, [.int 100, .int 200, .int 0, .int 0, .int 0, .int 0, .ref (ga g (k + 11)), .ref (ga g (k + 12)), .ref (ga g (k + 13)), .int 0, .int 0, .int 0]), .inl (g.2.2.2.1, 8, .inl (fun _ => 0)), .inl (g.2.2.2.1, 8, .inl (fun _ => 0)), .inl (g.2.2.2.1, 8, .inl (fun _ => 0)), .inr (4, [.int 100, .int 200, .int 0, .int 0, .int 0, .int 0, .ref (ga g (k + 15)), .ref (ga g (k + 16)), .ref (ga g (k + 17)), .int 0, .int 0, .int 0]), .inl (g.2.2.2.1, 8, .inl (fun _ => 0)), .inl (g.2.2.2.1, 8, .inl (fun _ => 0)), .inl (g.2.2.2.1, 8, .inl (fun _ => 0))] H := hP
  show W p l e rm0_init s m args below meth c H _ 17 158 _ (F0 m 36 ls [.ref (ga g (k + 14)), .int (3 : Int32), .ref (ga g (k + 1))])
  refine n_aast (i := 1) (j := 3) (jo := 14) X hP hS rfl (Nat.le_of_ble_eq_true rfl) rfl (Nat.le_of_ble_eq_true rfl) (by decide +kernel) (by decide +kernel) dX0_init_36 (fun H locs hP hS => ?_)
  replace hP : Wz g c0 k [.inr (0, [.ref (ga g (k + 1)), .int 0, .int 0]), .inl (g.2.2.2.2.2, 14, .inr (.inr (.inr (.inr (va_up (va_up (va_up (va_up (fun _ => none) 0 (some (ga g (k + 2)))) 1 (some (ga g (k + 6)))) 2 (some (ga g (k + 10)))) 3 (some (ga g (k + 14)))))))), .inr (4, [.int 100, .int 200, .int 0, .int 0, .int 0, .int 0, .ref (ga g (k + 3)), .ref (ga g (k + 4)), .ref (ga g (k + 5)), .int 0, .int 0, .int 0]), .inl (g.2.2.2.1, 8, .inl (fun _ => 0)), .inl (g.2.2.2.1, 8, .inl (fun _ => 0)), .inl (g.2.2.2.1, 8, .inl (fun _ => 0)), .inr (4, [.int 100, .int 200, .int 0, .int 0, .int 0, .int 0, .ref (ga g (k + 7)), .ref (ga g (k + 8)), .ref (ga g (k + 9)), .int 0, .int 0, .int 0]), .inl (g.2.2.2.1, 8, .inl (fun _ => 0)), .inl (g.2.2.2.1, 8, .inl (fun _ => 0)), .inl (g.2.2.2.1, 8, .inl (fun _ => 0)), .inr (4, [.int 100, .int 200, .int 0, .int 0, .int 0, .int 0, .ref (ga g (k + 11)), .ref (ga g (k + 12)), .ref (ga g (k + 13)), .int 0, .int 0, .int 0]), .inl (g.2.2.2.1, 8, .inl (fun _ => 0)), .inl (g.2.2.2.1, 8, .inl (fun _ => 0)), .inl (g.2.2.2.1, 8, .inl (fun _ => 0)), .inr (4, [.int 100, .int 200, .int 0, .int 0, .int 0, .int 0, .ref (ga g (k + 15)), .ref (ga g (k + 16)), .ref (ga g (k + 17)), .int 0, .int 0, .int 0]), .inl (g.2.2.2.1, 8, .inl (fun _ => 0)), .inl (g.2.2.2.1, 8, .inl (fun _ => 0)), .inl (g.2.2.2.1, 8, .inl (fun _ => 0))] H := hP
  refine lv_iinc (v := (4 : Int32)) (lv' := [(1, .int (4 : Int32)), (0, .ref (ga g k))]) hx hb dX0_init_37 hl (k := 0) rfl (by decide +kernel) (by decide) rfl (fun ls hl => ?_)
  refine lv_goto (tgt := 15) hx hb dX0_init_40 (by decide) ?_
  refine lv_iload_n hx hb dX0_init_15 rfl (lv_at hl 0 rfl) ?_
  refine lv_aload_n hx hb dX0_init_16 rfl (lv_at hl 1 rfl) ?_
  refine n_get (i := 0) (j := 0) X hP rfl (Nat.le_of_ble_eq_true rfl) rfl inX0 (by decide) k_100 rfl dX0_init_17 ?_
  refine n_alenq (i := 1) (v := (14 : Int32)) X hP rfl (Nat.le_of_ble_eq_true rfl) (by decide +kernel) dX0_init_20 ?_
  refine lv_icmp_ge (tgt := 43) hx hb dX0_init_21 (by decide) (fun cc_ => ?_) (fun cc_ => ?_)
  · exact absurd cc_ (by decide)
  refine lv_aload_n hx hb dX0_init_24 rfl (lv_at hl 1 rfl) ?_
  refine n_get (i := 0) (j := 0) X hP rfl (Nat.le_of_ble_eq_true rfl) rfl inX0 (by decide) k_100 rfl dX0_init_25 ?_
  refine lv_iload_n hx hb dX0_init_28 rfl (lv_at hl 0 rfl) ?_
  refine n_new (ci := 4) (fs := [.int 0, .int 0, .int 0, .int 0, .int 0, .int 0, .null, .null, .null, .int 0, .int 0, .int 0]) X hP hS (by show k + 1 + 17 = k + 18; omega) rfl inX5 tyX5 tyX5_ok kx_97 kx_40 kx_3 (fun j hj => by rcases (show j = 0 ∨ j = 1 ∨ j = 2 ∨ j = 3 ∨ j = 4 ∨ j = 5 ∨ j = 6 ∨ j = 7 ∨ j = 8 ∨ j = 9 ∨ j = 10 ∨ j = 11 by omega) with rfl | rfl | rfl | rfl | rfl | rfl | rfl | rfl | rfl | rfl | rfl | rfl <;> rfl) (Nat.le_of_ble_eq_true rfl) (Nat.le_of_ble_eq_true rfl) dX0_init_29 (fun H hP hS => ?_)
  replace hP : Wz g c0 k [.inr (0, [.ref (ga g (k + 1)), .int 0, .int 0]), .inl (g.2.2.2.2.2, 14, .inr (.inr (.inr (.inr (va_up (va_up (va_up (va_up (fun _ => none) 0 (some (ga g (k + 2)))) 1 (some (ga g (k + 6)))) 2 (some (ga g (k + 10)))) 3 (some (ga g (k + 14)))))))), .inr (4, [.int 100, .int 200, .int 0, .int 0, .int 0, .int 0, .ref (ga g (k + 3)), .ref (ga g (k + 4)), .ref (ga g (k + 5)), .int 0, .int 0, .int 0]), .inl (g.2.2.2.1, 8, .inl (fun _ => 0)), .inl (g.2.2.2.1, 8, .inl (fun _ => 0)), .inl (g.2.2.2.1, 8, .inl (fun _ => 0)), .inr (4, [.int 100, .int 200, .int 0, .int 0, .int 0, .int 0, .ref (ga g (k + 7)), .ref (ga g (k + 8)), .ref (ga g (k + 9)), .int 0, .int 0, .int 0]), .inl (g.2.2.2.1, 8, .inl (fun _ => 0)), .inl (g.2.2.2.1, 8, .inl (fun _ => 0)), .inl (g.2.2.2.1, 8, .inl (fun _ => 0)), .inr (4, [.int 100, .int 200, .int 0, .int 0, .int 0, .int 0, .ref (ga g (k + 11)), .ref (ga g (k + 12)), .ref (ga g (k + 13)), .int 0, .int 0, .int 0]), .inl (g.2.2.2.1, 8, .inl (fun _ => 0)), .inl (g.2.2.2.1, 8, .inl (fun _ => 0)), .inl (g.2.2.2.1, 8, .inl (fun _ => 0)), .inr (4, [.int 100, .int 200, .int 0, .int 0, .int 0, .int 0, .ref (ga g (k + 15)), .ref (ga g (k + 16)), .ref (ga g (k + 17)), .int 0, .int 0, .int 0]), .inl (g.2.2.2.1, 8, .inl (fun _ => 0)), .inl (g.2.2.2.1, 8, .inl (fun _ => 0)), .inl (g.2.2.2.1, 8, .inl (fun _ => 0)), .inr (4, [.int 0, .int 0, .int 0, .int 0, .int 0, .int 0, .null, .null, .null, .int 0, .int 0, .int 0])] H := hP
  show W p l e rm0_init s m args below meth c H _ 18 170 _ (F0 m 32 ls [.ref (ga g (k + 18)), .int (4 : Int32), .ref (ga g (k + 1))])
  refine lv_dup hx hb dX0_init_32 rfl ?_
  refine n_callN (mc := 3) (ms := 24) (rest := [.ref (ga g (k + 18)), .int (4 : Int32), .ref (ga g (k + 1))]) [.inr (0, [.ref (ga g (k + 1)), .int 0, .int 0]), .inl (g.2.2.2.2.2, 14, .inr (.inr (.inr (.inr (va_up (va_up (va_up (va_up (fun _ => none) 0 (some (ga g (k + 2)))) 1 (some (ga g (k + 6)))) 2 (some (ga g (k + 10)))) 3 (some (ga g (k + 14)))))))), .inr (4, [.int 100, .int 200, .int 0, .int 0, .int 0, .int 0, .ref (ga g (k + 3)), .ref (ga g (k + 4)), .ref (ga g (k + 5)), .int 0, .int 0, .int 0]), .inl (g.2.2.2.1, 8, .inl (fun _ => 0)), .inl (g.2.2.2.1, 8, .inl (fun _ => 0)), .inl (g.2.2.2.1, 8, .inl (fun _ => 0)), .inr (4, [.int 100, .int 200, .int 0, .int 0, .int 0, .int 0, .ref (ga g (k + 7)), .ref (ga g (k + 8)), .ref (ga g (k + 9)), .int 0, .int 0, .int 0]), .inl (g.2.2.2.1, 8, .inl (fun _ => 0)), .inl (g.2.2.2.1, 8, .inl (fun _ => 0)), .inl (g.2.2.2.1, 8, .inl (fun _ => 0)), .inr (4, [.int 100, .int 200, .int 0, .int 0, .int 0, .int 0, .ref (ga g (k + 11)), .ref (ga g (k + 12)), .ref (ga g (k + 13)), .int 0, .int 0, .int 0]), .inl (g.2.2.2.1, 8, .inl (fun _ => 0)), .inl (g.2.2.2.1, 8, .inl (fun _ => 0)), .inl (g.2.2.2.1, 8, .inl (fun _ => 0)), .inr (4, [.int 100, .int 200, .int 0, .int 0, .int 0, .int 0, .ref (ga g (k + 15)), .ref (ga g (k + 16)), .ref (ga g (k + 17)), .int 0, .int 0, .int 0]), .inl (g.2.2.2.1, 8, .inl (fun _ => 0)), .inl (g.2.2.2.1, 8, .inl (fun _ => 0)), .inl (g.2.2.2.1, 8, .inl (fun _ => 0))] [.inr (4, [.int 0, .int 0, .int 0, .int 0, .int 0, .int 0, .null, .null, .null, .int 0, .int 0, .int 0])] [.inr (4, [.int 100, .int 200, .int 0, .int 0, .int 0, .int 0, .ref (ga g (k + 19)), .ref (ga g (k + 20)), .ref (ga g (k + 21)), .int 0, .int 0, .int 0]), .inl (g.2.2.2.1, 8, .inl (fun _ => 0)), .inl (g.2.2.2.1, 8, .inl (fun _ => 0)), .inl (g.2.2.2.1, 8, .inl (fun _ => 0))] X (c5_init l g hg _ _) rfl cal_X5_init im_X5_init X.2.2.2.2.2.2.1 rfl ⟨rfl, rfl⟩ ⟨Nat.le_of_ble_eq_true rfl, Nat.le_of_ble_eq_true rfl⟩ hP hS (by show k + 1 + 18 = k + 19; omega) (Nat.succ_pos _) hl.1 (Nat.le_of_ble_eq_true rfl) dX0_init_33 ⟨Nat.le_of_ble_eq_true rfl, Nat.le_of_ble_eq_true rfl⟩ (fun H locs hP hS => ?_)
  replace hP : Wz g c0 k [.inr (0, [.ref (ga g (k + 1)), .int 0, .int 0]), .inl (g.2.2.2.2.2, 14, .inr (.inr (.inr (.inr (va_up (va_up (va_up (va_up (fun _ => none) 0 (some (ga g (k + 2)))) 1 (some (ga g (k + 6)))) 2 (some (ga g (k + 10)))) 3 (some (ga g (k + 14)))))))), .inr (4, [.int 100, .int 200, .int 0, .int 0, .int 0, .int 0, .ref (ga g (k + 3)), .ref (ga g (k + 4)), .ref (ga g (k + 5)), .int 0, .int 0, .int 0]), .inl (g.2.2.2.1, 8, .inl (fun _ => 0)), .inl (g.2.2.2.1, 8, .inl (fun _ => 0)), .inl (g.2.2.2.1, 8, .inl (fun _ => 0)), .inr (4, [.int 100, .int 200, .int 0, .int 0, .int 0, .int 0, .ref (ga g (k + 7)), .ref (ga g (k + 8)), .ref (ga g (k + 9)), .int 0, .int 0, .int 0]), .inl (g.2.2.2.1, 8, .inl (fun _ => 0)), .inl (g.2.2.2.1, 8, .inl (fun _ => 0)), .inl (g.2.2.2.1, 8, .inl (fun _ => 0)), .inr (4, [.int 100, .int 200, .int 0, .int 0, .int 0, .int 0, .ref (ga g (k + 11)), .ref (ga g (k + 12)), .ref (ga g (k + 13)), .int 0, .int 0, .int 0]), .inl (g.2.2.2.1, 8, .inl (fun _ => 0)), .inl (g.2.2.2.1, 8, .inl (fun _ => 0)), .inl (g.2.2.2.1, 8, .inl (fun _ => 0)), .inr (4, [.int 100, .int 200, .int 0, .int 0, .int 0, .int 0, .ref (ga g (k + 15)), .ref (ga g (k + 16)), .ref (ga g (k + 17)), .int 0, .int 0, .int 0]), .inl (g.2.2.2.1, 8, .inl (fun _ => 0)), .inl (g.2.2.2.1, 8, .inl (fun _ => 0)), .inl (g.2.2.2.1, 8, .inl (fun _ => 0)), .inr (4, [.int 100, .int 200, .int 0, .int 0, .int 0, .int 0, .ref (ga g (k + 19)), .ref (ga g (k + 20)), .ref (ga g (k + 21)), .int 0, .int 0, .int 0]), .inl (g.2.2.2.1, 8, .inl (fun _ => 0)), .inl (g.2.2.2.1, 8, .inl (fun _ => 0)), .inl (g.2.2.2.1, 8, .inl (fun _ => 0))] H := hP
  show W p l e rm0_init s m args below meth c H _ 21 194 _ (F0 m 36 ls [.ref (ga g (k + 18)), .int (4 : Int32), .ref (ga g (k + 1))])
  refine n_aast (i := 1) (j := 4) (jo := 18) X hP hS rfl (Nat.le_of_ble_eq_true rfl) rfl (Nat.le_of_ble_eq_true rfl) (by decide +kernel) (by decide +kernel) dX0_init_36 (fun H locs hP hS => ?_)
  replace hP : Wz g c0 k [.inr (0, [.ref (ga g (k + 1)), .int 0, .int 0]), .inl (g.2.2.2.2.2, 14, .inr (.inr (.inr (.inr (va_up (va_up (va_up (va_up (va_up (fun _ => none) 0 (some (ga g (k + 2)))) 1 (some (ga g (k + 6)))) 2 (some (ga g (k + 10)))) 3 (some (ga g (k + 14)))) 4 (some (ga g (k + 18)))))))), .inr (4, [.int 100, .int 200, .int 0, .int 0, .int 0, .int 0, .ref (ga g (k + 3)), .ref (ga g (k + 4)), .ref (ga g (k + 5)), .int 0, .int 0, .int 0]), .inl (g.2.2.2.1, 8, .inl (fun _ => 0)), .inl (g.2.2.2.1, 8, .inl (fun _ => 0)), .inl (g.2.2.2.1, 8, .inl (fun _ => 0)), .inr (4, [.int 100, .int 200, .int 0, .int 0, .int 0, .int 0, .ref (ga g (k + 7)), .ref (ga g (k + 8)), .ref (ga g (k + 9)), .int 0, .int 0, .int 0]), .inl (g.2.2.2.1, 8, .inl (fun _ => 0)), .inl (g.2.2.2.1, 8, .inl (fun _ => 0)), .inl (g.2.2.2.1, 8, .inl (fun _ => 0)), .inr (4, [.int 100, .int 200, .int 0, .int 0, .int 0, .int 0, .ref (ga g (k + 11)), .ref (ga g (k + 12)), .ref (ga g (k + 13)), .int 0, .int 0, .int 0]), .inl (g.2.2.2.1, 8, .inl (fun _ => 0)), .inl (g.2.2.2.1, 8, .inl (fun _ => 0)), .inl (g.2.2.2.1, 8, .inl (fun _ => 0)), .inr (4, [.int 100, .int 200, .int 0, .int 0, .int 0, .int 0, .ref (ga g (k + 15)), .ref (ga g (k + 16)), .ref (ga g (k + 17)), .int 0, .int 0, .int 0]), .inl (g.2.2.2.1, 8, .inl (fun _ => 0)), .inl (g.2.2.2.1, 8, .inl (fun _ => 0)), .inl (g.2.2.2.1, 8, .inl (fun _ => 0)), .inr (4, [.int 100, .int 200, .int 0, .int 0, .int 0, .int 0, .ref (ga g (k + 19)), .ref (ga g (k + 20)), .ref (ga g (k + 21)), .int 0, .int 0, .int 0]), .inl (g.2.2.2.1, 8, .inl (fun _ => 0)), .inl (g.2.2.2.1, 8, .inl (fun _ => 0)), .inl (g.2.2.2.1, 8, .inl (fun _ => 0))] H := hP
  refine lv_iinc (v := (5 : Int32)) (lv' := [(1, .int (5 : Int32)), (0, .ref (ga g k))]) hx hb dX0_init_37 hl (k := 0) rfl (by decide +kernel) (by decide) rfl (fun ls hl => ?_)
  refine lv_goto (tgt := 15) hx hb dX0_init_40 (by decide) ?_
  refine lv_iload_n hx hb dX0_init_15 rfl (lv_at hl 0 rfl) ?_
  refine lv_aload_n hx hb dX0_init_16 rfl (lv_at hl 1 rfl) ?_
  refine n_get (i := 0) (j := 0) X hP rfl (Nat.le_of_ble_eq_true rfl) rfl inX0 (by decide) k_100 rfl dX0_init_17 ?_
  refine n_alenq (i := 1) (v := (14 : Int32)) X hP rfl (Nat.le_of_ble_eq_true rfl) (by decide +kernel) dX0_init_20 ?_
  refine lv_icmp_ge (tgt := 43) hx hb dX0_init_21 (by decide) (fun cc_ => ?_) (fun cc_ => ?_)
  · exact absurd cc_ (by decide)
  refine lv_aload_n hx hb dX0_init_24 rfl (lv_at hl 1 rfl) ?_
  refine n_get (i := 0) (j := 0) X hP rfl (Nat.le_of_ble_eq_true rfl) rfl inX0 (by decide) k_100 rfl dX0_init_25 ?_
  refine lv_iload_n hx hb dX0_init_28 rfl (lv_at hl 0 rfl) ?_
  refine n_new (ci := 4) (fs := [.int 0, .int 0, .int 0, .int 0, .int 0, .int 0, .null, .null, .null, .int 0, .int 0, .int 0]) X hP hS (by show k + 1 + 21 = k + 22; omega) rfl inX5 tyX5 tyX5_ok kx_97 kx_40 kx_3 (fun j hj => by rcases (show j = 0 ∨ j = 1 ∨ j = 2 ∨ j = 3 ∨ j = 4 ∨ j = 5 ∨ j = 6 ∨ j = 7 ∨ j = 8 ∨ j = 9 ∨ j = 10 ∨ j = 11 by omega) with rfl | rfl | rfl | rfl | rfl | rfl | rfl | rfl | rfl | rfl | rfl | rfl <;> rfl) (Nat.le_of_ble_eq_true rfl) (Nat.le_of_ble_eq_true rfl) dX0_init_29 (fun H hP hS => ?_)
  replace hP : Wz g c0 k [.inr (0, [.ref (ga g (k + 1)), .int 0, .int 0]), .inl (g.2.2.2.2.2, 14, .inr (.inr (.inr (.inr (va_up (va_up (va_up (va_up (va_up (fun _ => none) 0 (some (ga g (k + 2)))) 1 (some (ga g (k + 6)))) 2 (some (ga g (k + 10)))) 3 (some (ga g (k + 14)))) 4 (some (ga g (k + 18)))))))), .inr (4, [.int 100, .int 200, .int 0, .int 0, .int 0, .int 0, .ref (ga g (k + 3)), .ref (ga g (k + 4)), .ref (ga g (k + 5)), .int 0, .int 0, .int 0]), .inl (g.2.2.2.1, 8, .inl (fun _ => 0)), .inl (g.2.2.2.1, 8, .inl (fun _ => 0)), .inl (g.2.2.2.1, 8, .inl (fun _ => 0)), .inr (4, [.int 100, .int 200, .int 0, .int 0, .int 0, .int 0, .ref (ga g (k + 7)), .ref (ga g (k + 8)), .ref (ga g (k + 9)), .int 0, .int 0, .int 0]), .inl (g.2.2.2.1, 8, .inl (fun _ => 0)), .inl (g.2.2.2.1, 8, .inl (fun _ => 0)), .inl (g.2.2.2.1, 8, .inl (fun _ => 0)), .inr (4, [.int 100, .int 200, .int 0, .int 0, .int 0, .int 0, .ref (ga g (k + 11)), .ref (ga g (k + 12)), .ref (ga g (k + 13)), .int 0, .int 0, .int 0]), .inl (g.2.2.2.1, 8, .inl (fun _ => 0)), .inl (g.2.2.2.1, 8, .inl (fun _ => 0)), .inl (g.2.2.2.1, 8, .inl (fun _ => 0)), .inr (4, [.int 100, .int 200, .int 0, .int 0, .int 0, .int 0, .ref (ga g (k + 15)), .ref (ga g (k + 16)), .ref (ga g (k + 17)), .int 0, .int 0, .int 0]), .inl (g.2.2.2.1, 8, .inl (fun _ => 0)), .inl (g.2.2.2.1, 8, .inl (fun _ => 0)), .inl (g.2.2.2.1, 8, .inl (fun _ => 0)), .inr (4, [.int 100, .int 200, .int 0, .int 0, .int 0, .int 0, .ref (ga g (k + 19)), .ref (ga g (k + 20)), .ref (ga g (k + 21)), .int 0, .int 0, .int 0]), .inl (g.2.2.2.1, 8, .inl (fun _ => 0)), .inl (g.2.2.2.1, 8, .inl (fun _ => 0)), .inl (g.2.2.2.1, 8, .inl (fun _ => 0)), .inr (4, [.int 0, .int 0, .int 0, .int 0, .int 0, .int 0, .null, .null, .null, .int 0, .int 0, .int 0])] H := hP
  show W p l e rm0_init s m args below meth c H _ 22 206 _ (F0 m 32 ls [.ref (ga g (k + 22)), .int (5 : Int32), .ref (ga g (k + 1))])
  refine lv_dup hx hb dX0_init_32 rfl ?_
  refine n_callN (mc := 3) (ms := 24) (rest := [.ref (ga g (k + 22)), .int (5 : Int32), .ref (ga g (k + 1))]) [.inr (0, [.ref (ga g (k + 1)), .int 0, .int 0]), .inl (g.2.2.2.2.2, 14, .inr (.inr (.inr (.inr (va_up (va_up (va_up (va_up (va_up (fun _ => none) 0 (some (ga g (k + 2)))) 1 (some (ga g (k + 6)))) 2 (some (ga g (k + 10)))) 3 (some (ga g (k + 14)))) 4 (some (ga g (k + 18)))))))), .inr (4, [.int 100, .int 200, .int 0, .int 0, .int 0, .int 0, .ref (ga g (k + 3)), .ref (ga g (k + 4)), .ref (ga g (k + 5)), .int 0, .int 0, .int 0]), .inl (g.2.2.2.1, 8, .inl (fun _ => 0)), .inl (g.2.2.2.1, 8, .inl (fun _ => 0)), .inl (g.2.2.2.1, 8, .inl (fun _ => 0)), .inr (4, [.int 100, .int 200, .int 0, .int 0, .int 0, .int 0, .ref (ga g (k + 7)), .ref (ga g (k + 8)), .ref (ga g (k + 9)), .int 0, .int 0, .int 0]), .inl (g.2.2.2.1, 8, .inl (fun _ => 0)), .inl (g.2.2.2.1, 8, .inl (fun _ => 0)), .inl (g.2.2.2.1, 8, .inl (fun _ => 0)), .inr (4, [.int 100, .int 200, .int 0, .int 0, .int 0, .int 0, .ref (ga g (k + 11)), .ref (ga g (k + 12)), .ref (ga g (k + 13)), .int 0, .int 0, .int 0]), .inl (g.2.2.2.1, 8, .inl (fun _ => 0)), .inl (g.2.2.2.1, 8, .inl (fun _ => 0)), .inl (g.2.2.2.1, 8, .inl (fun _ => 0)), .inr (4, [.int 100, .int 200, .int 0, .int 0, .int 0, .int 0, .ref (ga g (k + 15)), .ref (ga g (k + 16)), .ref (ga g (k + 17)), .int 0, .int 0, .int 0]), .inl (g.2.2.2.1, 8, .inl (fun _ => 0)), .inl (g.2.2.2.1, 8, .inl (fun _ => 0)), .inl (g.2.2.2.1, 8, .inl (fun _ => 0)), .inr (4, [.int 100, .int 200, .int 0, .int 0, .int 0, .int 0, .ref (ga g (k + 19)), .ref (ga g (k + 20)), .ref (ga g (k + 21)), .int 0, .int 0, .int 0]), .inl (g.2.2.2.1, 8, .inl (fun _ => 0)), .inl (g.2.2.2.1, 8, .inl (fun _ => 0)), .inl (g.2.2.2.1, 8, .inl (fun _ => 0))] [.inr (4, [.int 0, .int 0, .int 0, .int 0, .int 0, .int 0, .null, .null, .null, .int 0, .int 0, .int 0])] [.inr (4, [.int 100, .int 200, .int 0, .int 0, .int 0, .int 0, .ref (ga g (k + 23)), .ref (ga g (k + 24)), .ref (ga g (k + 25)), .int 0, .int 0, .int 0]), .inl (g.2.2.2.1, 8, .inl (fun _ => 0)), .inl (g.2.2.2.1, 8, .inl (fun _ => 0)), .inl (g.2.2.2.1, 8, .inl (fun _ => 0))] X (c5_init l g hg _ _) rfl cal_X5_init im_X5_init X.2.2.2.2.2.2.1 rfl ⟨rfl, rfl⟩ ⟨Nat.le_of_ble_eq_true rfl, Nat.le_of_ble_eq_true rfl⟩ hP hS (by show k + 1 + 22 = k + 23; omega) (Nat.succ_pos _) hl.1 (Nat.le_of_ble_eq_true rfl) dX0_init_33 ⟨Nat.le_of_ble_eq_true rfl, Nat.le_of_ble_eq_true rfl⟩ (fun H locs hP hS => ?_)
  replace hP : Wz g c0 k [.inr (0, [.ref (ga g (k + 1)), .int 0, .int 0]), .inl (g.2.2.2.2.2, 14, .inr (.inr (.inr (.inr (va_up (va_up (va_up (va_up (va_up (fun _ => none) 0 (some (ga g (k + 2)))) 1 (some (ga g (k + 6)))) 2 (some (ga g (k + 10)))) 3 (some (ga g (k + 14)))) 4 (some (ga g (k + 18)))))))), .inr (4, [.int 100, .int 200, .int 0, .int 0, .int 0, .int 0, .ref (ga g (k + 3)), .ref (ga g (k + 4)), .ref (ga g (k + 5)), .int 0, .int 0, .int 0]), .inl (g.2.2.2.1, 8, .inl (fun _ => 0)), .inl (g.2.2.2.1, 8, .inl (fun _ => 0)), .inl (g.2.2.2.1, 8, .inl (fun _ => 0)), .inr (4, [.int 100, .int 200, .int 0, .int 0, .int 0, .int 0, .ref (ga g (k + 7)), .ref (ga g (k + 8)), .ref (ga g (k + 9)), .int 0, .int 0, .int 0]), .inl (g.2.2.2.1, 8, .inl (fun _ => 0)), .inl (g.2.2.2.1, 8, .inl (fun _ => 0)), .inl (g.2.2.2.1, 8, .inl (fun _ => 0)), .inr (4, [.int 100, .int 200, .int 0, .int 0, .int 0, .int 0, .ref (ga g (k + 11)), .ref (ga g (k + 12)), .ref (ga g (k + 13)), .int 0, .int 0, .int 0]), .inl (g.2.2.2.1, 8, .inl (fun _ => 0)), .inl (g.2.2.2.1, 8, .inl (fun _ => 0)), .inl (g.2.2.2.1, 8, .inl (fun _ => 0)), .inr (4, [.int 100, .int 200, .int 0, .int 0, .int 0, .int 0, .ref (ga g (k + 15)), .ref (ga g (k + 16)), .ref (ga g (k + 17)), .int 0, .int 0, .int 0]), .inl (g.2.2.2.1, 8, .inl (fun _ => 0)), .inl (g.2.2.2.1, 8, .inl (fun _ => 0)), .inl (g.2.2.2.1, 8, .inl (fun _ => 0)), .inr (4, [.int 100, .int 200, .int 0, .int 0, .int 0, .int 0, .ref (ga g (k + 19)), .ref (ga g (k + 20)), .ref (ga g (k + 21)), .int 0, .int 0, .int 0]), .inl (g.2.2.2.1, 8, .inl (fun _ => 0)), .inl (g.2.2.2.1, 8, .inl (fun _ => 0)), .inl (g.2.2.2.1, 8, .inl (fun _ => 0)), .inr (4, [.int 100, .int 200, .int 0, .int 0, .int 0, .int 0, .ref (ga g (k + 23)), .ref (ga g (k + 24)), .ref (ga g (k + 25)), .int 0, .int 0, .int 0]), .inl (g.2.2.2.1, 8, .inl (fun _ => 0)), .inl (g.2.2.2.1, 8, .inl (fun _ => 0)), .inl (g.2.2.2.1, 8, .inl (fun _ => 0))] H := hP
  show W p l e rm0_init s m args below meth c H _ 25 230 _ (F0 m 36 ls [.ref (ga g (k + 22)), .int (5 : Int32), .ref (ga g (k + 1))])
  refine n_aast (i := 1) (j := 5) (jo := 22) X hP hS rfl (Nat.le_of_ble_eq_true rfl) rfl (Nat.le_of_ble_eq_true rfl) (by decide +kernel) (by decide +kernel) dX0_init_36 (fun H locs hP hS => ?_)
  replace hP : Wz g c0 k [.inr (0, [.ref (ga g (k + 1)), .int 0, .int 0]), .inl (g.2.2.2.2.2, 14, .inr (.inr (.inr (.inr (va_up (va_up (va_up (va_up (va_up (va_up (fun _ => none) 0 (some (ga g (k + 2)))) 1 (some (ga g (k + 6)))) 2 (some (ga g (k + 10)))) 3 (some (ga g (k + 14)))) 4 (some (ga g (k + 18)))) 5 (some (ga g (k + 22)))))))), .inr (4, [.int 100, .int 200, .int 0, .int 0, .int 0, .int 0, .ref (ga g (k + 3)), .ref (ga g (k + 4)), .ref (ga g (k + 5)), .int 0, .int 0, .int 0]), .inl (g.2.2.2.1, 8, .inl (fun _ => 0)), .inl (g.2.2.2.1, 8, .inl (fun _ => 0)), .inl (g.2.2.2.1, 8, .inl (fun _ => 0)), .inr (4, [.int 100, .int 200, .int 0, .int 0, .int 0, .int 0, .ref (ga g (k + 7)), .ref (ga g (k + 8)), .ref (ga g (k + 9)), .int 0, .int 0, .int 0]), .inl (g.2.2.2.1, 8, .inl (fun _ => 0)), .inl (g.2.2.2.1, 8, .inl (fun _ => 0)), .inl (g.2.2.2.1, 8, .inl (fun _ => 0)), .inr (4, [.int 100, .int 200, .int 0, .int 0, .int 0, .int 0, .ref (ga g (k + 11)), .ref (ga g (k + 12)), .ref (ga g (k + 13)), .int 0, .int 0, .int 0]), .inl (g.2.2.2.1, 8, .inl (fun _ => 0)), .inl (g.2.2.2.1, 8, .inl (fun _ => 0)), .inl (g.2.2.2.1, 8, .inl (fun _ => 0)), .inr (4, [.int 100, .int 200, .int 0, .int 0, .int 0, .int 0, .ref (ga g (k + 15)), .ref (ga g (k + 16)), .ref (ga g (k + 17)), .int 0, .int 0, .int 0]), .inl (g.2.2.2.1, 8, .inl (fun _ => 0)), .inl (g.2.2.2.1, 8, .inl (fun _ => 0)), .inl (g.2.2.2.1, 8, .inl (fun _ => 0)), .inr (4, [.int 100, .int 200, .int 0, .int 0, .int 0, .int 0, .ref (ga g (k + 19)), .ref (ga g (k + 20)), .ref (ga g (k + 21)), .int 0, .int 0, .int 0]), .inl (g.2.2.2.1, 8, .inl (fun _ => 0)), .inl (g.2.2.2.1, 8, .inl (fun _ => 0)), .inl (g.2.2.2.1, 8, .inl (fun _ => 0)), .inr (4, [.int 100, .int 200, .int 0, .int 0, .int 0, .int 0, .ref (ga g (k + 23)), .ref (ga g (k + 24)), .ref (ga g (k + 25)), .int 0, .int 0, .int 0]), .inl (g.2.2.2.1, 8, .inl (fun _ => 0)), .inl (g.2.2.2.1, 8, .inl (fun _ => 0)), .inl (g.2.2.2.1, 8, .inl (fun _ => 0))] H := hP
  refine lv_iinc (v := (6 : Int32)) (lv' := [(1, .int (6 : Int32)), (0, .ref (ga g k))]) hx hb dX0_init_37 hl (k := 0) rfl (by decide +kernel) (by decide) rfl (fun ls hl => ?_)
  refine lv_goto (tgt := 15) hx hb dX0_init_40 (by decide) ?_
  refine lv_iload_n hx hb dX0_init_15 rfl (lv_at hl 0 rfl) ?_
  refine lv_aload_n hx hb dX0_init_16 rfl (lv_at hl 1 rfl) ?_
  refine n_get (i := 0) (j := 0) X hP rfl (Nat.le_of_ble_eq_true rfl) rfl inX0 (by decide) k_100 rfl dX0_init_17 ?_
  refine n_alenq (i := 1) (v := (14 : Int32)) X hP rfl (Nat.le_of_ble_eq_true rfl) (by decide +kernel) dX0_init_20 ?_
  refine lv_icmp_ge (tgt := 43) hx hb dX0_init_21 (by decide) (fun cc_ => ?_) (fun cc_ => ?_)
  · exact absurd cc_ (by decide)
  refine lv_aload_n hx hb dX0_init_24 rfl (lv_at hl 1 rfl) ?_
  refine n_get (i := 0) (j := 0) X hP rfl (Nat.le_of_ble_eq_true rfl) rfl inX0 (by decide) k_100 rfl dX0_init_25 ?_
  refine lv_iload_n hx hb dX0_init_28 rfl (lv_at hl 0 rfl) ?_
  refine n_new (ci := 4) (fs := [.int 0, .int 0, .int 0, .int 0, .int 0, .int 0, .null, .null, .null, .int 0, .int 0, .int 0]) X hP hS (by show k + 1 + 25 = k + 26; omega) rfl inX5 tyX5 tyX5_ok kx_97 kx_40 kx_3 (fun j hj => by rcases (show j = 0 ∨ j = 1 ∨ j = 2 ∨ j = 3 ∨ j = 4 ∨ j = 5 ∨ j = 6 ∨ j = 7 ∨ j = 8 ∨ j = 9 ∨ j = 10 ∨ j = 11 by omega) with rfl | rfl | rfl | rfl | rfl | rfl | rfl | rfl | rfl | rfl | rfl | rfl <;> rfl) (Nat.le_of_ble_eq_true rfl) (Nat.le_of_ble_eq_true rfl) dX0_init_29 (fun H hP hS => ?_)
  replace hP : Wz g c0 k [.inr (0, [.ref (ga g (k + 1)), .int 0, .int 0]), .inl (g.2.2.2.2.2, 14, .inr (.inr (.inr (.inr (va_up (va_up (va_up (va_up (va_up (va_up (fun _ => none) 0 (some (ga g (k + 2)))) 1 (some (ga g (k + 6)))) 2 (some (ga g (k + 10)))) 3 (some (ga g (k + 14)))) 4 (some (ga g (k + 18)))) 5 (some (ga g (k + 22)))))))), .inr (4, [.int 100, .int 200, .int 0, .int 0, .int 0, .int 0, .ref (ga g (k + 3)), .ref (ga g (k + 4)), .ref (ga g (k + 5)), .int 0, .int 0, .int 0]), .inl (g.2.2.2.1, 8, .inl (fun _ => 0)), .inl (g.2.2.2.1, 8, .inl (fun _ => 0)), .inl (g.2.2.2.1, 8, .inl (fun _ => 0)), .inr (4, [.int 100, .int 200, .int 0, .int 0, .int 0, .int 0, .ref (ga g (k + 7)), .ref (ga g (k + 8)), .ref (ga g (k + 9)), .int 0, .int 0, .int 0]), .inl (g.2.2.2.1, 8, .inl (fun _ => 0)), .inl (g.2.2.2.1, 8, .inl (fun _ => 0)), .inl (g.2.2.2.1, 8, .inl (fun _ => 0)), .inr (4, [.int 100, .int 200, .int 0, .int 0, .int 0, .int 0, .ref (ga g (k + 11)), .ref (ga g (k + 12)), .ref (ga g (k + 13)), .int 0, .int 0, .int 0]), .inl (g.2.2.2.1, 8, .inl (fun _ => 0)), .inl (g.2.2.2.1, 8, .inl (fun _ => 0)), .inl (g.2.2.2.1, 8, .inl (fun _ => 0)), .inr (4, [.int 100, .int 200, .int 0, .int 0, .int 0, .int 0, .ref (ga g (k + 15)), .ref (ga g (k + 16)), .ref (ga g (k + 17)), .int 0, .int 0, .int 0]), .inl (g.2.2.2.1, 8, .inl (fun _ => 0)), .inl (g.2.2.2.1, 8, .inl (fun _ => 0)), .inl (g.2.2.2.1, 8, .inl (fun _ => 0)), .inr (4, [.int 100, .int 200, .int 0, .int 0, .int 0, .int 0, .ref (ga g (k + 19)), .ref (ga g (k + 20)), .ref (ga g (k + 21)), .int 0, .int 0, .int 0]), .inl (g.2.2.2.1, 8, .inl (fun _ => 0)), .inl (g.2.2.2.1, 8, .inl (fun _ => 0)), .inl (g.2.2.2.1, 8, .inl (fun _ => 0)), .inr (4, [.int 100, .int 200, .int 0, .int 0, .int 0, .int 0, .ref (ga g (k + 23)), .ref (ga g (k + 24)), .ref (ga g (k + 25)), .int 0, .int 0, .int 0]), .inl (g.2.2.2.1, 8, .inl (fun _ => 0)), .inl (g.2.2.2.1, 8, .inl (fun _ => 0)), .inl (g.2.2.2.1, 8, .inl (fun _ => 0)), .inr (4, [.int 0, .int 0, .int 0, .int 0, .int 0, .int 0, .null, .null, .null, .int 0, .int 0, .int 0])] H := hP
  show W p l e rm0_init s m args below meth c H _ 26 242 _ (F0 m 32 ls [.ref (ga g (k + 26)), .int (6 : Int32), .ref (ga g (k + 1))])
  refine lv_dup hx hb dX0_init_32 rfl ?_
  refine n_callN (mc := 3) (ms := 24) (rest := [.ref (ga g (k + 26)), .int (6 : Int32), .ref (ga g (k + 1))]) [.inr (0, [.ref (ga g (k + 1)), .int 0, .int 0]), .inl (g.2.2.2.2.2, 14, .inr (.inr (.inr (.inr (va_up (va_up (va_up (va_up (va_up (va_up (fun _ => none) 0 (some (ga g (k + 2)))) 1 (some (ga g (k + 6)))) 2 (some (ga g (k + 10)))) 3 (some (ga g (k + 14)))) 4 (some (ga g (k + 18)))) 5 (some (ga g (k + 22)))))))), .inr (4, [.int 100, .int 200, .int 0, .int 0, .int 0, .int 0, .ref (ga g (k + 3)), .ref (ga g (k + 4)), .ref (ga g (k + 5)), .int 0, .int 0, .int 0]), .inl (g.2.2.2.1, 8, .inl (fun _ => 0)), .inl (g.2.2.2.1, 8, .inl (fun _ => 0)), .inl (g.2.2.2.1, 8, .inl (fun _ => 0)), .inr (4, [.int 100, .int 200, .int 0, .int 0, .int 0, .int 0, .ref (ga g (k + 7)), .ref (ga g (k + 8)), .ref (ga g (k + 9)), .int 0, .int 0, .int 0]), .inl (g.2.2.2.1, 8, .inl (fun _ => 0)), .inl (g.2.2.2.1, 8, .inl (fun _ => 0)), .inl (g.2.2.2.1, 8, .inl (fun _ => 0)), .inr (4, [.int 100, .int 200, .int 0, .int 0, .int 0, .int 0, .ref (ga g (k + 11)), .ref (ga g (k + 12)), .ref (ga g (k + 13)), .int 0, .int 0, .int 0]), .inl (g.2.2.2.1, 8, .inl (fun _ => 0)), .inl (g.2.2.2.1, 8, .inl (fun _ => 0)), .inl (g.2.2.2.1, 8, .inl (fun _ => 0)), .inr (4, [.int 100, .int 200, .int 0, .int 0, .int 0, .int 0, .ref (ga g (k + 15)), .ref (ga g (k + 16)), .ref (ga g (k + 17)), .int 0, .int 0, .int 0]), .inl (g.2.2.2.1, 8, .inl (fun _ => 0)), .inl (g.2.2.2.1, 8, .inl (fun _ => 0)), .inl (g.2.2.2.1, 8, .inl (fun _ => 0)), .inr (4, [.int 100, .int 200, .int 0, .int 0, .int 0, .int 0, .ref (ga g (k + 19)), .ref (ga g (k + 20)), .ref (ga g (k + 21)), .int 0, .int 0, .int 0]), .inl (g.2.2.2.1, 8, .inl (fun _ => 0)), .inl (g.2.2.2.1, 8, .inl (fun _ => 0)), .inl (g.2.2.2.1, 8, .inl (fun _ => 0)), .inr (4, [.int 100, .int 200, .int 0, .int 0, .int 0, .int 0, .ref (ga g (k + 23)), .ref (ga g (k + 24)), .ref (ga g (k + 25)), .int 0, .int 0, .int 0]), .inl (g.2.2.2.1, 8, .inl (fun _ => 0)), .inl (g.2.2.2.1, 8, .inl (fun _ => 0)), .inl (g.2.2.2.1, 8, .inl (fun _ => 0))] [.inr (4, [.int 0, .int 0, .int 0, .int 0, .int 0, .int 0, .null, .null, .null, .int 0, .int 0, .int 0])] [.inr (4, [.int 100, .int 200, .int 0, .int 0, .int 0, .int 0, .ref (ga g (k + 27)), .ref (ga g (k + 28)), .ref (ga g (k + 29)), .int 0, .int 0, .int 0]), .inl (g.2.2.2.1, 8, .inl (fun _ => 0)), .inl (g.2.2.2.1, 8, .inl (fun _ => 0)), .inl (g.2.2.2.1, 8, .inl (fun _ => 0))] X (c5_init l g hg _ _) rfl cal_X5_init im_X5_init X.2.2.2.2.2.2.1 rfl ⟨rfl, rfl⟩ ⟨Nat.le_of_ble_eq_true rfl, Nat.le_of_ble_eq_true rfl⟩ hP hS (by show k + 1 + 26 = k + 27; omega) (Nat.succ_pos _) hl.1 (Nat.le_of_ble_eq_true rfl) dX0_init_33 ⟨Nat.le_of_ble_eq_true rfl, Nat.le_of_ble_eq_true rfl⟩ (fun H locs hP hS => ?_)
  replace hP : Wz g c0 k [.inr (0, [.ref (ga g (k + 1)), .int 0, .int 0]), .inl (g.2.2.2.2.2, 14, .inr (.inr (.inr (.inr (va_up (va_up (va_up (va_up (va_up (va_up (fun _ => none) 0 (some (ga g (k + 2)))) 1 (some (ga g (k + 6)))) 2 (some (ga g (k + 10)))) 3 (some (ga g (k + 14)))) 4 (some (ga g (k + 18)))) 5 (some (ga g (k + 22)))))))), .inr (4, [.int 100, .int 200, .int 0, .int 0, .int 0, .int 0, .ref (ga g (k + 3)), .ref (ga g (k + 4)), .ref (ga g (k + 5)), .int 0, .int 0, .int 0]), .inl (g.2.2.2.1, 8, .inl (fun _ => 0)), .inl (g.2.2.2.1, 8, .inl (fun _ => 0)), .inl (g.2.2.2.1, 8, .inl (fun _ => 0)), .inr (4, [.int 100, .int 200, .int 0, .int 0, .int 0, .int 0, .ref (ga g (k + 7)), .ref (ga g (k + 8)), .ref (ga g (k + 9)), .int 0, .int 0, .int 0]), .inl (g.2.2.2.1, 8, .inl (fun _ => 0)), .inl (g.2.2.2.1, 8, .inl (fun _ => 0)), .inl (g.2.2.2.1, 8, .inl (fun _ => 0)), .inr (4, [.int 100, .int 200, .int 0, .int 0, .int 0, .int 0, .ref (ga g (k + 11)), .ref (ga g (k + 12)), .ref (ga g (k + 13)), .int 0, .int 0, .int 0]), .inl (g.2.2.2.1, 8, .inl (fun _ => 0)), .inl (g.2.2.2.1, 8, .inl (fun _ => 0)), .inl (g.2.2.2.1, 8, .inl (fun _ => 0)), .inr (4, [.int 100, .int 200, .int 0, .int 0, .int 0, .int 0, .ref (ga g (k + 15)), .ref (ga g (k + 16)), .ref (ga g (k + 17)), .int 0, .int 0, .int 0]), .inl (g.2.2.2.1, 8, .inl (fun _ => 0)), .inl (g.2.2.2.1, 8, .inl (fun _ => 0)), .inl (g.2.2.2.1, 8, .inl (fun _ => 0)), .inr (4, [.int 100, .int 200, .int 0, .int 0, .int 0, .int 0, .ref (ga g (k + 19)), .ref (ga g (k + 20)), .ref (ga g (k + 21)), .int 0, .int 0, .int 0]), .inl (g.2.2.2.1, 8, .inl (fun _ => 0)), .inl (g.2.2.2.1, 8, .inl (fun _ => 0)), .inl (g.2.2.2.1, 8, .inl (fun _ => 0)), .inr (4, [.int 100, .int 200, .int 0, .int 0, .int 0, .int 0, .ref (ga g (k + 23)), .ref (ga g (k + 24)), .ref (ga g (k + 25)), .int 0, .int 0, .int 0]), .inl (g.2.2.2.1, 8, .inl (fun _ => 0)), .inl (g.2.2.2.1, 8, .inl (fun _ => 0)), .inl (g.2.2.2.1, 8, .inl (fun _ => 0)), .inr (4, [.int 100, .int 200, .int 0, .int 0, .int 0, .int 0, .ref (ga g (k + 27)), .ref (ga g (k + 28)), .ref (ga g (k + 29)), .int 0, .int 0, .int 0]), .inl (g.2.2.2.1, 8, .inl (fun _ => 0)), .inl (g.2.2.2.1, 8, .inl (fun _ => 0)), .inl (g.2.2.2.1, 8, .inl (fun _ => 0))] H := hP
  show W p l e rm0_init s m args below meth c H _ 29 266 _ (F0 m 36 ls [.ref (ga g (k + 26)), .int (6 : Int32), .ref (ga g (k + 1))])
  refine n_aast (i := 1) (j := 6) (jo := 26) X hP hS rfl (Nat.le_of_ble_eq_true rfl) rfl (Nat.le_of_ble_eq_true rfl) (by decide +kernel) (by decide +kernel) dX0_init_36 (fun H locs hP hS => ?_)
  replace hP : Wz g c0 k [.inr (0, [.ref (ga g (k + 1)), .int 0, .int 0]), .inl (g.2.2.2.2.2, 14, .inr (.inr (.inr (.inr (va_up (va_up (va_up (va_up (va_up (va_up (va_up (fun _ => none) 0 (some (ga g (k + 2)))) 1 (some (ga g (k + 6)))) 2 (some (ga g (k + 10)))) 3 (some (ga g (k + 14)))) 4 (some (ga g (k + 18)))) 5 (some (ga g (k + 22)))) 6 (some (ga g (k + 26)))))))), .inr (4, [.int 100, .int 200, .int 0, .int 0, .int 0, .int 0, .ref (ga g (k + 3)), .ref (ga g (k + 4)), .ref (ga g (k + 5)), .int 0, .int 0, .int 0]), .inl (g.2.2.2.1, 8, .inl (fun _ => 0)), .inl (g.2.2.2.1, 8, .inl (fun _ => 0)), .inl (g.2.2.2.1, 8, .inl (fun _ => 0)), .inr (4, [.int 100, .int 200, .int 0, .int 0, .int 0, .int 0, .ref (ga g (k + 7)), .ref (ga g (k + 8)), .ref (ga g (k + 9)), .int 0, .int 0, .int 0]), .inl (g.2.2.2.1, 8, .inl (fun _ => 0)), .inl (g.2.2.2.1, 8, .inl (fun _ => 0)), .inl (g.2.2.2.1, 8, .inl (fun _ => 0)), .inr (4, [.int 100, .int 200, .int 0, .int 0, .int 0, .int 0, .ref (ga g (k + 11)), .ref (ga g (k + 12)), .ref (ga g (k + 13)), .int 0, .int 0, .int 0]), .inl (g.2.2.2.1, 8, .inl (fun _ => 0)), .inl (g.2.2.2.1, 8, .inl (fun _ => 0)), .inl (g.2.2.2.1, 8, .inl (fun _ => 0)), .inr (4, [.int 100, .int 200, .int 0, .int 0, .int 0, .int 0, .ref (ga g (k + 15)), .ref (ga g (k + 16)), .ref (ga g (k + 17)), .int 0, .int 0, .int 0]), .inl (g.2.2.2.1, 8, .inl (fun _ => 0)), .inl (g.2.2.2.1, 8, .inl (fun _ => 0)), .inl (g.2.2.2.1, 8, .inl (fun _ => 0)), .inr (4, [.int 100, .int 200, .int 0, .int 0, .int 0, .int 0, .ref (ga g (k + 19)), .ref (ga g (k + 20)), .ref (ga g (k + 21)), .int 0, .int 0, .int 0]), .inl (g.2.2.2.1, 8, .inl (fun _ => 0)), .inl (g.2.2.2.1, 8, .inl (fun _ => 0)), .inl (g.2.2.2.1, 8, .inl (fun _ => 0)), .inr (4, [.int 100, .int 200, .int 0, .int 0, .int 0, .int 0, .ref (ga g (k + 23)), .ref (ga g (k + 24)), .ref (ga g (k + 25)), .int 0, .int 0, .int 0]), .inl (g.2.2.2.1, 8, .inl (fun _ => 0)), .inl (g.2.2.2.1, 8, .inl (fun _ => 0)), .inl (g.2.2.2.1, 8, .inl (fun _ => 0)), .inr (4, [.int 100, .int 200, .int 0, .int 0, .int 0, .int 0, .ref (ga g (k + 27)), .ref (ga g (k + 28)), .ref (ga g (k + 29)), .int 0, .int 0, .int 0]), .inl (g.2.2.2.1, 8, .inl (fun _ => 0)), .inl (g.2.2.2.1, 8, .inl (fun _ => 0)), .inl (g.2.2.2.1, 8, .inl (fun _ => 0))] H := hP
  refine lv_iinc (v := (7 : Int32)) (lv' := [(1, .int (7 : Int32)), (0, .ref (ga g k))]) hx hb dX0_init_37 hl (k := 0) rfl (by decide +kernel) (by decide) rfl (fun ls hl => ?_)
  refine lv_goto (tgt := 15) hx hb dX0_init_40 (by decide) ?_
  refine lv_iload_n hx hb dX0_init_15 rfl (lv_at hl 0 rfl) ?_
  refine lv_aload_n hx hb dX0_init_16 rfl (lv_at hl 1 rfl) ?_
  refine n_get (i := 0) (j := 0) X hP rfl (Nat.le_of_ble_eq_true rfl) rfl inX0 (by decide) k_100 rfl dX0_init_17 ?_
  refine n_alenq (i := 1) (v := (14 : Int32)) X hP rfl (Nat.le_of_ble_eq_true rfl) (by decide +kernel) dX0_init_20 ?_
  refine lv_icmp_ge (tgt := 43) hx hb dX0_init_21 (by decide) (fun cc_ => ?_) (fun cc_ => ?_)
  · exact absurd cc_ (by decide)
  refine lv_aload_n hx hb dX0_init_24 rfl (lv_at hl 1 rfl) ?_
  refine n_get (i := 0) (j := 0) X hP rfl (Nat.le_of_ble_eq_true rfl) rfl inX0 (by decide) k_100 rfl dX0_init_25 ?_
  refine lv_iload_n hx hb dX0_init_28 rfl (lv_at hl 0 rfl) ?_
  refine n_new (ci := 4) (fs := [.int 0, .int 0, .int 0, .int 0, .int 0, .int 0, .null, .null, .null, .int 0, .int 0, .int 0]) X hP hS (by show k + 1 + 29 = k + 30; omega) rfl inX5 tyX5 tyX5_ok kx_97 kx_40 kx_3 (fun j hj => by rcases (show j = 0 ∨ j = 1 ∨ j = 2 ∨ j = 3 ∨ j = 4 ∨ j = 5 ∨ j = 6 ∨ j = 7 ∨ j = 8 ∨ j = 9 ∨ j = 10 ∨ j = 11 by omega) with rfl | rfl | rfl | rfl | rfl | rfl | rfl | rfl | rfl | rfl | rfl | rfl <;> rfl) (Nat.le_of_ble_eq_true rfl) (Nat.le_of_ble_eq_true rfl) dX0_init_29 (fun H hP hS => ?_)
  replace hP : Wz g c0 k [.inr (0, [.ref (ga g (k + 1)), .int 0, .int 0]), .inl (g.2.2.2.2.2, 14, .inr (.inr (.inr (.inr (va_up (va_up (va_up (va_up (va_up (va_up (va_up (fun _ => none) 0 (some (ga g (k + 2)))) 1 (some (ga g (k + 6)))) 2 (some (ga g (k + 10)))) 3 (some (ga g (k + 14)))) 4 (some (ga g (k + 18)))) 5 (some (ga g (k + 22)))) 6 (some (ga g (k + 26)))))))), .inr (4, [.int 100, .int 200, .int 0, .int 0, .int 0, .int 0, .ref (ga g (k + 3)), .ref (ga g (k + 4)), .ref (ga g (k + 5)), .int 0, .int 0, .int 0]), .inl (g.2.2.2.1, 8, .inl (fun _ => 0)), .inl (g.2.2.2.1, 8, .inl (fun _ => 0)), .inl (g.2.2.2.1, 8, .inl (fun _ => 0)), .inr (4, [.int 100, .int 200, .int 0, .int 0, .int 0, .int 0, .ref (ga g (k + 7)), .ref (ga g (k + 8)), .ref (ga g (k + 9)), .int 0, .int 0, .int 0]), .inl (g.2.2.2.1, 8, .inl (fun _ => 0)), .inl (g.2.2.2.1, 8, .inl (fun _ => 0)), .inl (g.2.2.2.1, 8, .inl (fun _ => 0)), .inr (4, [.int 100, .int 200, .int 0, .int 0, .int 0, .int 0, .ref (ga g (k + 11)), .ref (ga g (k + 12)), .ref (ga g (k + 13)), .int 0, .int 0, .int 0]), .inl (g.2.2.2.1, 8, .inl (fun _ => 0)), .inl (g.2.2.2.1, 8, .inl (fun _ => 0)), .inl (g.2.2.2.1, 8, .inl (fun _ => 0)), .inr (4, [.int 100, .int 200, .int 0, .int 0, .int 0, .int 0, .ref (ga g (k + 15)), .ref (ga g (k + 16)), .ref (ga g (k + 17)), .int 0, .int 0, .int 0]), .inl (g.2.2.2.1, 8, .inl (fun _ => 0)), .inl (g.2.2.2.1, 8, .inl (fun _ => 0)), .inl (g.2.2.2.1, 8, .inl (fun _ => 0)), .inr (4, [.int 100, .int 200, .int 0, .int 0, .int 0, .int 0, .ref (ga g (k + 19)), .ref (ga g (k + 20)), .ref (ga g (k + 21)), .int 0, .int 0, .int 0]), .inl (g.2.2.2.1, 8, .inl (fun _ => 0)), .inl (g.2.2.2.1, 8, .inl (fun _ => 0)), .inl (g.2.2.2.1, 8, .inl (fun _ => 0)), .inr (4, [.int 100, .int 200, .int 0, .int 0, .int 0, .int 0, .ref (ga g (k + 23)), .ref (ga g (k + 24)), .ref (ga g (k + 25)), .int 0, .int 0, .int 0]), .inl (g.2.2.2.1, 8, .inl (fun _ => 0)), .inl (g.2.2.2.1, 8, .inl (fun _ => 0)), .inl (g.2.2.2.1, 8, .inl (fun _ => 0)), .inr (4, [.int 100, .int 200, .int 0, .int 0, .int 0, .int 0, .ref (ga g (k + 27)), .ref (ga g (k + 28)), .ref (ga g (k + 29)), .int 0, .int 0, .int 0]), .inl (g.2.2.2.1, 8, .inl (fun _ => 0)), .inl (g.2.2.2.1, 8, .inl (fun _ => 0)), .inl (g.2.2.2.1, 8, .inl (fun _ => 0)), .inr (4, [.int 0, .int 0, .int 0, .int 0, .int 0, .int 0, .null, .null, .null, .int 0, .int 0, .int 0])] H := hP
  show W p l e rm0_init s m args below meth c H _ 30 278 _ (F0 m 32 ls [.ref (ga g (k + 30)), .int (7 : Int32), .ref (ga g (k + 1))])
  refine lv_dup hx hb dX0_init_32 rfl ?_
  refine n_callN (mc := 3) (ms := 24) (rest := [.ref (ga g (k + 30)), .int (7 : Int32), .ref (ga g (k + 1))]) [.inr (0, [.ref (ga g (k + 1)), .int 0, .int 0]), .inl (g.2.2.2.2.2, 14, .inr (.inr (.inr (.inr (va_up (va_up (va_up (va_up (va_up (va_up (va_up (fun _ => none) 0 (some (ga g (k + 2)))) 1 (some (ga g (k + 6)))) 2 (some (ga g (k + 10)))) 3 (some (ga g (k + 14)))) 4 (some (ga g (k + 18)))) 5 (some (ga g (k + 22)))) 6 (some (ga g (k + 26)))))))), .inr (4, [.int 100, .int 200, .int 0, .int 0, .int 0, .int 0, .ref (ga g (k + 3)), .ref (ga g (k + 4)), .ref (ga g (k + 5)), .int 0, .int 0, .int 0]), .inl (g.2.2.2.1, 8, .inl (fun _ => 0)), .inl (g.2.2.2.1, 8, .inl (fun _ => 0)), .inl (g.2.2.2.1, 8, .inl (fun _ => 0)), .inr (4, [.int 100, .int 200, .int 0, .int 0, .int 0, .int 0, .ref (ga g (k + 7)), .ref (ga g (k + 8)), .ref (ga g (k + 9)), .int 0, .int 0, .int 0]), .inl (g.2.2.2.1, 8, .inl (fun _ => 0)), .inl (g.2.2.2.1, 8, .inl (fun _ => 0)), .inl (g.2.2.2.1, 8, .inl (fun _ => 0)), .inr (4, [.int 100, .int 200, .int 0, .int 0, .int 0, .int 0, .ref (ga g (k + 11)), .ref (ga g (k + 12)), .ref (ga g (k + 13)), .int 0, .int 0, .int 0]), .inl (g.2.2.2.1, 8, .inl (fun _ => 0)), .inl (g.2.2.2.1, 8, .inl (fun _ => 0)), .inl (g.2.2.2.1, 8, .inl (fun _ => 0)), .inr (4, [.int 100, .int 200, .int 0, .int 0, .int 0, .int 0, .ref (ga g (k + 15)), .ref (ga g (k + 16)), .ref (ga g (k + 17)), .int 0, .int 0, .int 0]), .inl (g.2.2.2.1, 8, .inl (fun _ => 0)), .inl (g.2.2.2.1, 8, .inl (fun _ => 0)), .inl (g.2.2.2.1, 8, .inl (fun _ => 0)), .inr (4, [.int 100, .int 200, .int 0, .int 0, .int 0, .int 0, .ref (ga g (k + 19)), .ref (ga g (k + 20)), .ref (ga g (k + 21)), .int 0, .int 0, .int 0]), .inl (g.2.2.2.1, 8, .inl (fun _ => 0)), .inl (g.2.2.2.1, 8, .inl (fun _ => 0)), .inl (g.2.2.2.1, 8, .inl (fun _ => 0)), .inr (4, [.int 100, .int 200, .int 0, .int 0, .int 0, .int 0, .ref (ga g (k + 23)), .ref (ga g (k + 24)), .ref (ga g (k + 25)), .int 0, .int 0, .int 0]), .inl (g.2.2.2.1, 8, .inl (fun _ => 0)), .inl (g.2.2.2.1, 8, .inl (fun _ => 0)), .inl (g.2.2.2.1, 8, .inl (fun _ => 0)), .inr (4, [.int 100, .int 200, .int 0, .int 0, .int 0, .int 0, .ref (ga g (k + 27)), .ref (ga g (k + 28)), .ref (ga g (k + 29)), .int 0, .int 0, .int 0]), .inl (g.2.2.2.1, 8, .inl (fun _ => 0)), .inl (g.2.2.2.1, 8, .inl (fun _ => 0)), .inl (g.2.2.2.1, 8, .inl (fun _ => 0))] [.inr (4, [.int 0, .int 0, .int 0, .int 0, .int 0, .int 0, .null, .null, .null, .int 0, .int 0, .int 0])] [.inr (4, [.int 100, .int 200, .int 0, .int 0, .int 0, .int 0, .ref (ga g (k + 31)), .ref (ga g (k + 32)), .ref (ga g (k + 33)), .int 0, .int 0, .int 0]), .inl (g.2.2.2.1, 8, .inl (fun _ => 0)), .inl (g.2.2.2.1, 8, .inl (fun _ => 0)), .inl (g.2.2.2.1, 8, .inl (fun _ => 0))] X (c5_init l g hg _ _) rfl cal_X5_init im_X5_init X.2.2.2.2.2.2.1 rfl ⟨rfl, rfl⟩ ⟨Nat.le_of_ble_eq_true rfl, Nat.le_of_ble_eq_true rfl⟩ hP hS (by show k + 1 + 30 = k + 31; omega) (Nat.succ_pos _) hl.1 (Nat.le_of_ble_eq_true rfl) dX0_init_33 ⟨Nat.le_of_ble_eq_true rfl, Nat.le_of_ble_eq_true rfl⟩ (fun H locs hP hS => ?_)
  replace hP : Wz g c0 k [.inr (0, [.ref (ga g (k + 1)), .int 0, .int 0]), .inl (g.2.2.2.2.2, 14, .inr (.inr (.inr (.inr (va_up (va_up (va_up (va_up (va_up (va_up (va_up (fun _ => none) 0 (some (ga g (k + 2)))) 1 (some (ga g (k + 6)))) 2 (some (ga g (k + 10)))) 3 (some (ga g (k + 14)))) 4 (some (ga g (k + 18)))) 5 (some (ga g (k + 22)))) 6 (some (ga g (k + 26)))))))), .inr (4, [.int 100, .int 200, .int 0, .int 0, .int 0, .int 0, .ref (ga g (k + 3)), .ref (ga g (k + 4)), .ref (ga g (k + 5)), .int 0, .int 0, .int 0]), .inl (g.2.2.2.1, 8, .inl (fun _ => 0)), .inl (g.2.2.2.1, 8, .inl (fun _ => 0)), .inl (g.2.2.2.1, 8, .inl (fun _ => 0)), .inr (4, [.int 100, .int 200, .int 0, .int 0, .int 0, .int 0, .ref (ga g (k + 7)), .ref (ga g (k + 8)), .ref (ga g (k + 9)), .int 0, .int 0, .int 0]), .inl (g.2.2.2.1, 8, .inl (fun _ => 0)), .inl (g.2.2.2.1, 8, .inl (fun _ => 0)), .inl (g.2.2.2.1, 8, .inl (fun _ => 0)), .inr (4, [.int 100, .int 200, .int 0, .int 0, .int 0, .int 0, .ref (ga g (k + 11)), .ref (ga g (k + 12)), .ref (ga g (k + 13)), .int 0, .int 0, .int 0]), .inl (g.2.2.2.1, 8, .inl (fun _ => 0)), .inl (g.2.2.2.1, 8, .inl (fun _ => 0)), .inl (g.2.2.2.1, 8, .inl (fun _ => 0)), .inr (4, [.int 100, .int 200, .int 0, .int 0, .int 0, .int 0, .ref (ga g (k + 15)), .ref (ga g (k + 16)), .ref (ga g (k + 17)), .int 0, .int 0, .int 0]), .inl (g.2.2.2.1, 8, .inl (fun _ => 0)), .inl (g.2.2.2.1, 8, .inl (fun _ => 0)), .inl (g.2.2.2.1, 8, .inl (fun _ => 0)), .inr (4, [.int 100, .int 200, .int 0, .int 0, .int 0, .int 0, .ref (ga g (k + 19)), .ref (ga g (k + 20)), .ref (ga g (k + 21)), .int 0, .int 0, .int 0]), .inl (g.2.2.2.1, 8, .inl (fun _ => 0)), .inl (g.2.2.2.1, 8, .inl (fun _ => 0)), .inl (g.2.2.2.1, 8, .inl (fun _ => 0)), .inr (4, [.int 100, .int 200, .int 0, .int 0, .int 0, .int 0, .ref (ga g (k + 23)), .ref (ga g (k + 24)), .ref (ga g (k + 25)), .int 0, .int 0, .int 0]), .inl (g.2.2.2.1, 8, .inl (fun _ => 0)), .inl (g.2.2.2.1, 8, .inl (fun _ => 0)), .inl (g.2.2.2.1, 8, .inl (fun _ => 0)), .inr (4, [.int 100, .int 200, .int 0, .int 0, .int 0, .int 0, .ref (ga g (k + 27)), .ref (ga g (k + 28)), .ref (ga g (k + 29)), .int 0, .int 0, .int 0]), .inl (g.2.2.2.1, 8, .inl (fun _ => 0)), .inl (g.2.2.2.1, 8, .inl (fun _ => 0)), .inl (g.2.2.2.1, 8, .inl (fun _ => 0)), .inr (4, [.int 100, .int 200, .int 0, .int 0, .int 0, .int 0, .ref (ga g (k + 31)), .ref (ga g (k + 32)), .ref (ga g (k + 33)), .int 0, .int 0, .int 0]), .inl (g.2.2.2.1, 8, .inl (fun _ => 0)), .inl (g.2.2.2.1, 8, .inl (fun _ => 0)), .inl (g.2.2.2.1, 8, .inl (fun _ => 0))] H := hP
  show W p l e rm0_init s m args below meth c H _ 33 302 _ (F0 m 36 ls [.ref (ga g (k + 30)), .int (7 : Int32), .ref (ga g (k + 1))])
  refine n_aast (i := 1) (j := 7) (jo := 30) X hP hS rfl (Nat.le_of_ble_eq_true rfl) rfl (Nat.le_of_ble_eq_true rfl) (by decide +kernel) (by decide +kernel) dX0_init_36 (fun H locs hP hS => ?_)
  replace hP : Wz g c0 k [.inr (0, [.ref (ga g (k + 1)), .int 0, .int 0]), .inl (g.2.2.2.2.2, 14, .inr (.inr (.inr (.inr (va_up (va_up (va_up (va_up (va_up (va_up (va_up (va_up (fun _ => none) 0 (some (ga g (k + 2)))) 1 (some (ga g (k + 6)))) 2 (some (ga g (k + 10)))) 3 (some (ga g (k + 14)))) 4 (some (ga g (k + 18)))) 5 (some (ga g (k + 22)))) 6 (some (ga g (k + 26)))) 7 (some (ga g (k + 30)))))))), .inr (4, [.int 100, .int 200, .int 0, .int 0, .int 0, .int 0, .ref (ga g (k + 3)), .ref (ga g (k + 4)), .ref (ga g (k + 5)), .int 0, .int 0, .int 0]), .inl (g.2.2.2.1, 8, .inl (fun _ => 0)), .inl (g.2.2.2.1, 8, .inl (fun _ => 0)), .inl (g.2.2.2.1, 8, .inl (fun _ => 0)), .inr (4, [.int 100, .int 200, .int 0, .int 0, .int 0, .int 0, .ref (ga g (k + 7)), .ref (ga g (k + 8)), .ref (ga g (k + 9)), .int 0, .int 0, .int 0]), .inl (g.2.2.2.1, 8, .inl (fun _ => 0)), .inl (g.2.2.2.1, 8, .inl (fun _ => 0)), .inl (g.2.2.2.1, 8, .inl (fun _ => 0)), .inr (4, [.int 100, .int 200, .int 0, .int 0, .int 0, .int 0, .ref (ga g (k + 11)), .ref (ga g (k + 12)), .ref (ga g (k + 13)), .int 0, .int 0, .int 0]), .inl (g.2.2.2.1, 8, .inl (fun _ => 0)), .inl (g.2.2.2.1, 8, .inl (fun _ => 0)), .inl (g.2.2.2.1, 8, .inl (fun _ => 0)), .inr (4, [.int 100, .int 200, .int 0, .int 0, .int 0, .int 0, .ref (ga g (k + 15)), .ref (ga g (k + 16)), .ref (ga g (k + 17)), .int 0, .int 0, .int 0]), .inl (g.2.2.2.1, 8, .inl (fun _ => 0)), .inl (g.2.2.2.1, 8, .inl (fun _ => 0)), .inl (g.2.2.2.1, 8, .inl (fun _ => 0)), .inr (4, [.int 100, .int 200, .int 0, .int 0, .int 0, .int 0, .ref (ga g (k + 19)), .ref (ga g (k + 20)), .ref (ga g (k + 21)), .int 0, .int 0, .int 0]), .inl (g.2.2.2.1, 8, .inl (fun _ => 0)), .inl (g.2.2.2.1, 8, .inl (fun _ => 0)), .inl (g.2.2.2.1, 8, .inl (fun _ => 0)), .inr (4, [.int 100, .int 200, .int 0, .int 0, .int 0, .int 0, .ref (ga g (k + 23)), .ref (ga g (k + 24)), .ref (ga g (k + 25)), .int 0, .int 0, .int 0]), .inl (g.2.2.2.1, 8, .inl (fun _ => 0)), .inl (g.2.2.2.1, 8, .inl (fun _ => 0)), .inl (g.2.2.2.1, 8, .inl (fun _ => 0)), .inr (4, [.int 100, .int 200, .int 0, .int 0, .int 0, .int 0, .ref (ga g (k + 27)), .ref (ga g (k + 28)), .ref (ga g (k + 29)), .int 0, .int 0, .int 0]), .inl (g.2.2.2.1, 8, .inl (fun _ => 0)), .inl (g.2.2.2.1, 8, .inl (fun _ => 0)), .inl (g.2.2.2.1, 8, .inl (fun _ => 0)), .inr (4, [.int 100, .int 200, .int 0, .int 0, .int 0, .int 0, .ref (ga g (k + 31)), .ref (ga g (k + 32)), .ref (ga g (k + 33)), .int 0, .int 0, .int 0]), .inl (g.2.2.2.1, 8, .inl (fun _ => 0)), .inl (g.2.2.2.1, 8, .inl (fun _ => 0)), .inl (g.2.2.2.1, 8, .inl (fun _ => 0))] H := hP
  refine lv_iinc (v := (8 : Int32)) (lv' := [(1, .int (8 : Int32)), (0, .ref (ga g k))]) hx hb dX0_init_37 hl (k := 0) rfl (by decide +kernel) (by decide) rfl (fun ls hl => ?_)
  refine lv_goto (tgt := 15) hx hb dX0_init_40 (by decide) ?_
  refine lv_iload_n hx hb dX0_init_15 rfl (lv_at hl 0 rfl) ?_
  refine lv_aload_n hx hb dX0_init_16 rfl (lv_at hl 1 rfl) ?_
  refine n_get (i := 0) (j := 0) X hP rfl (Nat.le_of_ble_eq_true rfl) rfl inX0 (by decide) k_100 rfl dX0_init_17 ?_
  refine n_alenq (i := 1) (v := (14 : Int32)) X hP rfl (Nat.le_of_ble_eq_true rfl) (by decide +kernel) dX0_init_20 ?_
  refine lv_icmp_ge (tgt := 43) hx hb dX0_init_21 (by decide) (fun cc_ => ?_) (fun cc_ => ?_)
  · exact absurd cc_ (by decide)
  refine lv_aload_n hx hb dX0_init_24 rfl (lv_at hl 1 rfl) ?_
  refine n_get (i := 0) (j := 0) X hP rfl (Nat.le_of_ble_eq_true rfl) rfl inX0 (by decide) k_100 rfl dX0_init_25 ?_
  refine lv_iload_n hx hb dX0_init_28 rfl (lv_at hl 0 rfl) ?_
  refine n_new (ci := 4) (fs := [.int 0, .int 0, .int 0, .int 0, .int 0, .int 0, .null, .null, .null, .int 0, .int 0, .int 0]) X hP hS (by show k + 1 + 33 = k + 34; omega) rfl inX5 tyX5 tyX5_ok kx_97 kx_40 kx_3 (fun j hj => by rcases (show j = 0 ∨ j = 1 ∨ j = 2 ∨ j = 3 ∨ j = 4 ∨ j = 5 ∨ j = 6 ∨ j = 7 ∨ j = 8 ∨ j = 9 ∨ j = 10 ∨ j = 11 by omega) with rfl | rfl | rfl | rfl | rfl | rfl | rfl | rfl | rfl | rfl | rfl | rfl <;> rfl) (Nat.le_of_ble_eq_true rfl) (Nat.le_of_ble_eq_true rfl) dX0_init_29 (fun H hP hS => ?_)
  replace hP : Wz g c0 k [.inr (0, [.ref (ga g (k + 1)), .int 0, .int 0]), .inl (g.2.2.2.2.2, 14, .inr (.inr (.inr (.inr (va_up (va_up (va_up (va_up (va_up (va_up (va_up (va_up (fun _ => none) 0 (some (ga g (k + 2)))) 1 (some (ga g (k + 6)))) 2 (some (ga g (k + 10)))) 3 (some (ga g (k + 14)))) 4 (some (ga g (k + 18)))) 5 (some (ga g (k + 22)))) 6 (some (ga g (k + 26)))) 7 (some (ga g (k + 30)))))))), .inr (4, [.int 100, .int 200, .int 0, .int 0, .int 0, .int 0, .ref (ga g (k + 3)), .ref (ga g (k + 4)), .ref (ga g (k + 5)), .int 0, .int 0, .int 0]), .inl (g.2.2.2.1, 8, .inl (fun _ => 0)), .inl (g.2.2.2.1, 8, .inl (fun _ => 0)), .inl (g.2.2.2.1, 8, .inl (fun _ => 0)), .inr (4, [.int 100, .int 200, .int 0, .int 0, .int 0, .int 0, .ref (ga g (k + 7)), .ref (ga g (k + 8)), .ref (ga g (k + 9)), .int 0, .int 0, .int 0]), .inl (g.2.2.2.1, 8, .inl (fun _ => 0)), .inl (g.2.2.2.1, 8, .inl (fun _ => 0)), .inl (g.2.2.2.1, 8, .inl (fun _ => 0)), .inr (4, [.int 100, .int 200, .int 0, .int 0, .int 0, .int 0, .ref (ga g (k + 11)), .ref (ga g (k + 12)), .ref (ga g (k + 13)), .int 0, .int 0, .int 0]), .inl (g.2.2.2.1, 8, .inl (fun _ => 0)), .inl (g.2.2.2.1, 8, .inl (fun _ => 0)), .inl (g.2.2.2.1, 8, .inl (fun _ => 0)), .inr (4, [.int 100, .int 200, .int 0, .int 0, .int 0, .int 0, .ref (ga g (k + 15)), .ref (ga g (k + 16)), .ref (ga g (k + 17)), .int 0, .int 0, .int 0]), .inl (g.2.2.2.1, 8, .inl (fun _ => 0)), .inl (g.2.2.2.1, 8, .inl (fun _ => 0)), .inl (g.2.2.2.1, 8, .inl (fun _ => 0)), .inr (4, [.int 100, .int 200, .int 0, .int 0, .int 0, .int 0, .ref (ga g (k + 19)), .ref (ga g (k + 20)), .ref (ga g (k + 21)), .int 0, .int 0, .int 0]), .inl (g.2.2.2.1, 8, .inl (fun _ => 0)), .inl (g.2.2.2.1, 8, .inl (fun _ => 0)), .inl (g.2.2.2.1, 8, .inl (fun _ => 0)), .inr (4, [.int 100, .int 200, .int 0, .int 0, .int 0, .int 0, .ref (ga g (k + 23)), .ref (ga g (k + 24)), .ref (ga g (k + 25)), .int 0, .int 0, .int 0]), .inl (g.2.2.2.1, 8, .inl (fun _ => 0)), .inl (g.2.2.2.1, 8, .inl (fun _ => 0)), .inl (g.2.2.2.1, 8, .inl (fun _ => 0)), .inr (4, [.int 100, .int 200, .int 0, .int 0, .int 0, .int 0, .ref (ga g (k + 27)), .ref (ga g (k + 28)), .ref (ga g (k + 29)), .int 0, .int 0, .int 0]), .inl (g.2.2.2.1, 8, .inl (fun _ => 0)), .inl (g.2.2.2.1, 8, .inl (fun _ => 0)), .inl (g.2.2.2.1, 8, .inl (fun _ => 0)), .inr (4, [.int 100, .int 200, .int 0, .int 0, .int 0, .int 0, .ref (ga g (k + 31)), .ref (ga g (k + 32)), .ref (ga g (k + 33)), .int 0, .int 0, .int 0]), .inl (g.2.2.2.1, 8, .inl (fun _ => 0)), .inl (g.2.2.2.1, 8, .inl (fun _ => 0)), .inl (g.2.2.2.1, 8, .inl (fun _ => 0)), .inr (4, [.int 0, .int 0, .int 0, .int 0, .int 0, .int 0, .null, .null, .null, .int 0, .int 0, .int 0])] H := hP
  show W p l e rm0_init s m args below meth c H _ 34 314 _ (F0 m 32 ls [.ref (ga g (k + 34)), .int (8 : Int32), .ref (ga g (k + 1))])
  refine lv_dup hx hb dX0_init_32 rfl ?_
  refine n_callN (mc := 3) (ms := 24) (rest := [.ref (ga g (k + 34)), .int (8 : Int32), .ref (ga g (k + 1))]) [.inr (0, [.ref (ga g (k + 1)), .int 0, .int 0]), .inl (g.2.2.2.2.2, 14, .inr (.inr (.inr (.inr (va_up (va_up (va_up (va_up (va_up (va_up (va_up (va_up (fun _ => none) 0 (some (ga g (k + 2)))) 1 (some (ga g (k + 6)))) 2 (some (ga g (k + 10)))) 3 (some (ga g (k + 14)))) 4 (some (ga g (k + 18)))) 5 (some (ga g (k + 22)))) 6 (some (ga g (k + 26)))) 7 (some (ga g (k + 30)))))))), .inr (4, [.int 100, .int 200, .int 0, .int 0, .int 0, .int 0, .ref (ga g (k + 3)), .ref (ga g (k + 4)), .ref (ga g (k + 5)), .int 0, .int 0, .int 0]), .inl (g.2.2.2.1, 8, .inl (fun _ => 0)), .inl (g.2.2.2.1, 8, .inl (fun _ => 0)), .inl (g.2.2.2.1, 8, .inl (fun _ => 0)), .inr (4, [.int 100, .int 200, .int 0, .int 0, .int 0, .int 0, .ref (ga g (k + 7)), .ref (ga g (k + 8)), .ref (ga g (k + 9)), .int 0, .int 0, .int 0]), .inl (g.2.2.2.1, 8, .inl (fun _ => 0)), .inl (g.2.2.2.1, 8, .inl (fun _ => 0)), .inl (g.2.2.2.1, 8, .inl (fun _ => 0)), .inr (4, [.int 100, .int 200, .int 0, .int 0, .int 0, .int 0, .ref (ga g (k + 11)), .ref (ga g (k + 12)), .ref (ga g (k + 13)), .int 0, .int 0, .int 0]), .inl (g.2.2.2.1, 8, .inl (fun _ => 0)), .inl (g.2.2.2.1, 8, .inl (fun _ => 0)), .inl (g.2.2.2.1, 8, .inl (fun _ => 0)), .inr (4, [.int 100, .int 200, .int 0, .int 0, .int 0, .int 0, .ref (ga g (k + 15)), .ref (ga g (k + 16)), .ref (ga g (k + 17)), .int 0, .int 0, .int 0]), .inl (g.2.2.2.1, 8, .inl (fun _ => 0)), .inl (g.2.2.2.1, 8, .inl (fun _ => 0)), .inl (g.2.2.2.1, 8, .inl (fun _ => 0)), .inr (4, [.int 100, .int 200, .int 0, .int 0, .int 0, .int 0, .ref (ga g (k + 19)), .ref (ga g (k + 20)), .ref (ga g (k + 21)), .int 0, .int 0, .int 0]), .inl (g.2.2.2.1, 8, .inl (fun _ => 0)), .inl (g.2.2.2.1, 8, .inl (fun _ => 0)), .inl (g.2.2.2.1, 8, .inl (fun _ => 0)), .inr (4, [.int 100, .int 200, .int 0, .int 0, .int 0, .int 0, .ref (ga g (k + 23)), .ref (ga g (k + 24)), .ref (ga g (k + 25)), .int 0, .int 0, .int 0]), .inl (g.2.2.2.1, 8, .inl (fun _ => 0)), .inl (g.2.2.2.1, 8, .inl (fun _ => 0)), .inl (g.2.2.2.1, 8, .inl (fun _ => 0)), .inr (4, [.int 100, .int 200, .int 0, .int 0, .int 0, .int 0, .ref (ga g (k + 27)), .ref (ga g (k + 28)), .ref (ga g (k + 29)), .int 0, .int 0, .int 0]), .inl (g.2.2.2.1, 8, .inl (fun _ => 0)), .inl (g.2.2.2.1, 8, .inl (fun _ => 0)), .inl (g.2.2.2.1, 8, .inl (fun _ => 0)), .inr (4, [.int 100, .int 200, .int 0, .int 0, .int 0, .int 0, .ref (ga g (k + 31)), .ref (ga g (k + 32)), .ref (ga g (k + 33)), .int 0, .int 0, .int 0]), .inl (g.2.2.2.1, 8, .inl (fun _ => 0)), .inl (g.2.2.2.1, 8, .inl (fun _ => 0)), .inl (g.2.2.2.1, 8, .inl (fun _ => 0))] [.inr (4, [.int 0, .int 0, .int 0, .int 0, .int 0, .int 0, .null, .null, .null, .int 0, .int 0, .int 0])] [.inr (4, [.int 100, .int 200, .int 0, .int 0, .int 0, .int 0, .ref (ga g (k + 35)), .ref (ga g (k + 36)), .ref (ga g (k + 37)), .int 0, .int 0, .int 0]), .inl (g.2.2.2.1, 8, .inl (fun _ => 0)), .inl (g.2.2.2.1, 8, .inl (fun _ => 0)), .inl (g.2.2.2.1, 8, .inl (fun _ => 0))] X (c5_init l g hg _ _) rfl cal_X5_init im_X5_init X.2.2.2.2.2.2.1 rfl ⟨rfl, rfl⟩ ⟨Nat.le_of_ble_eq_true rfl, Nat.le_of_ble_eq_true rfl⟩ hP hS (by show k + 1 + 34 = k + 35; omega) (Nat.succ_pos _) hl.1 (Nat.le_of_ble_eq_true rfl) dX0_init_33 ⟨Nat.le_of_ble_eq_true rfl, Nat.le_of_ble_eq_true rfl⟩ (fun H locs hP hS => ?_)
  replace hP : Wz g c0 k [.inr (0, [.ref (ga g (k + 1)), .int 0, .int 0]), .inl (g.2.2.2.2.2, 14, .inr (.inr (.inr (.inr (va_up (va_up (va_up (va_up (va_up (va_up (va_up (va_up (fun _ => none) 0 (some (ga g (k + 2)))) 1 (some (ga g (k + 6)))) 2 (some (ga g (k + 10)))) 3 (some (ga g (k + 14)))) 4 (some (ga g (k + 18)))) 5 (some (ga g (k + 22)))) 6 (some (ga g (k + 26)))) 7 (some (ga g (k + 30)))))))), .inr (4, [.int 100, .int 200, .int 0, .int 0, .int 0, .int 0, .ref (ga g (k + 3)), .ref (ga g (k + 4)), .ref (ga g (k + 5)), .int 0, .int 0, .int 0]), .inl (g.2.2.2.1, 8, .inl (fun _ => 0)), .inl (g.2.2.2.1, 8, .inl (fun _ => 0)), .inl (g.2.2.2.1, 8, .inl (fun _ => 0)), .inr (4, [.int 100, .int 200, .int 0, .int 0, .int 0, .int 0, .ref (ga g (k + 7)), .ref (ga g (k + 8)), .ref (ga g (k + 9)), .int 0, .int 0, .int 0]), .inl (g.2.2.2.1, 8, .inl (fun _ => 0)), .inl (g.2.2.2.1, 8, .inl (fun _ => 0)), .inl (g.2.2.2.1, 8, .inl (fun _ => 0)), .inr (4, [.int 100, .int 200, .int 0, .int 0, .int 0, .int 0, .ref (ga g (k + 11)), .ref (ga g (k + 12)), .ref (ga g (k + 13)), .int 0, .int 0, .int 0]), .inl (g.2.2.2.1, 8, .inl (fun _ => 0)), .inl (g.2.2.2.1, 8, .inl (fun _ => 0)), .inl (g.2.2.2.1, 8, .inl (fun _ => 0)), .inr (4, [.int 100, .int 200, .int 0, .int 0, .int 0, .int 0, .ref (ga g (k + 15)), .ref (ga g (k + 16)), .ref (ga g (k + 17)), .int 0, .int 0, .int 0]), .inl (g.2.2.2.1, 8, .inl (fun _ => 0)), .inl (g.2.2.2.1, 8, .inl (fun _ => 0)), .inl (g.2.2.2.1, 8, .inl (fun _ => 0)), .inr (4, [.int 100, .int 200, .int 0, .int 0, .int 0, .int 0, .ref (ga g (k + 19)), .ref (ga g (k + 20)), .ref (ga g (k + 21)), .int 0, .int 0, .int 0]), .inl (g.2.2.2.1, 8, .inl (fun _ => 0)), .inl (g.2.2.2.1, 8, .inl (fun _ => 0)), .inl (g.2.2.2.1, 8, .inl (fun _ => 0)), .inr (4, [.int 100, .int 200, .int 0, .int 0, .int 0, .int 0, .ref (ga g (k + 23)), .ref (ga g (k + 24)), .ref (ga g (k + 25)), .int 0, .int 0, .int 0]), .inl (g.2.2.2.1, 8, .inl (fun _ => 0)), .inl (g.2.2.2.1, 8, .inl (fun _ => 0)), .inl (g.2.2.2.1, 8, .inl (fun _ => 0)), .inr (4, [.int 100, .int 200, .int 0, .int 0, .int 0, .int 0, .ref (ga g (k + 27)), .ref (ga g (k + 28)), .ref (ga g (k + 29)), .int 0, .int 0, .int 0]), .inl (g.2.2.2.1, 8, .inl (fun _ => 0)), .inl (g.2.2.2.1, 8, .inl (fun _ => 0)), .inl (g.2.2.2.1, 8, .inl (fun _ => 0)), .inr (4, [.int 100, .int 200, .int 0, .int 0, .int 0, .int 0, .ref (ga g (k + 31)), .ref (ga g (k + 32)), .ref (ga g (k + 33)), .int 0, .int 0, .int 0]), .inl (g.2.2.2.1, 8, .inl (fun _ => 0)), .inl (g.2.2.2.1, 8, .inl (fun _ => 0)), .inl (g.2.2.2.1, 8, .inl (fun _ => 0)), .inr (4, [.int 100, .int 200, .int 0, .int 0, .int 0, .int 0, .ref (ga g (k + 35)), .ref (ga g (k + 36)), .ref (ga g (k + 37)), .int 0, .int 0, .int 0]), .inl (g.2.2.2.1, 8, .inl (fun _ => 0)), .inl (g.2.2.2.1, 8, .inl (fun _ => 0)), .inl (g.2.2.2.1, 8, .inl (fun _ => 0))] H := hP
  show W p l e rm0_init s m args below meth c H _ 37 338 _ (F0 m 36 ls [.ref (ga g (k + 34)), .int (8 : Int32), .ref (ga g (k + 1))])
  refine n_aast (i := 1) (j := 8) (jo := 34) X hP hS rfl (Nat.le_of_ble_eq_true rfl) rfl (Nat.le_of_ble_eq_true rfl) (by decide +kernel) (by decide +kernel) dX0_init_36 (fun H locs hP hS => ?_)
  replace hP : Wz g c0 k [.inr (0, [.ref (ga g (k + 1)), .int 0, .int 0]), .inl (g.2.2.2.2.2, 14, .inr (.inr (.inr (.inr (va_up (va_up (va_up (va_up (va_up (va_up (va_up (va_up (va_up (fun _ => none) 0 (some (ga g (k + 2)))) 1 (some (ga g (k + 6)))) 2 (some (ga g (k + 10)))) 3 (some (ga g (k + 14)))) 4 (some (ga g (k + 18)))) 5 (some (ga g (k + 22)))) 6 (some (ga g (k + 26)))) 7 (some (ga g (k + 30)))) 8 (some (ga g (k + 34)))))))), .inr (4, [.int 100, .int 200, .int 0, .int 0, .int 0, .int 0, .ref (ga g (k + 3)), .ref (ga g (k + 4)), .ref (ga g (k + 5)), .int 0, .int 0, .int 0]), .inl (g.2.2.2.1, 8, .inl (fun _ => 0)), .inl (g.2.2.2.1, 8, .inl (fun _ => 0)), .inl (g.2.2.2.1, 8, .inl (fun _ => 0)), .inr (4, [.int 100, .int 200, .int 0, .int 0, .int 0, .int 0, .ref (ga g (k + 7)), .ref (ga g (k + 8)), .ref (ga g (k + 9)), .int 0, .int 0, .int 0]), .inl (g.2.2.2.1, 8, .inl (fun _ => 0)), .inl (g.2.2.2.1, 8, .inl (fun _ => 0)), .inl (g.2.2.2.1, 8, .inl (fun _ => 0)), .inr (4, [.int 100, .int 200, .int 0, .int 0, .int 0, .int 0, .ref (ga g (k + 11)), .ref (ga g (k + 12)), .ref (ga g (k + 13)), .int 0, .int 0, .int 0]), .inl (g.2.2.2.1, 8, .inl (fun _ => 0)), .inl (g.2.2.2.1, 8, .inl (fun _ => 0)), .inl (g.2.2.2.1, 8, .inl (fun _ => 0)), .inr (4, [.int 100, .int 200, .int 0, .int 0, .int 0, .int 0, .ref (ga g (k + 15)), .ref (ga g (k + 16)), .ref (ga g (k + 17)), .int 0, .int 0, .int 0]), .inl (g.2.2.2.1, 8, .inl (fun _ => 0)), .inl (g.2.2.2.1, 8, .inl (fun _ => 0)), .inl (g.2.2.2.1, 8, .inl (fun _ => 0)), .inr (4, [.int 100, .int 200, .int 0, .int 0, .int 0, .int 0, .ref (ga g (k + 19)), .ref (ga g (k + 20)), .ref (ga g (k + 21)), .int 0, .int 0, .int 0]), .inl (g.2.2.2.1, 8, .inl (fun _ => 0)), .inl (g.2.2.2.1, 8, .inl (fun _ => 0)), .inl (g.2.2.2.1, 8, .inl (fun _ => 0)), .inr (4, [.int 100, .int 200, .int 0, .int 0, .int 0, .int 0, .ref (ga g (k + 23)), .ref (ga g (k + 24)), .ref (ga g (k + 25)), .int 0, .int 0, .int 0]), .inl (g.2.2.2.1, 8, .inl (fun _ => 0)), .inl (g.2.2.2.1, 8, .inl (fun _ => 0)), .inl (g.2.2.2.1, 8, .inl (fun _ => 0)), .inr (4, [.int 100, .int 200, .int 0, .int 0, .int 0, .int 0, .ref (ga g (k + 27)), .ref (ga g (k + 28)), .ref (ga g (k + 29)), .int 0, .int 0, .int 0]), .inl (g.2.2.2.1, 8, .inl (fun _ => 0)), .inl (g.2.2.2.1, 8, .inl (fun _ => 0)), .inl (g.2.2.2.1, 8, .inl (fun _ => 0)), .inr (4, [.int 100, .int 200, .int 0, .int 0, .int 0, .int 0, .ref (ga g (k + 31)), .ref (ga g (k + 32)), .ref (ga g (k + 33)), .int 0, .int 0, .int 0]), .inl (g.2.2.2.1, 8, .inl (fun _ => 0)), .inl (g.2.2.2.1, 8, .inl (fun _ => 0)), .inl (g.2.2.2.1, 8, .inl (fun _ => 0)), .inr (4, [.int 100, .int 200, .int 0, .int 0, .int 0, .int 0, .ref (ga g (k + 35)), .ref (ga g (k + 36)), .ref (ga g (k + 37)), .int 0, .int 0, .int 0]), .inl (g.2.2.2.1, 8, .inl (fun _ => 0)), .inl (g.2.2.2.1, 8, .inl (fun _ => 0)), .inl (g.2.2.2.1, 8, .inl (fun _ => 0))] H := hP
  refine lv_iinc (v := (9 : Int32)) (lv' := [(1, .int (9 : Int32)), (0, .ref (ga g k))]) hx hb dX0_init_37 hl (k := 0) rfl (by decide +kernel) (by decide) rfl (fun ls hl => ?_)
  refine lv_goto (tgt := 15) hx hb dX0_init_40 (by decide) ?_
  refine lv_iload_n hx hb dX0_init_15 rfl (lv_at hl 0 rfl) ?_
  refine lv_aload_n hx hb dX0_init_16 rfl (lv_at hl 1 rfl) ?_
  refine n_get (i := 0) (j := 0) X hP rfl (Nat.le_of_ble_eq_true rfl) rfl inX0 (by decide) k_100 rfl dX0_init_17 ?_
  refine n_alenq (i := 1) (v := (14 : Int32)) X hP rfl (Nat.le_of_ble_eq_true rfl) (by decide +kernel) dX0_init_20 ?_
  refine lv_icmp_ge (tgt := 43) hx hb dX0_init_21 (by decide) (fun cc_ => ?_) (fun cc_ => ?_)
  · exact absurd cc_ (by decide)
  refine lv_aload_n hx hb dX0_init_24 rfl (lv_at hl 1 rfl) ?_
  refine n_get (i := 0) (j := 0) X hP rfl (Nat.le_of_ble_eq_true rfl) rfl inX0 (by decide) k_100 rfl dX0_init_25 ?_
  refine lv_iload_n hx hb dX0_init_28 rfl (lv_at hl 0 rfl) ?_
  refine n_new (ci := 4) (fs := [.int 0, .int 0, .int 0, .int 0, .int 0, .int 0, .null, .null, .null, .int 0, .int 0, .int 0]) X hP hS (by show k + 1 + 37 = k + 38; omega) rfl inX5 tyX5 tyX5_ok kx_97 kx_40 kx_3 (fun j hj => by rcases (show j = 0 ∨ j = 1 ∨ j = 2 ∨ j = 3 ∨ j = 4 ∨ j = 5 ∨ j = 6 ∨ j = 7 ∨ j = 8 ∨ j = 9 ∨ j = 10 ∨ j = 11 by omega) with rfl | rfl | rfl | rfl | rfl | rfl | rfl | rfl | rfl | rfl | rfl | rfl <;> rfl) (Nat.le_of_ble_eq_true rfl) (Nat.le_of_ble_eq_true rfl) dX0_init_29 (fun H hP hS => ?_)
  replace hP : Wz g c0 k [.inr (0, [.ref (ga g (k + 1)), .int 0, .int 0]), .inl (g.2.2.2.2.2, 14, .inr (.inr (.inr (.inr (va_up (va_up (va_up (va_up (va_up (va_up (va_up (va_up (va_up (fun _ => none) 0 (some (ga g (k + 2)))) 1 (some (ga g (k + 6)))) 2 (some (ga g (k + 10)))) 3 (some (ga g (k + 14)))) 4 (some (ga g (k + 18)))) 5 (some (ga g (k + 22)))) 6 (some (ga g (k + 26)))) 7 (some (ga g (k + 30)))) 8 (some (ga g (k + 34)))))))), .inr (4, [.int 100, .int 200, .int 0, .int 0, .int 0, .int 0, .ref (ga g (k + 3)), .ref (ga g (k + 4)), .ref (ga g (k + 5)), .int 0, .int 0, .int 0]), .inl (g.2.2.2.1, 8, .inl (fun _ => 0)), .inl (g.2.2.2.1, 8, .inl (fun _ => 0)), .inl (g.2.2.2.1, 8, .inl (fun _ => 0)), .inr (4, [.int 100, .int 200, .int 0, .int 0, .int 0, .int 0, .ref (ga g (k + 7)), .ref (ga g (k + 8)), .ref (ga g (k + 9)), .int 0, .int 0, .int 0]), .inl (g.2.2.2.1, 8, .inl (fun _ => 0)), .inl (g.2.2.2.1, 8, .inl (fun _ => 0)), .inl (g.2.2.2.1, 8, .inl (fun _ => 0)), .inr (4, [.int 100, .int 200, .int 0, .int 0, .int 0, .int 0, .ref (ga g (k + 11)), .ref (ga g (k + 12)), .ref (ga g (k + 13)), .int 0, .int 0, .int 0]), .inl (g.2.2.2.1, 8, .inl (fun _ => 0)), .inl (g.2.2.2.1, 8, .inl (fun _ => 0)), .inl (g.2.2.2.1, 8, .inl (fun _ => 0)), .inr (4, [.int 100, .int 200, .int 0, .int 0, .int 0, .int 0, .ref (ga g (k + 15)), .ref (ga g (k + 16)), .ref (ga g (k + 17)), .int 0, .int 0, .int 0]), .inl (g.2.2.2.1, 8, .inl (fun _ => 0)), .inl (g.2.2.2.1, 8, .inl (fun _ => 0)), .inl (g.2.2.2.1, 8, .inl (fun _ => 0)), .inr (4, [.int 100, .int 200, .int 0, .int 0, .int 0, .int 0, .ref (ga g (k + 19)), .ref (ga g (k + 20)), .ref (ga g (k + 21)), .int 0, .int 0, .int 0]), .inl (g.2.2.2.1, 8, .inl (fun _ => 0)), .inl (g.2.2.2.1, 8, .inl (fun _ => 0)), .inl (g.2.2.2.1, 8, .inl (fun _ => 0)), .inr (4, [.int 100, .int 200, .int 0, .int 0, .int 0, .int 0, .ref (ga g (k + 23)), .ref (ga g (k + 24)), .ref (ga g (k + 25)), .int 0, .int 0, .int 0]), .inl (g.2.2.2.1, 8, .inl (fun _ => 0)), .inl (g.2.2.2.1, 8, .inl (fun _ => 0)), .inl (g.2.2.2.1, 8, .inl (fun _ => 0)), .inr (4, [.int 100, .int 200, .int 0, .int 0, .int 0, .int 0, .ref (ga g (k + 27)), .ref (ga g (k + 28)), .ref (ga g (k + 29)), .int 0, .int 0, .int 0]), .inl (g.2.2.2.1, 8, .inl (fun _ => 0)), .inl (g.2.2.2.1, 8, .inl (fun _ => 0)), .inl (g.2.2.2.1, 8, .inl (fun _ => 0)), .inr (4, [.int 100, .int 200, .int 0, .int 0, .int 0, .int 0, .ref (ga g (k + 31)), .ref (ga g (k + 32)), .ref (ga g (k + 33)), .int 0, .int 0, .int 0]), .inl (g.2.2.2.1, 8, .inl (fun _ => 0)), .inl (g.2.2.2.1, 8, .inl (fun _ => 0)), .inl (g.2.2.2.1, 8, .inl (fun _ => 0)), .inr (4, [.int 100, .int 200, .int 0, .int 0, .int 0, .int 0, .ref (ga g (k + 35)), .ref (ga g (k + 36)), .ref (ga g (k + 37)), .int 0, .int 0, .int 0]), .inl (g.2.2.2.1, 8, .inl (fun _ => 0)), .inl (g.2.2.2.1, 8, .inl (fun _ => 0)), .inl (g.2.2.2.1, 8, .inl (fun _ => 0)), .inr (4, [.int 0, .int 0, .int 0, .int 0, .int 0, .int 0, .null, .null, .null, .int 0, .int 0, .int 0])] H := hP
  show W p l e rm0_init s m args below meth c H _ 38 350 _ (F0 m 32 ls [.ref (ga g (k + 38)), .int (9 : Int32), .ref (ga g (k + 1))])
  refine lv_dup hx hb dX0_init_32 rfl ?_
  refine n_callN (mc := 3) (ms := 24) (rest := [.ref (ga g (k + 38)), .int (9 : Int32), .ref (ga g (k + 1))]) [.inr (0, [.ref (ga g (k + 1)), .int 0, .int 0]), .inl (g.2.2.2.2.2, 14, .inr (.inr (.inr (.inr (va_up (va_up (va_up (va_up (va_up (va_up (va_up (va_up (va_up (fun _ => none) 0 (some (ga g (k + 2)))) 1 (some (ga g (k + 6)))) 2 (some (ga g (k + 10)))) 3 (some (ga g (k + 14)))) 4 (some (ga g (k + 18)))) 5 (some (ga g (k + 22)))) 6 (some (ga g (k + 26)))) 7 (some (ga g (k + 30)))) 8 (some (ga g (k + 34)))))))), .inr (4, [.int 100, .int 200, .int 0, .int 0, .int 0, .int 0, .ref (ga g (k + 3)), .ref (ga g (k + 4)), .ref (ga g (k + 5)), .int 0, .int 0, .int 0]), .inl (g.2.2.2.1, 8, .inl (fun _ => 0)), .inl (g.2.2.2.1, 8, .inl (fun _ => 0)), .inl (g.2.2.2.1, 8, .inl (fun _ => 0)), .inr (4, [.int 100, .int 200, .int 0, .int 0, .int 0, .int 0, .ref (ga g (k + 7)), .ref (ga g (k + 8)), .ref (ga g (k + 9)), .int 0, .int 0, .int 0]), .inl (g.2.2.2.1, 8, .inl (fun _ => 0)), .inl (g.2.2.2.1, 8, .inl (fun _ => 0)), .inl (g.2.2.2.1, 8, .inl (fun _ => 0)), .inr (4, [.int 100, .int 200, .int 0, .int 0, .int 0, .int 0, .ref (ga g (k + 11)), .ref (ga g (k + 12)), .ref (ga g (k + 13)), .int 0, .int 0, .int 0]), .inl (g.2.2.2.1, 8, .inl (fun _ => 0)), .inl (g.2.2.2.1, 8, .inl (fun _ => 0)), .inl (g.2.2.2.1, 8, .inl (fun _ => 0)), .inr (4, [.int 100, .int 200, .int 0, .int 0, .int 0, .int 0, .ref (ga g (k + 15)), .ref (ga g (k + 16)), .ref (ga g (k + 17)), .int 0, .int 0, .int 0]), .inl (g.2.2.2.1, 8, .inl (fun _ => 0)), .inl (g.2.2.2.1, 8, .inl (fun _ => 0)), .inl (g.2.2.2.1, 8, .inl (fun _ => 0)), .inr (4, [.int 100, .int 200, .int 0, .int 0, .int 0, .int 0, .ref (ga g (k + 19)), .ref (ga g (k + 20)), .ref (ga g (k + 21)), .int 0, .int 0, .int 0]), .inl (g.2.2.2.1, 8, .inl (fun _ => 0)), .inl (g.2.2.2.1, 8, .inl (fun _ => 0)), .inl (g.2.2.2.1, 8, .inl (fun _ => 0)), .inr (4, [.int 100, .int 200, .int 0, .int 0, .int 0, .int 0, .ref (ga g (k + 23)), .ref (ga g (k + 24)), .ref (ga g (k + 25)), .int 0, .int 0, .int 0]), .inl (g.2.2.2.1, 8, .inl (fun _ => 0)), .inl (g.2.2.2.1, 8, .inl (fun _ => 0)), .inl (g.2.2.2.1, 8, .inl (fun _ => 0)), .inr (4, [.int 100, .int 200, .int 0, .int 0, .int 0, .int 0, .ref (ga g (k + 27)), .ref (ga g (k + 28)), .ref (ga g (k + 29)), .int 0, .int 0, .int 0]), .inl (g.2.2.2.1, 8, .inl (fun _ => 0)), .inl (g.2.2.2.1, 8, .inl (fun _ => 0)), .inl (g.2.2.2.1, 8, .inl (fun _ => 0)), .inr (4, [.int 100, .int 200, .int 0, .int 0, .int 0, .int 0, .ref (ga g (k + 31)), .ref (ga g (k + 32)), .ref (ga g (k + 33)), .int 0, .int 0, .int 0]), .inl (g.2.2.2.1, 8, .inl (fun _ => 0)), .inl (g.2.2.2.1, 8, .inl (fun _ => 0)), .inl (g.2.2.2.1, 8, .inl (fun _ => 0)), .inr (4, [.int 100, .int 200, .int 0, .int 0, .int 0, .int 0, .ref (ga g (k + 35)), .ref (ga g (k + 36)), .ref (ga g (k + 37)), .int 0, .int 0, .int 0]), .inl (g.2.2.2.1, 8, .inl (fun _ => 0)), .inl (g.2.2.2.1, 8, .inl (fun _ => 0)), .inl (g.2.2.2.1, 8, .inl (fun _ => 0))] [.inr (4, [.int 0, .int 0, .int 0, .int 0, .int 0, .int 0, .null, .null, .null, .int 0, .int 0, .int 0])] [.inr (4, [.int 100, .int 200, .int 0, .int 0, .int 0, .int 0, .ref (ga g (k + 39)), .ref (ga g (k + 40)), .ref (ga g (k + 41)), .int 0, .int 0, .int 0]), .inl (g.2.2.2.1, 8, .inl (fun _ => 0)), .inl (g.2.2.2.1, 8, .inl (fun _ => 0)), .inl (g.2.2.2.1, 8, .inl (fun _ => 0))] X (c5_init l g hg _ _) rfl cal_X5_init im_X5_init X.2.2.2.2.2.2.1 rfl ⟨rfl, rfl⟩ ⟨Nat.le_of_ble_eq_true rfl, Nat.le_of_ble_eq_true rfl⟩ hP hS (by show k + 1 + 38 = k + 39; omega) (Nat.succ_pos _) hl.1 (Nat.le_of_ble_eq_true rfl) dX0_init_33 ⟨Nat.le_of_ble_eq_true rfl, Nat.le_of_ble_eq_true rfl⟩ (fun H locs hP hS => ?_)
  replace hP : Wz g c0 k [.inr (0, [.ref (ga g (k + 1)), .int 0, .int 0]), .inl (g.2.2.2.2.2, 14, .inr (.inr (.inr (.inr (va_up (va_up (va_up (va_up (va_up (va_up (va_up (va_up (va_up (fun _ => none) 0 (some (ga g (k + 2)))) 1 (some (ga g (k + 6)))) 2 (some (ga g (k + 10)))) 3 (some (ga g (k + 14)))) 4 (some (ga g (k + 18)))) 5 (some (ga g (k + 22)))) 6 (some (ga g (k + 26)))) 7 (some (ga g (k + 30)))) 8 (some (ga g (k + 34)))))))), .inr (4, [.int 100, .int 200, .int 0, .int 0, .int 0, .int 0, .ref (ga g (k + 3)), .ref (ga g (k + 4)), .ref (ga g (k + 5)), .int 0, .int 0, .int 0]), .inl (g.2.2.2.1, 8, .inl (fun _ => 0)), .inl (g.2.2.2.1, 8, .inl (fun _ => 0)), .inl (g.2.2.2.1, 8, .inl (fun _ => 0)), .inr (4, [.int 100, .int 200, .int 0, .int 0, .int 0, .int 0, .ref (ga g (k + 7)), .ref (ga g (k + 8)), .ref (ga g (k + 9)), .int 0, .int 0, .int 0]), .inl (g.2.2.2.1, 8, .inl (fun _ => 0)), .inl (g.2.2.2.1, 8, .inl (fun _ => 0)), .inl (g.2.2.2.1, 8, .inl (fun _ => 0)), .inr (4, [.int 100, .int 200, .int 0, .int 0, .int 0, .int 0, .ref (ga g (k + 11)), .ref (ga g (k + 12)), .ref (ga g (k + 13)), .int 0, .int 0, .int 0]), .inl (g.2.2.2.1, 8, .inl (fun _ => 0)), .inl (g.2.2.2.1, 8, .inl (fun _ => 0)), .inl (g.2.2.2.1, 8, .inl (fun _ => 0)), .inr (4, [.int 100, .int 200, .int 0, .int 0, .int 0, .int 0, .ref (ga g (k + 15)), .ref (ga g (k + 16)), .ref (ga g (k + 17)), .int 0, .int 0, .int 0]), .inl (g.2.2.2.1, 8, .inl (fun _ => 0)), .inl (g.2.2.2.1, 8, .inl (fun _ => 0)), .inl (g.2.2.2.1, 8, .inl (fun _ => 0)), .inr (4, [.int 100, .int 200, .int 0, .int 0, .int 0, .int 0, .ref (ga g (k + 19)), .ref (ga g (k + 20)), .ref (ga g (k + 21)), .int 0, .int 0, .int 0]), .inl (g.2.2.2.1, 8, .inl (fun _ => 0)), .inl (g.2.2.2.1, 8, .inl (fun _ => 0)), .inl (g.2.2.2.1, 8, .inl (fun _ => 0)), .inr (4, [.int 100, .int 200, .int 0, .int 0, .int 0, .int 0, .ref (ga g (k + 23)), .ref (ga g (k + 24)), .ref (ga g (k + 25)), .int 0, .int 0, .int 0]), .inl (g.2.2.2.1, 8, .inl (fun _ => 0)), .inl (g.2.2.2.1, 8, .inl (fun _ => 0)), .inl (g.2.2.2.1, 8, .inl (fun _ => 0)), .inr (4, [.int 100, .int 200, .int 0, .int 0, .int 0, .int 0, .ref (ga g (k + 27)), .ref (ga g (k + 28)), .ref (ga g (k + 29)), .int 0, .int 0, .int 0]), .inl (g.2.2.2.1, 8, .inl (fun _ => 0)), .inl (g.2.2.2.1, 8, .inl (fun _ => 0)), .inl (g.2.2.2.1, 8, .inl (fun _ => 0)), .inr (4, [.int 100, .int 200, .int 0, .int 0, .int 0, .int 0, .ref (ga g (k + 31)), .ref (ga g (k + 32)), .ref (ga g (k + 33)), .int 0, .int 0, .int 0]), .inl (g.2.2.2.1, 8, .inl (fun _ => 0)), .inl (g.2.2.2.1, 8, .inl (fun _ => 0)), .inl (g.2.2.2.1, 8, .inl (fun _ => 0)), .inr (4, [.int 100, .int 200, .int 0, .int 0, .int 0, .int 0, .ref (ga g (k + 35)), .ref (ga g (k + 36)), .ref (ga g (k + 37)), .int 0, .int 0, .int 0]), .inl (g.2.2.2.1, 8, .inl (fun _ => 0)), .inl (g.2.2.2.1, 8, .inl (fun _ => 0)), .inl (g.2.2.2.1, 8, .inl (fun _ => 0)), .inr (4, [.int 100, .int 200, .int 0, .int 0, .int 0, .int 0, .ref (ga g (k + 39)), .ref (ga g (k + 40)), .ref (ga g (k + 41)), .int 0, .int 0, .int 0]), .inl (g.2.2.2.1, 8, .inl (fun _ => 0)), .inl (g.2.2.2.1, 8, .inl (fun _ => 0)), .inl (g.2.2.2.1, 8, .inl (fun _ => 0))] H := hP
  show W p l e rm0_init s m args below meth c H _ 41 374 _ (F0 m 36 ls [.ref (ga g (k + 38)), .int (9 : Int32), .ref (ga g (k + 1))])
  refine n_aast (i := 1) (j := 9) (jo := 38) X hP hS rfl (Nat.le_of_ble_eq_true rfl) rfl (Nat.le_of_ble_eq_true rfl) (by decide +kernel) (by decide +kernel) dX0_init_36 (fun H locs hP hS => ?_)
  replace hP : Wz g c0 k [.inr (0, [.ref (ga g (k + 1)), .int 0, .int 0]), .inl (g.2.2.2.2.2, 14, .inr (.inr (.inr (.inr (va_up (va_up (va_up (va_up (va_up (va_up (va_up (va_up (va_up (va_up (fun _ => none) 0 (some (ga g (k + 2)))) 1 (some (ga g (k + 6)))) 2 (some (ga g (k + 10)))) 3 (some (ga g (k + 14)))) 4 (some (ga g (k + 18)))) 5 (some (ga g (k + 22)))) 6 (some (ga g (k + 26)))) 7 (some (ga g (k + 30)))) 8 (some (ga g (k + 34)))) 9 (some (ga g (k + 38)))))))), .inr (4, [.int 100, .int 200, .int 0, .int 0, .int 0, .int 0, .ref (ga g (k + 3)), .ref (ga g (k + 4)), .ref (ga g (k + 5)), .int 0, .int 0, .int 0]), .inl (g.2.2.2.1, 8, .inl (fun _ => 0)), .inl (g.2.2.2.1, 8, .inl (fun _ => 0)), .inl (g.2.2.2.1, 8, .inl (fun _ => 0)), .inr (4, [.int 100, .int 200, .int 0, .int 0, .int 0, .int 0, .ref (ga g (k + 7)), .ref (ga g (k + 8)), .ref (ga g (k + 9)), .int 0, .int 0, .int 0]), .inl (g.2.2.2.1, 8, .inl (fun _ => 0)), .inl (g.2.2.2.1, 8, .inl (fun _ => 0)), .inl (g.2.2.2.1, 8, .inl (fun _ => 0)), .inr (4, [.int 100, .int 200, .int 0, .int 0, .int 0, .int 0, .ref (ga g (k + 11)), .ref (ga g (k + 12)), .ref (ga g (k + 13)), .int 0, .int 0, .int 0]), .inl (g.2.2.2.1, 8, .inl (fun _ => 0)), .inl (g.2.2.2.1, 8, .inl (fun _ => 0)), .inl (g.2.2.2.1, 8, .inl (fun _ => 0)), .inr (4, [.int 100, .int 200, .int 0, .int 0, .int 0, .int 0, .ref (ga g (k + 15)), .ref (ga g (k + 16)), .ref (ga g (k + 17)), .int 0, .int 0, .int 0]), .inl (g.2.2.2.1, 8, .inl (fun _ => 0)), .inl (g.2.2.2.1, 8, .inl (fun _ => 0)), .inl (g.2.2.2.1, 8, .inl (fun _ => 0)), .inr (4, [.int 100, .int 200, .int 0, .int 0, .int 0, .int 0, .ref (ga g (k + 19)), .ref (ga g (k + 20)), .ref (ga g (k + 21)), .int 0, .int 0, .int 0]), .inl (g.2.2.2.1, 8, .inl (fun _ => 0)), .inl (g.2.2.2.1, 8, .inl (fun _ => 0)), .inl (g.2.2.2.1, 8, .inl (fun _ => 0)), .inr (4, [.int 100, .int 200, .int 0, .int 0, .int 0, .int 0, .ref (ga g (k + 23)), .ref (ga g (k + 24)), .ref (ga g (k + 25)), .int 0, .int 0, .int 0]), .inl (g.2.2.2.1, 8, .inl (fun _ => 0)), .inl (g.2.2.2.1, 8, .inl (fun _ => 0)), .inl (g.2.2.2.1, 8, .inl (fun _ => 0)), .inr (4, [.int 100, .int 200, .int 0, .int 0, .int 0, .int 0, .ref (ga g (k + 27)), .ref (ga g (k + 28)), .ref (ga g (k + 29)), .int 0, .int 0, .int 0]), .inl (g.2.2.2.1, 8, .inl (fun _ => 0)), .inl (g.2.2.2.1, 8, .inl (fun _ => 0)), .inl (g.2.2.2.1, 8, .inl (fun _ => 0)), .inr (4, [.int 100, .int 200, .int 0, .int 0, .int 0, .int 0, .ref (ga g (k + 31)), .ref (ga g (k + 32)), .ref (ga g (k + 33)), .int 0, .int 0, .int 0]), .inl (g.2.2.2.1, 8, .inl (fun _ => 0)), .inl (g.2.2.2.1, 8, .inl (fun _ => 0)), .inl (g.2.2.2.1, 8, .inl (fun _ => 0)), .inr (4, [.int 100, .int 200, .int 0, .int 0, .int 0, .int 0, .ref (ga g (k + 35)), .ref (ga g (k + 36)), .ref (ga g (k + 37)), .int 0, .int 0, .int 0]), .inl (g.2.2.2.1, 8, .inl (fun _ => 0)), .inl (g.2.2.2.1, 8, .inl (fun _ => 0)), .inl (g.2.2.2.1, 8, .inl (fun _ => 0)), .inr (4, [.int 100, .int 200, .int 0, .int 0, .int 0, .int 0, .ref (ga g (k + 39)), .ref (ga g (k + 40)), .ref (ga g (k + 41)), .int 0, .int 0, .int 0]), .inl (g.2.2.2.1, 8, .inl (fun _ => 0)), .inl (g.2.2.2.1, 8, .inl (fun _ => 0)), .inl (g.2.2.2.1, 8, .inl (fun _ => 0))] H := hP
  refine lv_iinc (v := (10 : Int32)) (lv' := [(1, .int (10 : Int32)), (0, .ref (ga g k))]) hx hb dX0_init_37 hl (k := 0) rfl (by decide +kernel) (by decide) rfl (fun ls hl => ?_)
  refine lv_goto (tgt := 15) hx hb dX0_init_40 (by decide) ?_
  refine lv_iload_n hx hb dX0_init_15 rfl (lv_at hl 0 rfl) ?_
  refine lv_aload_n hx hb dX0_init_16 rfl (lv_at hl 1 rfl) ?_
  refine n_get (i := 0) (j := 0) X hP rfl (Nat.le_of_ble_eq_true rfl) rfl inX0 (by decide) k_100 rfl dX0_init_17 ?_
  refine n_alenq (i := 1) (v := (14 : Int32)) X hP rfl (Nat.le_of_ble_eq_true rfl) (by decide +kernel) dX0_init_20 ?_
  refine lv_icmp_ge (tgt := 43) hx hb dX0_init_21 (by decide) (fun cc_ => ?_) (fun cc_ => ?_)
  · exact absurd cc_ (by decide)
  refine lv_aload_n hx hb dX0_init_24 rfl (lv_at hl 1 rfl) ?_
  refine n_get (i := 0) (j := 0) X hP rfl (Nat.le_of_ble_eq_true rfl) rfl inX0 (by decide) k_100 rfl dX0_init_25 ?_
  refine lv_iload_n hx hb dX0_init_28 rfl (lv_at hl 0 rfl) ?_
  refine n_new (ci := 4) (fs := [.int 0, .int 0, .int 0, .int 0, .int 0, .int 0, .null, .null, .null, .int 0, .int 0, .int 0]) X hP hS (by show k + 1 + 41 = k + 42; omega) rfl inX5 tyX5 tyX5_ok kx_97 kx_40 kx_3 (fun j hj => by rcases (show j = 0 ∨ j = 1 ∨ j = 2 ∨ j = 3 ∨ j = 4 ∨ j = 5 ∨ j = 6 ∨ j = 7 ∨ j = 8 ∨ j = 9 ∨ j = 10 ∨ j = 11 by omega) with rfl | rfl | rfl | rfl | rfl | rfl | rfl | rfl | rfl | rfl | rfl | rfl <;> rfl) (Nat.le_of_ble_eq_true rfl) (Nat.le_of_ble_eq_true rfl) dX0_init_29 (fun H hP hS => ?_)
  replace hP : Wz g c0 k [.inr (0, [.ref (ga g (k + 1)), .int 0, .int 0]), .inl (g.2.2.2.2.2, 14, .inr (.inr (.inr (.inr (va_up (va_up (va_up (va_up (va_up (va_up (va_up (va_up (va_up (va_up (fun _ => none) 0 (some (ga g (k + 2)))) 1 (some (ga g (k + 6)))) 2 (some (ga g (k + 10)))) 3 (some (ga g (k + 14)))) 4 (some (ga g (k + 18)))) 5 (some (ga g (k + 22)))) 6 (some (ga g (k + 26)))) 7 (some (ga g (k + 30)))) 8 (some (ga g (k + 34)))) 9 (some (ga g (k + 38)))))))), .inr (4, [.int 100, .int 200, .int 0, .int 0, .int 0, .int 0, .ref (ga g (k + 3)), .ref (ga g (k + 4)), .ref (ga g (k + 5)), .int 0, .int 0, .int 0]), .inl (g.2.2.2.1, 8, .inl (fun _ => 0)), .inl (g.2.2.2.1, 8, .inl (fun _ => 0)), .inl (g.2.2.2.1, 8, .inl (fun _ => 0)), .inr (4, [.int 100, .int 200, .int 0, .int 0, .int 0, .int 0, .ref (ga g (k + 7)), .ref (ga g (k + 8)), .ref (ga g (k + 9)), .int 0, .int 0, .int 0]), .inl (g.2.2.2.1, 8, .inl (fun _ => 0)), .inl (g.2.2.2.1, 8, .inl (fun _ => 0)), .inl (g.2.2.2.1, 8, .inl (fun _ => 0)), .inr (4, [.int 100, .int 200, .int 0, .int 0, .int 0, .int 0, .ref (ga g (k + 11)), .ref (ga g (k + 12)), .ref (ga g (k + 13)), .int 0, .int 0, .int 0]), .inl (g.2.2.2.1, 8, .inl (fun _ => 0)), .inl (g.2.2.2.1, 8, .inl (fun _ => 0)), .inl (g.2.2.2.1, 8, .inl (fun _ => 0)), .inr (4, [.int 100, .int 200, .int 0, .int 0, .int 0, .int 0, .ref (ga g (k + 15)), .ref (ga g (k + 16)), .ref (ga g (k + 17)), .int 0, .int 0, .int 0]), .inl (g.2.2.2.1, 8, .inl (fun _ => 0)), .inl (g.2.2.2.1, 8, .inl (fun _ => 0)), .inl (g.2.2.2.1, 8, .inl (fun _ => 0)), .inr (4, [.int 100, .int 200, .int 0, .int 0, .int 0, .int 0, .ref (ga g (k + 19)), .ref (ga g (k + 20)), .ref (ga g (k + 21)), .int 0, .int 0, .int 0]), .inl (g.2.2.2.1, 8, .inl (fun _ => 0)), .inl (g.2.2.2.1, 8, .inl (fun _ => 0)), .inl (g.2.2.2.1, 8, .inl (fun _ => 0)), .inr (4, [.int 100, .int 200, .int 0, .int 0, .int 0, .int 0, .ref (ga g (k + 23)), .ref (ga g (k + 24)), .ref (ga g (k + 25)), .int 0, .int 0, .int 0]), .inl (g.2.2.2.1, 8, .inl (fun _ => 0)), .inl (g.2.2.2.1, 8, .inl (fun _ => 0)), .inl (g.2.2.2.1, 8, .inl (fun _ => 0)), .inr (4, [.int 100, .int 200, .int 0, .int 0, .int 0, .int 0, .ref (ga g (k + 27)), .ref (ga g (k + 28)), .ref (ga g (k + 29)), .int 0, .int 0, .int 0]), .inl (g.2.2.2.1, 8, .inl (fun _ => 0)), .inl (g.2.2.2.1, 8, .inl (fun _ => 0)), .inl (g.2.2.2.1, 8, .inl (fun _ => 0)), .inr (4, [.int 100, .int 200, .int 0, .int 0, .int 0, .int 0, .ref (ga g (k + 31)), .ref (ga g (k + 32)), .ref (ga g (k + 33)), .int 0, .int 0, .int 0]), .inl (g.2.2.2.1, 8, .inl (fun _ => 0)), .inl (g.2.2.2.1, 8, .inl (fun _ => 0)), .inl (g.2.2.2.1, 8, .inl (fun _ => 0)), .inr (4, [.int 100, .int 200, .int 0, .int 0, .int 0, .int 0, .ref (ga g (k + 35)), .ref (ga g (k + 36)), .ref (ga g (k + 37)), .int 0, .int 0, .int 0]), .inl (g.2.2.2.1, 8, .inl (fun _ => 0)), .inl (g.2.2.2.1, 8, .inl (fun _ => 0)), .inl (g.2.2.2.1, 8, .inl (fun _ => 0)), .inr (4, [.int 100, .int 200, .int 0, .int 0, .int 0, .int 0, .ref (ga g (k + 39)), .ref (ga g (k + 40)), .ref (ga g (k + 41)), .int 0, .int 0, .int 0]), .inl (g.2.2.2.1, 8, .inl (fun _ => 0)), .inl (g.2.2.2.1, 8, .inl (fun _ => 0)), .inl (g.2.2.2.1, 8, .inl (fun _ => 0)), .inr (4, [.int 0, .int 0, .int 0, .int 0, .int 0, .int 0, .null, .null, .null, .int 0, .int 0, .int 0])] H := hP
  show W p l e rm0_init s m args below meth c H _ 42 386 _ (F0 m 32 ls [.ref (ga g (k + 42)), .int (10 : Int32), .ref (ga g (k + 1))])
  refine lv_dup hx hb dX0_init_32 rfl ?_
  refine n_callN (mc := 3) (ms := 24) (rest := [.ref (ga g (k + 42)), .int (10 : Int32), .ref (ga g (k + 1))]) [.inr (0, [.ref (ga g (k + 1)), .int 0, .int 0]), .inl (g.2.2.2.2.2, 14, .inr (.inr (.inr (.inr (va_up (va_up (va_up (va_up (va_up (va_up (va_up (va_up (va_up (va_up (fun _ => none) 0 (some (ga g (k + 2)))) 1 (some (ga g (k + 6)))) 2 (some (ga g (k + 10)))) 3 (some (ga g (k + 14)))) 4 (some (ga g (k + 18)))) 5 (some (ga g (k + 22)))) 6 (some (ga g (k + 26)))) 7 (some (ga g (k + 30)))) 8 (some (ga g (k + 34)))) 9 (some (ga g (k + 38)))))))), .inr (4, [.int 100, .int 200, .int 0, .int 0, .int 0, .int 0, .ref (ga g (k + 3)), .ref (ga g (k + 4)), .ref (ga g (k + 5)), .int 0, .int 0, .int 0]), .inl (g.2.2.2.1, 8, .inl (fun _ => 0)), .inl (g.2.2.2.1, 8, .inl (fun _ => 0)), .inl (g.2.2.2.1, 8, .inl (fun _ => 0)), .inr (4, [.int 100, .int 200, .int 0, .int 0, .int 0, .int 0, .ref (ga g (k + 7)), .ref (ga g (k + 8)), .ref (ga g (k + 9)), .int 0, .int 0, .int 0]), .inl (g.2.2.2.1, 8, .inl (fun _ => 0)), .inl (g.2.2.2.1, 8, .inl (fun _ => 0)), .inl (g.2.2.2.1, 8, .inl (fun _ => 0)), .inr (4, [.int 100, .int 200, .int 0, .int 0, .int 0, .int 0, .ref (ga g (k + 11)), .ref (ga g (k + 12)), .ref (ga g (k + 13)), .int 0, .int 0, .int 0]), .inl (g.2.2.2.1, 8, .inl (fun _ => 0)), .inl (g.2.2.2.1, 8, .inl (fun _ => 0)), .inl (g.2.2.2.1, 8, .inl (fun _ => 0)), .inr (4, [.int 100, .int 200, .int 0, .int 0, .int 0, .int 0, .ref (ga g (k + 15)), .ref (ga g (k + 16)), .ref (ga g (k + 17)), .int 0, .int 0, .int 0]), .inl (g.2.2.2.1, 8, .inl (fun _ => 0)), .inl (g.2.2.2.1, 8, .inl (fun _ => 0)), .inl (g.2.2.2.1, 8, .inl (fun _ => 0)), .inr (4, [.int 100, .int 200, .int 0, .int 0, .int 0, .int 0, .ref (ga g (k + 19)), .ref (ga g (k + 20)), .ref (ga g (k + 21)), .int 0, .int 0, .int 0]), .inl (g.2.2.2.1, 8, .inl (fun _ => 0)), .inl (g.2.2.2.1, 8, .inl (fun _ => 0)), .inl (g.2.2.2.1, 8, .inl (fun _ => 0)), .inr (4, [.int 100, .int 200, .int 0, .int 0, .int 0, .int 0, .ref (ga g (k + 23)), .ref (ga g (k + 24)), .ref (ga g (k + 25)), .int 0, .int 0, .int 0]), .inl (g.2.2.2.1, 8, .inl (fun _ => 0)), .inl (g.2.2.2.1, 8, .inl (fun _ => 0)), .inl (g.2.2.2.1, 8, .inl (fun _ => 0)), .inr (4, [.int 100, .int 200, .int 0, .int 0, .int 0, .int 0, .ref (ga g (k + 27)), .ref (ga g (k + 28)), .ref (ga g (k + 29)), .int 0, .int 0, .int 0]), .inl (g.2.2.2.1, 8, .inl (fun _ => 0)), .inl (g.2.2.2.1, 8, .inl (fun _ => 0)), .inl (g.2.2.2.1, 8, .inl (fun _ => 0)), .inr (4, [.int 100, .int 200, .int 0, .int 0, .int 0, .int 0, .ref (ga g (k + 31)), .ref (ga g (k + 32)), .ref (ga g (k + 33)), .int 0, .int 0, .int 0]), .inl (g.2.2.2.1, 8, .inl (fun _ => 0)), .inl (g.2.2.2.1, 8, .inl (fun _ => 0)), .inl (g.2.2.2.1, 8, .inl (fun _ => 0)), .inr (4, [.int 100, .int 200, .int 0, .int 0, .int 0, .int 0, .ref (ga g (k + 35)), .ref (ga g (k + 36)), .ref (ga g (k + 37)), .int 0, .int 0, .int 0]), .inl (g.2.2.2.1, 8, .inl (fun _ => 0)), .inl (g.2.2.2.1, 8, .inl (fun _ => 0)), .inl (g.2.2.2.1, 8, .inl (fun _ => 0)), .inr (4, [.int 100, .int 200, .int 0, .int 0, .int 0, .int 0, .ref (ga g (k + 39)), .ref (ga g (k + 40)), .ref (ga g (k + 41)), .int 0, .int 0, .int 0]), .inl (g.2.2.2.1, 8, .inl (fun _ => 0)), .inl (g.2.2.2.1, 8, .inl (fun _ => 0)), .inl (g.2.2.2.1, 8, .inl (fun _ => 0))] [.inr (4, [.int 0, .int 0, .int 0, .int 0, .int 0, .int 0, .null, .null, .null, .int 0, .int 0, .int 0])] [.inr (4, [.int 100, .int 200, .int 0, .int 0, .int 0, .int 0, .ref (ga g (k + 43)), .ref (ga g (k + 44)), .ref (ga g (k + 45)), .int 0, .int 0, .int 0]), .inl (g.2.2.2.1, 8, .inl (fun _ => 0)), .inl (g.2.2.2.1, 8, .inl (fun _ => 0)), .inl (g.2.2.2.1, 8, .inl (fun _ => 0))] X (c5_init l g hg _ _) rfl cal_X5_init im_X5_init X.2.2.2.2.2.2.1 rfl ⟨rfl, rfl⟩ ⟨Nat.le_of_ble_eq_true rfl, Nat.le_of_ble_eq_true rfl⟩ hP hS (by show k + 1 + 42 = k + 43; omega) (Nat.succ_pos _) hl.1 (Nat.le_of_ble_eq_true rfl) dX0_init_33 ⟨Nat.le_of_ble_eq_true rfl, Nat.le_of_ble_eq_true rfl⟩ (fun H locs hP hS => ?_)
  replace hP : Wz g c0 k [.inr (0, [.ref (ga g (k + 1)), .int 0, .int 0]), .inl (g.2.2.2.2.2, 14, .inr (.inr (.inr (.inr (va_up (va_up (va_up (va_up (va_up (va_up (va_up (va_up (va_up (va_up (fun _ => none) 0 (some (ga g (k + 2)))) 1 (some (ga g (k + 6)))) 2 (some (ga g (k + 10)))) 3 (some (ga g (k + 14)))) 4 (some (ga g (k + 18)))) 5 (some (ga g (k + 22)))) 6 (some (ga g (k + 26)))) 7 (some (ga g (k + 30)))) 8 (some (ga g (k + 34)))) 9 (some (ga g (k + 38)))))))), .inr (4, [.int 100, .int 200, .int 0, .int 0, .int 0, .int 0, .ref (ga g (k + 3)), .ref (ga g (k + 4)), .ref (ga g (k + 5)), .int 0, .int 0, .int 0]), .inl (g.2.2.2.1, 8, .inl (fun _ => 0)), .inl (g.2.2.2.1, 8, .inl (fun _ => 0)), .inl (g.2.2.2.1, 8, .inl (fun _ => 0)), .inr (4, [.int 100, .int 200, .int 0, .int 0, .int 0, .int 0, .ref (ga g (k + 7)), .ref (ga g (k + 8)), .ref (ga g (k + 9)), .int 0, .int 0, .int 0]), .inl (g.2.2.2.1, 8, .inl (fun _ => 0)), .inl (g.2.2.2.1, 8, .inl (fun _ => 0)), .inl (g.2.2.2.1, 8, .inl (fun _ => 0)), .inr (4, [.int 100, .int 200, .int 0, .int 0, .int 0, .int 0, .ref (ga g (k + 11)), .ref (ga g (k + 12)), .ref (ga g (k + 13)), .int 0, .int 0, .int 0]), .inl (g.2.2.2.1, 8, .inl (fun _ => 0)), .inl (g.2.2.2.1, 8, .inl (fun _ => 0)), .inl (g.2.2.2.1, 8, .inl (fun _ => 0)), .inr (4, [.int 100, .int 200, .int 0, .int 0, .int 0, .int 0, .ref (ga g (k + 15)), .ref (ga g (k + 16)), .ref (ga g (k + 17)), .int 0, .int 0, .int 0]), .inl (g.2.2.2.1, 8, .inl (fun _ => 0)), .inl (g.2.2.2.1, 8, .inl (fun _ => 0)), .inl (g.2.2.2.1, 8, .inl (fun _ => 0)), .inr (4, [.int 100, .int 200, .int 0, .int 0, .int 0, .int 0, .ref (ga g (k + 19)), .ref (ga g (k + 20)), .ref (ga g (k + 21)), .int 0, .int 0, .int 0]), .inl (g.2.2.2.1, 8, .inl (fun _ => 0)), .inl (g.2.2.2.1, 8, .inl (fun _ => 0)), .inl (g.2.2.2.1, 8, .inl (fun _ => 0)), .inr (4, [.int 100, .int 200, .int 0, .int 0, .int 0, .int 0, .ref (ga g (k + 23)), .ref (ga g (k + 24)), .ref (ga g (k + 25)), .int 0, .int 0, .int 0]), .inl (g.2.2.2.1, 8, .inl (fun _ => 0)), .inl (g.2.2.2.1, 8, .inl (fun _ => 0)), .inl (g.2.2.2.1, 8, .inl (fun _ => 0)), .inr (4, [.int 100, .int 200, .int 0, .int 0, .int 0, .int 0, .ref (ga g (k + 27)), .ref (ga g (k + 28)), .ref (ga g (k + 29)), .int 0, .int 0, .int 0]), .inl (g.2.2.2.1, 8, .inl (fun _ => 0)), .inl (g.2.2.2.1, 8, .inl (fun _ => 0)), .inl (g.2.2.2.1, 8, .inl (fun _ => 0)), .inr (4, [.int 100, .int 200, .int 0, .int 0, .int 0, .int 0, .ref (ga g (k + 31)), .ref (ga g (k + 32)), .ref (ga g (k + 33)), .int 0, .int 0, .int 0]), .inl (g.2.2.2.1, 8, .inl (fun _ => 0)), .inl (g.2.2.2.1, 8, .inl (fun _ => 0)), .inl (g.2.2.2.1, 8, .inl (fun _ => 0)), .inr (4, [.int 100, .int 200, .int 0, .int 0, .int 0, .int 0, .ref (ga g (k + 35)), .ref (ga g (k + 36)), .ref (ga g (k + 37)), .int 0, .int 0, .int 0]), .inl (g.2.2.2.1, 8, .inl (fun _ => 0)), .inl (g.2.2.2.1, 8, .inl (fun _ => 0)), .inl (g.2.2.2.1, 8, .inl (fun _ => 0)), .inr (4, [.int 100, .int 200, .int 0, .int 0, .int 0, .int 0, .ref (ga g (k + 39)), .ref (ga g (k + 40)), .ref (ga g (k + 41)), .int 0, .int 0, .int 0]), .inl (g.2.2.2.1, 8, .inl (fun _ => 0)), .inl (g.2.2.2.1, 8, .inl (fun _ => 0)), .inl (g.2.2.2.1, 8, .inl (fun _ => 0)), .inr (4, [.int 100, .int 200, .int 0, .int 0, .int 0, .int 0, .ref (ga g (k + 43)), .ref (ga g (k + 44)), .ref (ga g (k + 45)), .int 0, .int 0, .int 0]), .inl (g.2.2.2.1, 8, .inl (fun _ => 0)), .inl (g.2.2.2.1, 8, .inl (fun _ => 0)), .inl (g.2.2.2.1, 8, .inl (fun _ => 0))] H := hP
  show W p l e rm0_init s m args below meth c H _ 45 410 _ (F0 m 36 ls [.ref (ga g (k + 42)), .int (10 : Int32), .ref (ga g (k + 1))])
  refine n_aast (i := 1) (j := 10) (jo := 42) X hP hS rfl (Nat.le_of_ble_eq_true rfl) rfl (Nat.le_of_ble_eq_true rfl) (by decide +kernel) (by decide +kernel) dX0_init_36 (fun H locs hP hS => ?_)
  replace hP : Wz g c0 k [.inr (0, [.ref (ga g (k + 1)), .int 0, .int 0]), .inl (g.2.2.2.2.2, 14, .inr (.inr (.inr (.inr (va_up (va_up (va_up (va_up (va_up (va_up (va_up (va_up (va_up (va_up (va_up (fun _ => none) 0 (some (ga g (k + 2)))) 1 (some (ga g (k + 6)))) 2 (some (ga g (k + 10)))) 3 (some (ga g (k + 14)))) 4 (some (ga g (k + 18)))) 5 (some (ga g (k + 22)))) 6 (some (ga g (k + 26)))) 7 (some (ga g (k + 30)))) 8 (some (ga g (k + 34)))) 9 (some (ga g (k + 38)))) 10 (some (ga g (k + 42)))))))), .inr (4, [.int 100, .int 200, .int 0, .int 0, .int 0, .int 0, .ref (ga g (k + 3)), .ref (ga g (k + 4)), .ref (ga g (k + 5)), .int 0, .int 0, .int 0]), .inl (g.2.2.2.1, 8, .inl (fun _ => 0)), .inl (g.2.2.2.1, 8, .inl (fun _ => 0)), .inl (g.2.2.2.1, 8, .inl (fun _ => 0)), .inr (4, [.int 100, .int 200, .int 0, .int 0, .int 0, .int 0, .ref (ga g (k + 7)), .ref (ga g (k + 8)), .ref (ga g (k + 9)), .int 0, .int 0, .int 0]), .inl (g.2.2.2.1, 8, .inl (fun _ => 0)), .inl (g.2.2.2.1, 8, .inl (fun _ => 0)), .inl (g.2.2.2.1, 8, .inl (fun _ => 0)), .inr (4, [.int 100, .int 200, .int 0, .int 0, .int 0, .int 0, .ref (ga g (k + 11)), .ref (ga g (k + 12)), .ref (ga g (k + 13)), .int 0, .int 0, .int 0]), .inl (g.2.2.2.1, 8, .inl (fun _ => 0)), .inl (g.2.2.2.1, 8, .inl (fun _ => 0)), .inl (g.2.2.2.1, 8, .inl (fun _ => 0)), .inr (4, [.int 100, .int 200, .int 0, .int 0, .int 0, .int 0, .ref (ga g (k + 15)), .ref (ga g (k + 16)), .ref (ga g (k + 17)), .int 0, .int 0, .int 0]), .inl (g.2.2.2.1, 8, .inl (fun _ => 0)), .inl (g.2.2.2.1, 8, .inl (fun _ => 0)), .inl (g.2.2.2.1, 8, .inl (fun _ => 0)), .inr (4, [.int 100, .int 200, .int 0, .int 0, .int 0, .int 0, .ref (ga g (k + 19)), .ref (ga g (k + 20)), .ref (ga g (k + 21)), .int 0, .int 0, .int 0]), .inl (g.2.2.2.1, 8, .inl (fun _ => 0)), .inl (g.2.2.2.1, 8, .inl (fun _ => 0)), .inl (g.2.2.2.1, 8, .inl (fun _ => 0)), .inr (4, [.int 100, .int 200, .int 0, .int 0, .int 0, .int 0, .ref (ga g (k + 23)), .ref (ga g (k + 24)), .ref (ga g (k + 25)), .int 0, .int 0, .int 0]), .inl (g.2.2.2.1, 8, .inl (fun _ => 0)), .inl (g.2.2.2.1, 8, .inl (fun _ => 0)), .inl (g.2.2.2.1, 8, .inl (fun _ => 0)), .inr (4, [.int 100, .int 200, .int 0, .int 0, .int 0, .int 0, .ref (ga g (k + 27)), .ref (ga g (k + 28)), .ref (ga g (k + 29)), .int 0, .int 0, .int 0]), .inl (g.2.2.2.1, 8, .inl (fun _ => 0)), .inl (g.2.2.2.1, 8, .inl (fun _ => 0)), .inl (g.2.2.2.1, 8, .inl (fun _ => 0)), .inr (4, [.int 100, .int 200, .int 0, .int 0, .int 0, .int 0, .ref (ga g (k + 31)), .ref (ga g (k + 32)), .ref (ga g (k + 33)), .int 0, .int 0, .int 0]), .inl (g.2.2.2.1, 8, .inl (fun _ => 0)), .inl (g.2.2.2.1, 8, .inl (fun _ => 0)), .inl (g.2.2.2.1, 8, .inl (fun _ => 0)), .inr (4, [.int 100, .int 200, .int 0, .int 0, .int 0, .int 0, .ref (ga g (k + 35)), .ref (ga g (k + 36)), .ref (ga g (k + 37)), .int 0, .int 0, .int 0]), .inl (g.2.2.2.1, 8, .inl (fun _ => 0)), .inl (g.2.2.2.1, 8, .inl (fun _ => 0)), .inl (g.2.2.2.1, 8, .inl (fun _ => 0)), .inr (4, [.int 100, .int 200, .int 0, .int 0, .int 0, .int 0, .ref (ga g (k + 39)), .ref (ga g (k + 40)), .ref (ga g (k + 41)), .int 0, .int 0, .int 0]), .inl (g.2.2.2.1, 8, .inl (fun _ => 0)), .inl (g.2.2.2.1, 8, .inl (fun _ => 0)), .inl (g.2.2.2.1, 8, .inl (fun _ => 0)), .inr (4, [.int 100, .int 200, .int 0, .int 0, .int 0, .int 0, .ref (ga g (k + 43)), .ref (ga g (k + 44)), .ref (ga g (k + 45)), .int 0, .int 0, .int 0]), .inl (g.2.2.2.1, 8, .inl (fun _ => 0)), .inl (g.2.2.2.1, 8, .inl (fun _ => 0)), .inl (g.2.2.2.1, 8, .inl (fun _ => 0))] H := hP
  refine lv_iinc (v := (11 : Int32)) (lv' := [(1, .int (11 : Int32)), (0, .ref (ga g k))]) hx hb dX0_init_37 hl (k := 0) rfl (by decide +kernel) (by decide) rfl (fun ls hl => ?_)
  refine lv_goto (tgt := 15) hx hb dX0_init_40 (by decide) ?_
  refine lv_iload_n hx hb dX0_init_15 rfl (lv_at hl 0 rfl) ?_
  refine lv_aload_n hx hb dX0_init_16 rfl (lv_at hl 1 rfl) ?_
  refine n_get (i := 0) (j := 0) X hP rfl (Nat.le_of_ble_eq_true rfl) rfl inX0 (by decide) k_100 rfl dX0_init_17 ?_
  refine n_alenq (i := 1) (v := (14 : Int32)) X hP rfl (Nat.le_of_ble_eq_true rfl) (by decide +kernel) dX0_init_20 ?_
  refine lv_icmp_ge (tgt := 43) hx hb dX0_init_21 (by decide) (fun cc_ => ?_) (fun cc_ => ?_)
  · exact absurd cc_ (by decide)
  refine lv_aload_n hx hb dX0_init_24 rfl (lv_at hl 1 rfl) ?_
  refine n_get (i := 0) (j := 0) X hP rfl (Nat.le_of_ble_eq_true rfl) rfl inX0 (by decide) k_100 rfl dX0_init_25 ?_
  refine lv_iload_n hx hb dX0_init_28 rfl (lv_at hl 0 rfl) ?_
  refine n_new (ci := 4) (fs := [.int 0, .int 0, .int 0, .int 0, .int 0, .int 0, .null, .null, .null, .int 0, .int 0, .int 0]) X hP hS (by show k + 1 + 45 = k + 46; omega) rfl inX5 tyX5 tyX5_ok kx_97 kx_40 kx_3 (fun j hj => by rcases (show j = 0 ∨ j = 1 ∨ j = 2 ∨ j = 3 ∨ j = 4 ∨ j = 5 ∨ j = 6 ∨ j = 7 ∨ j = 8 ∨ j = 9 ∨ j = 10 ∨ j = 11 by omega) with rfl | rfl | rfl | rfl | rfl | rfl | rfl | rfl | rfl | rfl | rfl | rfl <;> rfl) (Nat.le_of_ble_eq_true rfl) (Nat.le_of_ble_eq_true rfl) dX0_init_29 (fun H hP hS => ?_)
  replace hP : Wz g c0 k [.inr (0, [.ref (ga g (k + 1)), .int 0, .int 0]), .inl (g.2.2.2.2.2, 14, .inr (.inr (.inr (.inr (va_up (va_up (va_up (va_up (va_up (va_up (va_up (va_up (va_up (va_up (va_up (fun _ => none) 0 (some (ga g (k + 2)))) 1 (some (ga g (k + 6)))) 2 (some (ga g (k + 10)))) 3 (some (ga g (k + 14)))) 4 (some (ga g (k + 18)))) 5 (some (ga g (k + 22)))) 6 (some (ga g (k + 26)))) 7 (some (ga g (k + 30)))) 8 (some (ga g (k + 34)))) 9 (some (ga g (k + 38)))) 10 (some (ga g (k + 42)))))))), .inr (4, [.int 100, .int 200, .int 0, .int 0, .int 0, .int 0, .ref (ga g (k + 3)), .ref (ga g (k + 4)), .ref (ga g (k + 5)), .int 0, .int 0, .int 0]), .inl (g.2.2.2.1, 8, .inl (fun _ => 0)), .inl (g.2.2.2.1, 8, .inl (fun _ => 0)), .inl (g.2.2.2.1, 8, .inl (fun _ => 0)), .inr (4, [.int 100, .int 200, .int 0, .int 0, .int 0, .int 0, .ref (ga g (k + 7)), .ref (ga g (k + 8)), .ref (ga g (k + 9)), .int 0, .int 0, .int 0]), .inl (g.2.2.2.1, 8, .inl (fun _ => 0)), .inl (g.2.2.2.1, 8, .inl (fun _ => 0)), .inl (g.2.2.2.1, 8, .inl (fun _ => 0)), .inr (4, [.int 100, .int 200, .int 0, .int 0, .int 0, .int 0, .ref (ga g (k + 11)), .ref (ga g (k + 12)), .ref (ga g (k + 13)), .int 0, .int 0, .int 0]), .inl (g.2.2.2.1, 8, .inl (fun _ => 0)), .inl (g.2.2.2.1, 8, .inl (fun _ => 0)), .inl (g.2.2.2.1, 8, .inl (fun _ => 0)), .inr (4, [.int 100, .int 200, .int 0, .int 0, .int 0, .int 0, .ref (ga g (k + 15)), .ref (ga g (k + 16)), .ref (ga g (k + 17)), .int 0, .int 0, .int 0]), .inl (g.2.2.2.1, 8, .inl (fun _ => 0)), .inl (g.2.2.2.1, 8, .inl (fun _ => 0)), .inl (g.2.2.2.1, 8, .inl (fun _ => 0)), .inr (4, [.int 100, .int 200, .int 0, .int 0, .int 0, .int 0, .ref (ga g (k + 19)), .ref (ga g (k + 20)), .ref (ga g (k + 21)), .int 0, .int 0, .int 0]), .inl (g.2.2.2.1, 8, .inl (fun _ => 0)), .inl (g.2.2.2.1, 8, .inl (fun _ => 0)), .inl (g.2.2.2.1, 8, .inl (fun _ => 0)), .inr (4, [.int 100, .int 200, .int 0, .int 0, .int 0, .int 0, .ref (ga g (k + 23)), .ref (ga g (k + 24)), .ref (ga g (k + 25)), .int 0, .int 0, .int 0]), .inl (g.2.2.2.1, 8, .inl (fun _ => 0)), .inl (g.2.2.2.1, 8, .inl (fun _ => 0)), .inl (g.2.2.2.1, 8, .inl (fun _ => 0)), .inr (4, [.int 100, .int 200, .int 0, .int 0, .int 0, .int 0, .ref (ga g (k + 27)), .ref (ga g (k + 28)), .ref (ga g (k + 29)), .int 0, .int 0, .int 0]), .inl (g.2.2.2.1, 8, .inl (fun _ => 0)), .inl (g.2.2.2.1, 8, .inl (fun _ => 0)), .inl (g.2.2.2.1, 8, .inl (fun _ => 0)), .inr (4, [.int 100, .int 200, .int 0, .int 0, .int 0, .int 0, .ref (ga g (k + 31)), .ref (ga g (k + 32)), .ref (ga g (k + 33)), .int 0, .int 0, .int 0]), .inl (g.2.2.2.1, 8, .inl (fun _ => 0)), .inl (g.2.2.2.1, 8, .inl (fun _ => 0)), .inl (g.2.2.2.1, 8, .inl (fun _ => 0)), .inr (4, [.int 100, .int 200, .int 0, .int 0, .int 0, .int 0, .ref (ga g (k + 35)), .ref (ga g (k + 36)), .ref (ga g (k + 37)), .int 0, .int 0, .int 0]), .inl (g.2.2.2.1, 8, .inl (fun _ => 0)), .inl (g.2.2.2.1, 8, .inl (fun _ => 0)), .inl (g.2.2.2.1, 8, .inl (fun _ => 0)), .inr (4, [.int 100, .int 200, .int 0, .int 0, .int 0, .int 0, .ref (ga g (k + 39)), .ref (ga g (k + 40)), .ref (ga g (k + 41)), .int 0, .int 0, .int 0]), .inl (g.2.2.2.1, 8, .inl (fun _ => 0)), .inl (g.2.2.2.1, 8, .inl (fun _ => 0)), .inl (g.2.2.2.1, 8, .inl (fun _ => 0)), .inr (4, [.int 100, .int 200, .int 0, .int 0, .int 0, .int 0, .ref (ga g (k + 43)), .ref (ga g (k + 44)), .ref (ga g (k + 45)), .int 0, .int 0, .int 0]), .inl (g.2.2.2.1, 8, .inl (fun _ => 0)), .inl (g.2.2.2.1, 8, .inl (fun _ => 0)), .inl (g.2.2.2.1, 8, .inl (fun _ => 0)), .inr (4, [.int 0, .int 0, .int 0, .int 0, .int 0, .int 0, .null, .null, .null, .int 0, .int 0, .int 0])] H := hP
  show W p l e rm0_init s m args below meth c H _ 46 422 _ (F0 m 32 ls [.ref (ga g (k + 46)), .int (11 : Int32), .ref (ga g (k + 1))])
  refine lv_dup hx hb dX0_init_32 rfl ?_
  refine n_callN (mc := 3) (ms := 24) (rest := [.ref (ga g (k + 46)), .int (11 : Int32), .ref (ga g (k + 1))]) [.inr (0, [.ref (ga g (k + 1)), .int 0, .int 0]), .inl (g.2.2.2.2.2, 14, .inr (.inr (.inr (.inr (va_up (va_up (va_up (va_up (va_up (va_up (va_up (va_up (va_up (va_up (va_up (fun _ => none) 0 (some (ga g (k + 2)))) 1 (some (ga g (k + 6)))) 2 (some (ga g (k + 10)))) 3 (some (ga g (k + 14)))) 4 (some (ga g (k + 18)))) 5 (some (ga g (k + 22)))) 6 (some (ga g (k + 26)))) 7 (some (ga g (k + 30)))) 8 (some (ga g (k + 34)))) 9 (some (ga g (k + 38)))) 10 (some (ga g (k + 42)))))))), .inr (4, [.int 100, .int 200, .int 0, .int 0, .int 0, .int 0, .ref (ga g (k + 3)), .ref (ga g (k + 4)), .ref (ga g (k + 5)), .int 0, .int 0, .int 0]), .inl (g.2.2.2.1, 8, .inl (fun _ => 0)), .inl (g.2.2.2.1, 8, .inl (fun _ => 0)), .inl (g.2.2.2.1, 8, .inl (fun _ => 0)), .inr (4, [.int 100, .int 200, .int 0, .int 0, .int 0, .int 0, .ref (ga g (k + 7)), .ref (ga g (k + 8)), .ref (ga g (k + 9)), .int 0, .int 0, .int 0]), .inl (g.2.2.2.1, 8, .inl (fun _ => 0)), .inl (g.2.2.2.1, 8, .inl (fun _ => 0)), .inl (g.2.2.2.1, 8, .inl (fun _ => 0)), .inr (4, [.int 100, .int 200, .int 0, .int 0, .int 0, .int 0, .ref (ga g (k + 11)), .ref (ga g (k + 12)), .ref (ga g (k + 13)), .int 0, .int 0, .int 0]), .inl (g.2.2.2.1, 8, .inl (fun _ => 0)), .inl (g.2.2.2.1, 8, .inl (fun _ => 0)), .inl (g.2.2.2.1, 8, .inl (fun _ => 0)), .inr (4, [.int 100, .int 200, .int 0, .int 0, .int 0, .int 0, .ref (ga g (k + 15)), .ref (ga g (k + 16)), .ref (ga g (k + 17)), .int 0, .int 0, .int 0]), .inl (g.2.2.2.1, 8, .inl (fun _ => 0)), .inl (g.2.2.2.1, 8, .inl (fun _ => 0)), .inl (g.2.2.2.1, 8, .inl (fun _ => 0)), .inr (4, [.int 100, .int 200, .int 0, .int 0, .int 0, .int 0, .ref (ga g (k + 19)), .ref (ga g (k + 20)), .ref (ga g (k + 21)), .int 0, .int 0, .int 0]), .inl (g.2.2.2.1, 8, .inl (fun _ => 0)), .inl (g.2.2.2.1, 8, .inl (fun _ => 0)), .inl (g.2.2.2.1, 8, .inl (fun _ => 0)), .inr (4, [.int 100, .int 200, .int 0, .int 0, .int 0, .int 0, .ref (ga g (k + 23)), .ref (ga g (k + 24)), .ref (ga g (k + 25)), .int 0, .int 0, .int 0]), .inl (g.2.2.2.1, 8, .inl (fun _ => 0)), .inl (g.2.2.2.1, 8, .inl (fun _ => 0)), .inl (g.2.2.2.1, 8, .inl (fun _ => 0)), .inr (4, [.int 100, .int 200, .int 0, .int 0, .int 0, .int 0, .ref (ga g (k + 27)), .ref (ga g (k + 28)), .ref (ga g (k + 29)), .int 0, .int 0, .int 0]), .inl (g.2.2.2.1, 8, .inl (fun _ => 0)), .inl (g.2.2.2.1, 8, .inl (fun _ => 0)), .inl (g.2.2.2.1, 8, .inl (fun _ => 0)), .inr (4, [.int 100, .int 200, .int 0, .int 0, .int 0, .int 0, .ref (ga g (k + 31)), .ref (ga g (k + 32)), .ref (ga g (k + 33)), .int 0, .int 0, .int 0]), .inl (g.2.2.2.1, 8, .inl (fun _ => 0)), .inl (g.2.2.2.1, 8, .inl (fun _ => 0)), .inl (g.2.2.2.1, 8, .inl (fun _ => 0)), .inr (4, [.int 100, .int 200, .int 0, .int 0, .int 0, .int 0, .ref (ga g (k + 35)), .ref (ga g (k + 36)), .ref (ga g (k + 37)), .int 0, .int 0, .int 0]), .inl (g.2.2.2.1, 8, .inl (fun _ => 0)), .inl (g.2.2.2.1, 8, .inl (fun _ => 0)), .inl (g.2.2.2.1, 8, .inl (fun _ => 0)), .inr (4, [.int 100, .int 200, .int 0, .int 0, .int 0, .int 0, .ref (ga g (k + 39)), .ref (ga g (k + 40)), .ref (ga g (k + 41)), .int 0, .int 0, .int 0]), .inl (g.2.2.2.1, 8, .inl (fun _ => 0)), .inl (g.2.2.2.1, 8, .inl (fun _ => 0)), .inl (g.2.2.2.1, 8, .inl (fun _ => 0)), .inr (4, [.int 100, .int 200, .int 0, .int 0, .int 0, .int 0, .ref (ga g (k + 43)), .ref (ga g (k + 44)), .ref (ga g (k + 45)), .int 0, .int 0, .int 0]), .inl (g.2.2.2.1, 8, .inl (fun _ => 0)), .inl (g.2.2.2.1, 8, .inl (fun _ => 0)), .inl (g.2.2.2.1, 8, .inl (fun _ => 0))] [.inr (4, [.int 0, .int 0, .int 0, .int 0, .int 0, .int 0, .null, .null, .null, .int 0, .int 0, .int 0])] [.inr (4, [.int 100, .int 200, .int 0, .int 0, .int 0, .int 0, .ref (ga g (k + 47)), .ref (ga g (k + 48)), .ref (ga g (k + 49)), .int 0, .int 0, .int 0]), .inl (g.2.2.2.1, 8, .inl (fun _ => 0)), .inl (g.2.2.2.1, 8, .inl (fun _ => 0)), .inl (g.2.2.2.1, 8, .inl (fun _ => 0))] X (c5_init l g hg _ _) rfl cal_X5_init im_X5_init X.2.2.2.2.2.2.1 rfl ⟨rfl, rfl⟩ ⟨Nat.le_of_ble_eq_true rfl, Nat.le_of_ble_eq_true rfl⟩ hP hS (by show k + 1 + 46 = k + 47; omega) (Nat.succ_pos _) hl.1 (Nat.le_of_ble_eq_true rfl) dX0_init_33 ⟨Nat.le_of_ble_eq_true rfl, Nat.le_of_ble_eq_true rfl⟩ (fun H locs hP hS => ?_)
  replace hP : Wz g c0 k [.inr (0, [.ref (ga g (k + 1)), .int 0, .int 0]), .inl (g.2.2.2.2.2, 14, .inr (.inr (.inr (.inr (va_up (va_up (va_up (va_up (va_up (va_up (va_up (va_up (va_up (va_up (va_up (fun _ => none) 0 (some (ga g (k + 2)))) 1 (some (ga g (k + 6)))) 2 (some (ga g (k + 10)))) 3 (some (ga g (k + 14)))) 4 (some (ga g (k + 18)))) 5 (some (ga g (k + 22)))) 6 (some (ga g (k + 26)))) 7 (some (ga g (k + 30)))) 8 (some (ga g (k + 34)))) 9 (some (ga g (k + 38)))) 10 (some (ga g (k + 42)))))))), .inr (4, [.int 100, .int 200, .int 0, .int 0, .int 0, .int 0, .ref (ga g (k + 3)), .ref (ga g (k + 4)), .ref (ga g (k + 5)), .int 0, .int 0, .int 0]), .inl (g.2.2.2.1, 8, .inl (fun _ => 0)), .inl (g.2.2.2.1, 8, .inl (fun _ => 0)), .inl (g.2.2.2.1, 8, .inl (fun _ => 0)), .inr (4, [.int 100, .int 200, .int 0, .int 0, .int 0, .int 0, .ref (ga g (k + 7)), .ref (ga g (k + 8)), .ref (ga g (k + 9)), .int 0, .int 0, .int 0]), .inl (g.2.2.2.1, 8, .inl (fun _ => 0)), .inl (g.2.2.2.1, 8, .inl (fun _ => 0)), .inl (g.2.2.2.1, 8, .inl (fun _ => 0)), .inr (4, [.int 100, .int 200, .int 0, .int 0, .int 0, .int 0, .ref (ga g (k + 11)), .ref (ga g (k + 12)), .ref (ga g (k + 13)), .int 0, .int 0, .int 0]), .inl (g.2.2.2.1, 8, .inl (fun _ => 0)), .inl (g.2.2.2.1, 8, .inl (fun _ => 0)), .inl (g.2.2.2.1, 8, .inl (fun _ => 0)), .inr (4, [.int 100, .int 200, .int 0, .int 0, .int 0, .int 0, .ref (ga g (k + 15)), .ref (ga g (k + 16)), .ref (ga g (k + 17)), .int 0, .int 0, .int 0]), .inl (g.2.2.2.1, 8, .inl (fun _ => 0)), .inl (g.2.2.2.1, 8, .inl (fun _ => 0)), .inl (g.2.2.2.1, 8, .inl (fun _ => 0)), .inr (4, [.int 100, .int 200, .int 0, .int 0, .int 0, .int 0, .ref (ga g (k + 19)), .ref (ga g (k + 20)), .ref (ga g (k + 21)), .int 0, .int 0, .int 0]), .inl (g.2.2.2.1, 8, .inl (fun _ => 0)), .inl (g.2.2.2.1, 8, .inl (fun _ => 0)), .inl (g.2.2.2.1, 8, .inl (fun _ => 0)), .inr (4, [.int 100, .int 200, .int 0, .int 0, .int 0, .int 0, .ref (ga g (k + 23)), .ref (ga g (k + 24)), .ref (ga g (k + 25)), .int 0, .int 0, .int 0]), .inl (g.2.2.2.1, 8, .inl (fun _ => 0)), .inl (g.2.2.2.1, 8, .inl (fun _ => 0)), .inl (g.2.2.2.1, 8, .inl (fun _ => 0)), .inr (4, [.int 100, .int 200, .int 0, .int 0, .int 0, .int 0, .ref (ga g (k + 27)), .ref (ga g (k + 28)), .ref (ga g (k + 29)), .int 0, .int 0, .int 0]), .inl (g.2.2.2.1, 8, .inl (fun _ => 0)), .inl (g.2.2.2.1, 8, .inl (fun _ => 0)), .inl (g.2.2.2.1, 8, .inl (fun _ => 0)), .inr (4, [.int 100, .int 200, .int 0, .int 0, .int 0, .int 0, .ref (ga g (k + 31)), .ref (ga g (k + 32)), .ref (ga g (k + 33)), .int 0, .int 0, .int 0]), .inl (g.2.2.2.1, 8, .inl (fun _ => 0)), .inl (g.2.2.2.1, 8, .inl (fun _ => 0)), .inl (g.2.2.2.1, 8, .inl (fun _ => 0)), .inr (4, [.int 100, .int 200, .int 0, .int 0, .int 0, .int 0, .ref (ga g (k + 35)), .ref (ga g (k + 36)), .ref (ga g (k + 37)), .int 0, .int 0, .int 0]), .inl (g.2.2.2.1, 8, .inl (fun _ => 0)), .inl (g.2.2.2.1, 8, .inl (fun _ => 0)), .inl (g.2.2.2.1, 8, .inl (fun _ => 0)), .inr (4, [.int 100, .int 200, .int 0, .int 0, .int 0, .int 0, .ref (ga g (k + 39)), .ref (ga g (k + 40)), .ref (ga g (k + 41)), .int 0, .int 0, .int 0]), .inl (g.2.2.2.1, 8, .inl (fun _ => 0)), .inl (g.2.2.2.1, 8, .inl (fun _ => 0)), .inl (g.2.2.2.1, 8, .inl (fun _ => 0)), .inr (4, [.int 100, .int 200, .int 0, .int 0, .int 0, .int 0, .ref (ga g (k + 43)), .ref (ga g (k + 44)), .ref (ga g (k + 45)), .int 0, .int 0, .int 0]), .inl (g.2.2.2.1, 8, .inl (fun _ => 0)), .inl (g.2.2.2.1, 8, .inl (fun _ => 0)), .inl (g.2.2.2.1, 8, .inl (fun _ => 0)), .inr (4, [.int 100, .int 200, .int 0, .int 0, .int 0, .int 0, .ref (ga g (k + 47)), .ref (ga g (k + 48)), .ref (ga g (k + 49)), .int 0, .int 0, .int 0]), .inl (g.2.2.2.1, 8, .inl (fun _ => 0)), .inl (g.2.2.2.1, 8, .inl (fun _ => 0)), .inl (g.2.2.2.1, 8, .inl (fun _ => 0))] H := hP
  show W p l e rm0_init s m args below meth c H _ 49 446 _ (F0 m 36 ls [.ref (ga g (k + 46)), .int (11 : Int32), .ref (ga g (k + 1))])
  refine n_aast (i := 1) (j := 11) (jo := 46) X hP hS rfl (Nat.le_of_ble_eq_true rfl) rfl (Nat.le_of_ble_eq_true rfl) (by decide +kernel) (by decide +kernel) dX0_init_36 (fun H locs hP hS => ?_)
  replace hP : Wz g c0 k [.inr (0, [.ref (ga g (k + 1)), .int 0, .int 0]), .inl (g.2.2.2.2.2, 14, .inr (.inr (.inr (.inr (va_up (va_up (va_up (va_up (va_up (va_up (va_up (va_up (va_up (va_up (va_up (va_up (fun _ => none) 0 (some (ga g (k + 2)))) 1 (some (ga g (k + 6)))) 2 (some (ga g (k + 10)))) 3 (some (ga g (k + 14)))) 4 (some (ga g (k + 18)))) 5 (some (ga g (k + 22)))) 6 (some (ga g (k + 26)))) 7 (some (ga g (k + 30)))) 8 (some (ga g (k + 34)))) 9 (some (ga g (k + 38)))) 10 (some (ga g (k + 42)))) 11 (some (ga g (k + 46)))))))), .inr (4, [.int 100, .int 200, .int 0, .int 0, .int 0, .int 0, .ref (ga g (k + 3)), .ref (ga g (k + 4)), .ref (ga g (k + 5)), .int 0, .int 0, .int 0]), .inl (g.2.2.2.1, 8, .inl (fun _ => 0)), .inl (g.2.2.2.1, 8, .inl (fun _ => 0)), .inl (g.2.2.2.1, 8, .inl (fun _ => 0)), .inr (4, [.int 100, .int 200, .int 0, .int 0, .int 0, .int 0, .ref (ga g (k + 7)), .ref (ga g (k + 8)), .ref (ga g (k + 9)), .int 0, .int 0, .int 0]), .inl (g.2.2.2.1, 8, .inl (fun _ => 0)), .inl (g.2.2.2.1, 8, .inl (fun _ => 0)), .inl (g.2.2.2.1, 8, .inl (fun _ => 0)), .inr (4, [.int 100, .int 200, .int 0, .int 0, .int 0, .int 0, .ref (ga g (k + 11)), .ref (ga g (k + 12)), .ref (ga g (k + 13)), .int 0, .int 0, .int 0]), .inl (g.2.2.2.1, 8, .inl (fun _ => 0)), .inl (g.2.2.2.1, 8, .inl (fun _ => 0)), .inl (g.2.2.2.1, 8, .inl (fun _ => 0)), .inr (4, [.int 100, .int 200, .int 0, .int 0, .int 0, .int 0, .ref (ga g (k + 15)), .ref (ga g (k + 16)), .ref (ga g (k + 17)), .int 0, .int 0, .int 0]), .inl (g.2.2.2.1, 8, .inl (fun _ => 0)), .inl (g.2.2.2.1, 8, .inl (fun _ => 0)), .inl (g.2.2.2.1, 8, .inl (fun _ => 0)), .inr (4, [.int 100, .int 200, .int 0, .int 0, .int 0, .int 0, .ref (ga g (k + 19)), .ref (ga g (k + 20)), .ref (ga g (k + 21)), .int 0, .int 0, .int 0]), .inl (g.2.2.2.1, 8, .inl (fun _ => 0)), .inl (g.2.2.2.1, 8, .inl (fun _ => 0)), .inl (g.2.2.2.1, 8, .inl (fun _ => 0)), .inr (4, [.int 100, .int 200, .int 0, .int 0, .int 0, .int 0, .ref (ga g (k + 23)), .ref (ga g (k + 24)), .ref (ga g (k + 25)), .int 0, .int 0, .int 0]), .inl (g.2.2.2.1, 8, .inl (fun _ => 0)), .inl (g.2.2.2.1, 8, .inl (fun _ => 0)), .inl (g.2.2.2.1, 8, .inl (fun _ => 0)), .inr (4, [.int 100, .int 200, .int 0, .int 0, .int 0, .int 0, .ref (ga g (k + 27)), .ref (ga g (k + 28)), .ref (ga g (k + 29)), .int 0, .int 0, .int 0]), .inl (g.2.2.2.1, 8, .inl (fun _ => 0)), .inl (g.2.2.2.1, 8, .inl (fun _ => 0)), .inl (g.2.2.2.1, 8, .inl (fun _ => 0)), .inr (4, [.int 100, .int 200, .int 0, .int 0, .int 0, .int 0, .ref (ga g (k + 31)), .ref (ga g (k + 32)), .ref (ga g (k + 33)), .int 0, .int 0, .int 0]), .inl (g.2.2.2.1, 8, .inl (fun _ => 0)), .inl (g.2.2.2.1, 8, .inl (fun _ => 0)), .inl (g.2.2.2.1, 8, .inl (fun _ => 0)), .inr (4, [.int 100, .int 200, .int 0, .int 0, .int 0, .int 0, .ref (ga g (k + 35)), .ref (ga g (k + 36)), .ref (ga g (k + 37)), .int 0, .int 0, .int 0]), .inl (g.2.2.2.1, 8, .inl (fun _ => 0)), .inl (g.2.2.2.1, 8, .inl (fun _ => 0)), .inl (g.2.2.2.1, 8, .inl (fun _ => 0)), .inr (4, [.int 100, .int 200, .int 0, .int 0, .int 0, .int 0, .ref (ga g (k + 39)), .ref (ga g (k + 40)), .ref (ga g (k + 41)), .int 0, .int 0, .int 0]), .inl (g.2.2.2.1, 8, .inl (fun _ => 0)), .inl (g.2.2.2.1, 8, .inl (fun _ => 0)), .inl (g.2.2.2.1, 8, .inl (fun _ => 0)), .inr (4, [.int 100, .int 200, .int 0, .int 0, .int 0, .int 0, .ref (ga g (k + 43)), .ref (ga g (k + 44)), .ref (ga g (k + 45)), .int 0, .int 0, .int 0]), .inl (g.2.2.2.1, 8, .inl (fun _ => 0)), .inl (g.2.2.2.1, 8, .inl (fun _ => 0)), .inl (g.2.2.2.1, 8, .inl (fun _ => 0)), .inr (4, [.int 100, .int 200, .int 0, .int 0, .int 0, .int 0, .ref (ga g (k + 47)), .ref (ga g (k + 48)), .ref (ga g (k + 49)), .int 0, .int 0, .int 0]), .inl (g.2.2.2.1, 8, .inl (fun _ => 0)), .inl (g.2.2.2.1, 8, .inl (fun _ => 0)), .inl (g.2.2.2.1, 8, .inl (fun _ => 0))] H := hP
  refine lv_iinc (v := (12 : Int32)) (lv' := [(1, .int (12 : Int32)), (0, .ref (ga g k))]) hx hb dX0_init_37 hl (k := 0) rfl (by decide +kernel) (by decide) rfl (fun ls hl => ?_)
  refine lv_goto (tgt := 15) hx hb dX0_init_40 (by decide) ?_
  refine lv_iload_n hx hb dX0_init_15 rfl (lv_at hl 0 rfl) ?_
  refine lv_aload_n hx hb dX0_init_16 rfl (lv_at hl 1 rfl) ?_
  refine n_get (i := 0) (j := 0) X hP rfl (Nat.le_of_ble_eq_true rfl) rfl inX0 (by decide) k_100 rfl dX0_init_17 ?_
  refine n_alenq (i := 1) (v := (14 : Int32)) X hP rfl (Nat.le_of_ble_eq_true rfl) (by decide +kernel) dX0_init_20 ?_
  refine lv_icmp_ge (tgt := 43) hx hb dX0_init_21 (by decide) (fun cc_ => ?_) (fun cc_ => ?_)
  · exact absurd cc_ (by decide)
  refine lv_aload_n hx hb dX0_init_24 rfl (lv_at hl 1 rfl) ?_
  refine n_get (i := 0) (j := 0) X hP rfl (Nat.le_of_ble_eq_true rfl) rfl inX0 (by decide) k_100 rfl dX0_init_25 ?_
  refine lv_iload_n hx hb dX0_init_28 rfl (lv_at hl 0 rfl) ?_
  refine n_new (ci := 4) (fs := [.int 0, .int 0, .int 0, .int 0, .int 0, .int 0, .null, .null, .null, .int 0, .int 0, .int 0]) X hP hS (by show k + 1 + 49 = k + 50; omega) rfl inX5 tyX5 tyX5_ok kx_97 kx_40 kx_3 (fun j hj => by rcases (show j = 0 ∨ j = 1 ∨ j = 2 ∨ j = 3 ∨ j = 4 ∨ j = 5 ∨ j = 6 ∨ j = 7 ∨ j = 8 ∨ j = 9 ∨ j = 10 ∨ j = 11 by omega) with rfl | rfl | rfl | rfl | rfl | rfl | rfl | rfl | rfl | rfl | rfl | rfl <;> rfl) (Nat.le_of_ble_eq_true rfl) (Nat.le_of_ble_eq_true rfl) dX0_init_29 (fun H hP hS => ?_)
  replace hP : Wz g c0 k [.inr (0, [.ref (ga g (k + 1)), .int 0, .int 0]), .inl (g.2.2.2.2.2, 14, .inr (.inr (.inr (.inr (va_up (va_up (va_up (va_up (va_up (va_up (va_up (va_up (va_up (va_up (va_up (va_up (fun _ => none) 0 (some (ga g (k + 2)))) 1 (some (ga g (k + 6)))) 2 (some (ga g (k + 10)))) 3 (some (ga g (k + 14)))) 4 (some (ga g (k + 18)))) 5 (some (ga g (k + 22)))) 6 (some (ga g (k + 26)))) 7 (some (ga g (k + 30)))) 8 (some (ga g (k + 34)))) 9 (some (ga g (k + 38)))) 10 (some (ga g (k + 42)))) 11 (some (ga g (k + 46)))))))), .inr (4, [.int 100, .int 200, .int 0, .int 0, .int 0, .int 0, .ref (ga g (k + 3)), .ref (ga g (k + 4)), .ref (ga g (k + 5)), .int 0, .int 0, .int 0]), .inl (g.2.2.2.1, 8, .inl (fun _ => 0)), .inl (g.2.2.2.1, 8, .inl (fun _ => 0)), .inl (g.2.2.2.1, 8, .inl (fun _ => 0)), .inr (4, [.int 100, .int 200, .int 0, .int 0, .int 0, .int 0, .ref (ga g (k + 7)), .ref (ga g (k + 8)), .ref (ga g (k + 9)), .int 0, .int 0, .int 0]), .inl (g.2.2.2.1, 8, .inl (fun _ => 0)), .inl (g.2.2.2.1, 8, .inl (fun _ => 0)), .inl (g.2.2.2.1, 8, .inl (fun _ => 0)), .inr (4, [.int 100, .int 200, .int 0, .int 0, .int 0, .int 0, .ref (ga g (k + 11)), .ref (ga g (k + 12)), .ref (ga g (k + 13)), .int 0, .int 0, .int 0]), .inl (g.2.2.2.1, 8, .inl (fun _ => 0)), .inl (g.2.2.2.1, 8, .inl (fun _ => 0)), .inl (g.2.2.2.1, 8, .inl (fun _ => 0)), .inr (4, [.int 100, .int 200, .int 0, .int 0, .int 0, .int 0, .ref (ga g (k + 15)), .ref (ga g (k + 16)), .ref (ga g (k + 17)), .int 0, .int 0, .int 0]), .inl (g.2.2.2.1, 8, .inl (fun _ => 0)), .inl (g.2.2.2.1, 8, .inl (fun _ => 0)), .inl (g.2.2.2.1, 8, .inl (fun _ => 0)), .inr (4, [.int 100, .int 200, .int 0, .int 0, .int 0, .int 0, .ref (ga g (k + 19)), .ref (ga g (k + 20)), .ref (ga g (k + 21)), .int 0, .int 0, .int 0]), .inl (g.2.2.2.1, 8, .inl (fun _ => 0)), .inl (g.2.2.2.1, 8, .inl (fun _ => 0)), .inl (g.2.2.2.1, 8, .inl (fun _ => 0)), .inr (4, [.int 100, .int 200, .int 0, .int 0, .int 0, .int 0, .ref (ga g (k + 23)), .ref (ga g (k + 24)), .ref (ga g (k + 25)), .int 0, .int 0, .int 0]), .inl (g.2.2.2.1, 8, .inl (fun _ => 0)), .inl (g.2.2.2.1, 8, .inl (fun _ => 0)), .inl (g.2.2.2.1, 8, .inl (fun _ => 0)), .inr (4, [.int 100, .int 200, .int 0, .int 0, .int 0, .int 0, .ref (ga g (k + 27)), .ref (ga g (k + 28)), .ref (ga g (k + 29)), .int 0, .int 0, .int 0]), .inl (g.2.2.2.1, 8, .inl (fun _ => 0)), .inl (g.2.2.2.1, 8, .inl (fun _ => 0)), .inl (g.2.2.2.1, 8, .inl (fun _ => 0)), .inr (4, [.int 100, .int 200, .int 0, .int 0, .int 0, .int 0, .ref (ga g (k + 31)), .ref (ga g (k + 32)), .ref (ga g (k + 33)), .int 0, .int 0, .int 0]), .inl (g.2.2.2.1, 8, .inl (fun _ => 0)), .inl (g.2.2.2.1, 8, .inl (fun _ => 0)), .inl (g.2.2.2.1, 8, .inl (fun _ => 0)), .inr (4, [.int 100, .int 200, .int 0, .int 0, .int 0, .int 0, .ref (ga g (k + 35)), .ref (ga g (k + 36)), .ref (ga g (k + 37)), .int 0, .int 0, .int 0]), .inl (g.2.2.2.1, 8, .inl (fun _ => 0)), .inl (g.2.2.2.1, 8, .inl (fun _ => 0)), .inl (g.2.2.2.1, 8, .inl (fun _ => 0)), .inr (4, [.int 100, .int 200, .int 0, .int 0, .int 0, .int 0, .ref (ga g (k + 39)), .ref (ga g (k + 40)), .ref (ga g (k + 41)), .int 0, .int 0, .int 0]), .inl (g.2.2.2.1, 8, .inl (fun _ => 0)), .inl (g.2.2.2.1, 8, .inl (fun _ => 0)), .inl (g.2.2.2.1, 8, .inl (fun _ => 0)), .inr (4, [.int 100, .int 200, .int 0, .int 0, .int 0, .int 0, .ref (ga g (k + 43)), .ref (ga g (k + 44)), .ref (ga g (k + 45)), .int 0, .int 0, .int 0]), .inl (g.2.2.2.1, 8, .inl (fun _ => 0)), .inl (g.2.2.2.1, 8, .inl (fun _ => 0)), .inl (g.2.2.2.1, 8, .inl (fun _ => 0)), .inr (4, [.int 100, .int 200, .int 0, .int 0, .int 0, .int 0, .ref (ga g (k + 47)), .ref (ga g (k + 48)), .ref (ga g (k + 49)), .int 0, .int 0, .int 0]), .inl (g.2.2.2.1, 8, .inl (fun _ => 0)), .inl (g.2.2.2.1, 8, .inl (fun _ => 0)), .inl (g.2.2.2.1, 8, .inl (fun _ => 0)), .inr (4, [.int 0, .int 0, .int 0, .int 0, .int 0, .int 0, .null, .null, .null, .int 0, .int 0, .int 0])] H := hP
  show W p l e rm0_init s m args below meth c H _ 50 458 _ (F0 m 32 ls [.ref (ga g (k + 50)), .int (12 : Int32), .ref (ga g (k + 1))])
  refine lv_dup hx hb dX0_init_32 rfl ?_
  refine n_callN (mc := 3) (ms := 24) (rest := [.ref (ga g (k + 50)), .int (12 : Int32), .ref (ga g (k + 1))]) [.inr (0, [.ref (ga g (k + 1)), .int 0, .int 0]), .inl (g.2.2.2.2.2, 14, .inr (.inr (.inr (.inr (va_up (va_up (va_up (va_up (va_up (va_up (va_up (va_up (va_up (va_up (va_up (va_up (fun _ => none) 0 (some (ga g (k + 2)))) 1 (some (ga g (k + 6)))) 2 (some (ga g (k + 10)))) 3 (some (ga g (k + 14)))) 4 (some (ga g (k + 18)))) 5 (some (ga g (k + 22)))) 6 (some (ga g (k + 26)))) 7 (some (ga g (k + 30)))) 8 (some (ga g (k + 34)))) 9 (some (ga g (k + 38)))) 10 (some (ga g (k + 42)))) 11 (some (ga g (k + 46)))))))), .inr (4, [.int 100, .int 200, .int 0, .int 0, .int 0, .int 0, .ref (ga g (k + 3)), .ref (ga g (k + 4)), .ref (ga g (k + 5)), .int 0, .int 0, .int 0]), .inl (g.2.2.2.1, 8, .inl (fun _ => 0)), .inl (g.2.2.2.1, 8, .inl (fun _ => 0)), .inl (g.2.2.2.1, 8, .inl (fun _ => 0)), .inr (4, [.int 100, .int 200, .int 0, .int 0, .int 0, .int 0, .ref (ga g (k + 7)), .ref (ga g (k + 8)), .ref (ga g (k + 9)), .int 0, .int 0, .int 0]), .inl (g.2.2.2.1, 8, .inl (fun _ => 0)), .inl (g.2.2.2.1, 8, .inl (fun _ => 0)), .inl (g.2.2.2.1, 8, .inl (fun _ => 0)), .inr (4, [.int 100, .int 200, .int 0, .int 0, .int 0, .int 0, .ref (ga g (k + 11)), .ref (ga g (k + 12)), .ref (ga g (k + 13)), .int 0, .int 0, .int 0]), .inl (g.2.2.2.1, 8, .inl (fun _ => 0)), .inl (g.2.2.2.1, 8, .inl (fun _ => 0)), .inl (g.2.2.2.1, 8, .inl (fun _ => 0)), .inr (4, [.int 100, .int 200, .int 0, .int 0, .int 0, .int 0, .ref (ga g (k + 15)), .ref (ga g (k + 16)), .ref (ga g (k + 17)), .int 0, .int 0, .int 0]), .inl (g.2.2.2.1, 8, .inl (fun _ => 0)), .inl (g.2.2.2.1, 8, .inl (fun _ => 0)), .inl (g.2.2.2.1, 8, .inl (fun _ => 0)), .inr (4, [.int 100, .int 200, .int 0, .int 0, .int 0, .int 0, .ref (ga g (k + 19)), .ref (ga g (k + 20)), .ref (ga g (k + 21)), .int 0, .int 0, .int 0]), .inl (g.2.2.2.1, 8, .inl (fun _ => 0)), .inl (g.2.2.2.1, 8, .inl (fun _ => 0)), .inl (g.2.2.2.1, 8, .inl (fun _ => 0)), .inr (4, [.int 100, .int 200, .int 0, .int 0, .int 0, .int 0, .ref (ga g (k + 23)), .ref (ga g (k + 24)), .ref (ga g (k + 25)), .int 0, .int 0, .int 0]), .inl (g.2.2.2.1, 8, .inl (fun _ => 0)), .inl (g.2.2.2.1, 8, .inl (fun _ => 0)), .inl (g.2.2.2.1, 8, .inl (fun _ => 0)), .inr (4, [.int 100, .int 200, .int 0, .int 0, .int 0, .int 0, .ref (ga g (k + 27)), .ref (ga g (k + 28)), .ref (ga g (k + 29)), .int 0, .int 0, .int 0]), .inl (g.2.2.2.1, 8, .inl (fun _ => 0)), .inl (g.2.2.2.1, 8, .inl (fun _ => 0)), .inl (g.2.2.2.1, 8, .inl (fun _ => 0)), .inr (4, [.int 100, .int 200, .int 0, .int 0, .int 0, .int 0, .ref (ga g (k + 31)), .ref (ga g (k + 32)), .ref (ga g (k + 33)), .int 0, .int 0, .int 0]), .inl (g.2.2.2.1, 8, .inl (fun _ => 0)), .inl (g.2.2.2.1, 8, .inl (fun _ => 0)), .inl (g.2.2.2.1, 8, .inl (fun _ => 0)), .inr (4, [.int 100, .int 200, .int 0, .int 0, .int 0, .int 0, .ref (ga g (k + 35)), .ref (ga g (k + 36)), .ref (ga g (k + 37)), .int 0, .int 0, .int 0]), .inl (g.2.2.2.1, 8, .inl (fun _ => 0)), .inl (g.2.2.2.1, 8, .inl (fun _ => 0)), .inl (g.2.2.2.1, 8, .inl (fun _ => 0)), .inr (4, [.int 100, .int 200, .int 0, .int 0, .int 0, .int 0, .ref (ga g (k + 39)), .ref (ga g (k + 40)), .ref (ga g (k + 41)), .int 0, .int 0, .int 0]), .inl (g.2.2.2.1, 8, .inl (fun _ => 0)), .inl (g.2.2.2.1, 8, .inl (fun _ => 0)), .inl (g.2.2.2.1, 8, .inl (fun _ => 0)), .inr (4, [.int 100, .int 200, .int 0, .int 0, .int 0, .int 0, .ref (ga g (k + 43)), .ref (ga g (k + 44)), .ref (ga g (k + 45)), .int 0, .int 0, .int 0]), .inl (g.2.2.2.1, 8, .inl (fun _ => 0)), .inl (g.2.2.2.1, 8, .inl (fun _ => 0)), .inl (g.2.2.2.1, 8, .inl (fun _ => 0)), .inr (4, [.int 100, .int 200, .int 0, .int 0, .int 0, .int 0, .ref (ga g (k + 47)), .ref (ga g (k + 48)), .ref (ga g (k + 49)), .int 0, .int 0, .int 0]), .inl (g.2.2.2.1, 8, .inl (fun _ => 0)), .inl (g.2.2.2.1, 8, .inl (fun _ => 0)), .inl (g.2.2.2.1, 8, .inl (fun _ => 0))] [.inr (4, [.int 0, .int 0, .int 0, .int 0, .int 0, .int 0, .null, .null, .null, .int 0, .int 0, .int 0])] [.inr (4, [.int 100, .int 200, .int 0, .int 0, .int 0, .int 0, .ref (ga g (k + 51)), .ref (ga g (k + 52)), .ref (ga g (k + 53)), .int 0, .int 0, .int 0]), .inl (g.2.2.2.1, 8, .inl (fun _ => 0)), .inl (g.2.2.2.1, 8, .inl (fun _ => 0)), .inl (g.2.2.2.1, 8, .inl (fun _ => 0))] X (c5_init l g hg _ _) rfl cal_X5_init im_X5_init X.2.2.2.2.2.2.1 rfl ⟨rfl, rfl⟩ ⟨Nat.le_of_ble_eq_true rfl, Nat.le_of_ble_eq_true rfl⟩ hP hS (by show k + 1 + 50 = k + 51; omega) (Nat.succ_pos _) hl.1 (Nat.le_of_ble_eq_true rfl) dX0_init_33 ⟨Nat.le_of_ble_eq_true rfl, Nat.le_of_ble_eq_true rfl⟩ (fun H locs hP hS => ?_)
  replace hP : Wz g c0 k [.inr (0, [.ref (ga g (k + 1)), .int 0, .int 0]), .inl (g.2.2.2.2.2, 14, .inr (.inr (.inr (.inr (va_up (va_up (va_up (va_up (va_up (va_up (va_up (va_up (va_up (va_up (va_up (va_up (fun _ => none) 0 (some (ga g (k + 2)))) 1 (some (ga g (k + 6)))) 2 (some (ga g (k + 10)))) 3 (some (ga g (k + 14)))) 4 (some (ga g (k + 18)))) 5 (some (ga g (k + 22)))) 6 (some (ga g (k + 26)))) 7 (some (ga g (k + 30)))) 8 (some (ga g (k + 34)))) 9 (some (ga g (k + 38)))) 10 (some (ga g (k + 42)))) 11 (some (ga g (k + 46)))))))), .inr (4, [.int 100, .int 200, .int 0, .int 0, .int 0, .int 0, .ref (ga g (k + 3)), .ref (ga g (k + 4)), .ref (ga g (k + 5)), .int 0, .int 0, .int 0]), .inl (g.2.2.2.1, 8, .inl (fun _ => 0)), .inl (g.2.2.2.1, 8, .inl (fun _ => 0)), .inl (g.2.2.2.1, 8, .inl (fun _ => 0)), .inr (4, [.int 100, .int 200, .int 0, .int 0, .int 0, .int 0, .ref (ga g (k + 7)), .ref (ga g (k + 8)), .ref (ga g (k + 9)), .int 0, .int 0, .int 0]), .inl (g.2.2.2.1, 8, .inl (fun _ => 0)), .inl (g.2.2.2.1, 8, .inl (fun _ => 0)), .inl (g.2.2.2.1, 8, .inl (fun _ => 0)), .inr (4, [.int 100, .int 200, .int 0, .int 0, .int 0, .int 0, .ref (ga g (k + 11)), .ref (ga g (k + 12)), .ref (ga g (k + 13)), .int 0, .int 0, .int 0]), .inl (g.2.2.2.1, 8, .inl (fun _ => 0)), .inl (g.2.2.2.1, 8, .inl (fun _ => 0)), .inl (g.2.2.2.1, 8, .inl (fun _ => 0)), .inr (4, [.int 100, .int 200, .int 0, .int 0, .int 0, .int 0, .ref (ga g (k + 15)), .ref (ga g (k + 16)), .ref (ga g (k + 17)), .int 0, .int 0, .int 0]), .inl (g.2.2.2.1, 8, .inl (fun _ => 0)), .inl (g.2.2.2.1, 8, .inl (fun _ => 0)), .inl (g.2.2.2.1, 8, .inl (fun _ => 0)), .inr (4, [.int 100, .int 200, .int 0, .int 0, .int 0, .int 0, .ref (ga g (k + 19)), .ref (ga g (k + 20)), .ref (ga g (k + 21)), .int 0, .int 0, .int 0]), .inl (g.2.2.2.1, 8, .inl (fun _ => 0)), .inl (g.2.2.2.1, 8, .inl (fun _ => 0)), .inl (g.2.2.2.1, 8, .inl (fun _ => 0)), .inr (4, [.int 100, .int 200, .int 0, .int 0, .int 0, .int 0, .ref (ga g (k + 23)), .ref (ga g (k + 24)), .ref (ga g (k + 25)), .int 0, .int 0, .int 0]), .inl (g.2.2.2.1, 8, .inl (fun _ => 0)), .inl (g.2.2.2.1, 8, .inl (fun _ => 0)), .inl (g.2.2.2.1, 8, .inl (fun _ => 0)), .inr (4, [.int 100, .int 200, .int 0, .int 0, .int 0, .int 0, .ref (ga g (k + 27)), .ref (ga g (k + 28)), .ref (ga g (k + 29)), .int 0, .int 0, .int 0]), .inl (g.2.2.2.1, 8, .inl (fun _ => 0)), .inl (g.2.2.2.1, 8, .inl (fun _ => 0)), .inl (g.2.2.2.1, 8, .inl (fun _ => 0)), .inr (4, [.int 100, .int 200, .int 0, .int 0, .int 0, .int 0, .ref (ga g (k + 31)), .ref (ga g (k + 32)), .ref (ga g (k + 33)), .int 0, .int 0, .int 0]), .inl (g.2.2.2.1, 8, .inl (fun _ => 0)), .inl (g.2.2.2.1, 8, .inl (fun _ => 0)), .inl (g.2.2.2.1, 8, .inl (fun _ => 0)), .inr (4, [.int 100, .int 200, .int 0, .int 0, .int 0, .int 0, .ref (ga g (k + 35)), .ref (ga g (k + 36)), .ref (ga g (k + 37)), .int 0, .int 0, .int 0]), .inl (g.2.2.2.1, 8, .inl (fun _ => 0)), .inl (g.2.2.2.1, 8, .inl (fun _ => 0)), .inl (g.2.2.2.1, 8, .inl (fun _ => 0)), .inr (4, [.int 100, .int 200, .int 0, .int 0, .int 0, .int 0, .ref (ga g (k + 39)), .ref (ga g (k + 40)), .ref (ga g (k + 41)), .int 0, .int 0, .int 0]), .inl (g.2.2.2.1, 8, .inl (fun _ => 0)), .inl (g.2.2.2.1, 8, .inl (fun _ => 0)), .inl (g.2.2.2.1, 8, .inl (fun _ => 0)), .inr (4, [.int 100, .int 200, .int 0, .int 0, .int 0, .int 0, .ref (ga g (k + 43)), .ref (ga g (k + 44)), .ref (ga g (k + 45)), .int 0, .int 0, .int 0]), .inl (g.2.2.2.1, 8, .inl (fun _ => 0)), .inl (g.2.2.2.1, 8, .inl (fun _ => 0)), .inl (g.2.2.2.1, 8, .inl (fun _ => 0)), .inr (4, [.int 100, .int 200, .int 0, .int 0, .int 0, .int 0, .ref (ga g (k + 47)), .ref (ga g (k + 48)), .ref (ga g (k + 49)), .int 0, .int 0, .int 0]), .inl (g.2.2.2.1, 8, .inl (fun _ => 0)), .inl (g.2.2.2.1, 8, .inl (fun _ => 0)), .inl (g.2.2.2.1, 8, .inl (fun _ => 0)), .inr (4, [.int 100, .int 200, .int 0, .int 0, .int 0, .int 0, .ref (ga g (k + 51)), .ref (ga g (k + 52)), .ref (ga g (k + 53)), .int 0, .int 0, .int 0]), .inl (g.2.2.2.1, 8, .inl (fun _ => 0)), .inl (g.2.2.2.1, 8, .inl (fun _ => 0)), .inl (g.2.2.2.1, 8, .inl (fun _ => 0))] H := hP
  show W p l e rm0_init s m args below meth c H _ 53 482 _ (F0 m 36 ls [.ref (ga g (k + 50)), .int (12 : Int32), .ref (ga g (k + 1))])
  refine n_aast (i := 1) (j := 12) (jo := 50) X hP hS rfl (Nat.le_of_ble_eq_true rfl) rfl (Nat.le_of_ble_eq_true rfl) (by decide +kernel) (by decide +kernel) dX0_init_36 (fun H locs hP hS => ?_)
  replace hP : Wz g c0 k [.inr (0, [.ref (ga g (k + 1)), .int 0, .int 0]), .inl (g.2.2.2.2.2, 14, .inr (.inr (.inr (.inr (va_up (va_up (va_up (va_up (va_up (va_up (va_up (va_up (va_up (va_up (va_up (va_up (va_up (fun _ => none) 0 (some (ga g (k + 2)))) 1 (some (ga g (k + 6)))) 2 (some (ga g (k + 10)))) 3 (some (ga g (k + 14)))) 4 (some (ga g (k + 18)))) 5 (some (ga g (k + 22)))) 6 (some (ga g (k + 26)))) 7 (some (ga g (k + 30)))) 8 (some (ga g (k + 34)))) 9 (some (ga g (k + 38)))) 10 (some (ga g (k + 42)))) 11 (some (ga g (k + 46)))) 12 (some (ga g (k + 50)))))))), .inr (4, [.int 100, .int 200, .int 0, .int 0, .int 0, .int 0, .ref (ga g (k + 3)), .ref (ga g (k + 4)), .ref (ga g (k + 5)), .int 0, .int 0, .int 0]), .inl (g.2.2.2.1, 8, .inl (fun _ => 0)), .inl (g.2.2.2.1, 8, .inl (fun _ => 0)), .inl (g.2.2.2.1, 8, .inl (fun _ => 0)), .inr (4, [.int 100, .int 200, .int 0, .int 0, .int 0, .int 0, .ref (ga g (k + 7)), .ref (ga g (k + 8)), .ref (ga g (k + 9)), .int 0, .int 0, .int 0]), .inl (g.2.2.2.1, 8, .inl (fun _ => 0)), .inl (g.2.2.2.1, 8, .inl (fun _ => 0)), .inl (g.2.2.2.1, 8, .inl (fun _ => 0)), .inr (4, [.int 100, .int 200, .int 0, .int 0, .int 0, .int 0, .ref (ga g (k + 11)), .ref (ga g (k + 12)), .ref (ga g (k + 13)), .int 0, .int 0, .int 0]), .inl (g.2.2.2.1, 8, .inl (fun _ => 0)), .inl (g.2.2.2.1, 8, .inl (fun _ => 0)), .inl (g.2.2.2.1, 8, .inl (fun _ => 0)), .inr (4, [.int 100, .int 200, .int 0, .int 0, .int 0, .int 0, .ref (ga g (k + 15)), .ref (ga g (k + 16)), .ref (ga g (k + 17)), .int 0, .int 0, .int 0]), .inl (g.2.2.2.1, 8, .inl (fun _ => 0)), .inl (g.2.2.2.1, 8, .inl (fun _ => 0)), .inl (g.2.2.2.1, 8, .inl (fun _ => 0)), .inr (4, [.int 100, .int 200, .int 0, .int 0, .int 0, .int 0, .ref (ga g (k + 19)), .ref (ga g (k + 20)), .ref (ga g (k + 21)), .int 0, .int 0, .int 0]), .inl (g.2.2.2.1, 8, .inl (fun _ => 0)), .inl (g.2.2.2.1, 8, .inl (fun _ => 0)), .inl (g.2.2.2.1, 8, .inl (fun _ => 0)), .inr (4, [.int 100, .int 200, .int 0, .int 0, .int 0, .int 0, .ref (ga g (k + 23)), .ref (ga g (k + 24)), .ref (ga g (k + 25)), .int 0, .int 0, .int 0]), .inl (g.2.2.2.1, 8, .inl (fun _ => 0)), .inl (g.2.2.2.1, 8, .inl (fun _ => 0)), .inl (g.2.2.2.1, 8, .inl (fun _ => 0)), .inr (4, [.int 100, .int 200, .int 0, .int 0, .int 0, .int 0, .ref (ga g (k + 27)), .ref (ga g (k + 28)), .ref (ga g (k + 29)), .int 0, .int 0, .int 0]), .inl (g.2.2.2.1, 8, .inl (fun _ => 0)), .inl (g.2.2.2.1, 8, .inl (fun _ => 0)), .inl (g.2.2.2.1, 8, .inl (fun _ => 0)), .inr (4, [.int 100, .int 200, .int 0, .int 0, .int 0, .int 0, .ref (ga g (k + 31)), .ref (ga g (k + 32)), .ref (ga g (k + 33)), .int 0, .int 0, .int 0]), .inl (g.2.2.2.1, 8, .inl (fun _ => 0)), .inl (g.2.2.2.1, 8, .inl (fun _ => 0)), .inl (g.2.2.2.1, 8, .inl (fun _ => 0)), .inr (4, [.int 100, .int 200, .int 0, .int 0, .int 0, .int 0, .ref (ga g (k + 35)), .ref (ga g (k + 36)), .ref (ga g (k + 37)), .int 0, .int 0, .int 0]), .inl (g.2.2.2.1, 8, .inl (fun _ => 0)), .inl (g.2.2.2.1, 8, .inl (fun _ => 0)), .inl (g.2.2.2.1, 8, .inl (fun _ => 0)), .inr (4, [.int 100, .int 200, .int 0, .int 0, .int 0, .int 0, .ref (ga g (k + 39)), .ref (ga g (k + 40)), .ref (ga g (k + 41)), .int 0, .int 0, .int 0]), .inl (g.2.2.2.1, 8, .inl (fun _ => 0)), .inl (g.2.2.2.1, 8, .inl (fun _ => 0)), .inl (g.2.2.2.1, 8, .inl (fun _ => 0)), .inr (4, [.int 100, .int 200, .int 0, .int 0, .int 0, .int 0, .ref (ga g (k + 43)), .ref (ga g (k + 44)), .ref (ga g (k + 45)), .int 0, .int 0, .int 0]), .inl (g.2.2.2.1, 8, .inl (fun _ => 0)), .inl (g.2.2.2.1, 8, .inl (fun _ => 0)), .inl (g.2.2.2.1, 8, .inl (fun _ => 0)), .inr (4, [.int 100, .int 200, .int 0, .int 0, .int 0, .int 0, .ref (ga g (k + 47)), .ref (ga g (k + 48)), .ref (ga g (k + 49)), .int 0, .int 0, .int 0]), .inl (g.2.2.2.1, 8, .inl (fun _ => 0)), .inl (g.2.2.2.1, 8, .inl (fun _ => 0)), .inl (g.2.2.2.1, 8, .inl (fun _ => 0)), .inr (4, [.int 100, .int 200, .int 0, .int 0, .int 0, .int 0, .ref (ga g (k + 51)), .ref (ga g (k + 52)), .ref (ga g (k + 53)), .int 0, .int 0, .int 0]), .inl (g.2.2.2.1, 8, .inl (fun _ => 0)), .inl (g.2.2.2.1, 8, .inl (fun _ => 0)), .inl (g.2.2.2.1, 8, .inl (fun _ => 0))] H := hP
  refine lv_iinc (v := (13 : Int32)) (lv' := [(1, .int (13 : Int32)), (0, .ref (ga g k))]) hx hb dX0_init_37 hl (k := 0) rfl (by decide +kernel) (by decide) rfl (fun ls hl => ?_)
  refine lv_goto (tgt := 15) hx hb dX0_init_40 (by decide) ?_
  refine lv_iload_n hx hb dX0_init_15 rfl (lv_at hl 0 rfl) ?_
  refine lv_aload_n hx hb dX0_init_16 rfl (lv_at hl 1 rfl) ?_
  refine n_get (i := 0) (j := 0) X hP rfl (Nat.le_of_ble_eq_true rfl) rfl inX0 (by decide) k_100 rfl dX0_init_17 ?_
  refine n_alenq (i := 1) (v := (14 : Int32)) X hP rfl (Nat.le_of_ble_eq_true rfl) (by decide +kernel) dX0_init_20 ?_
  refine lv_icmp_ge (tgt := 43) hx hb dX0_init_21 (by decide) (fun cc_ => ?_) (fun cc_ => ?_)
  · exact absurd cc_ (by decide)
  refine lv_aload_n hx hb dX0_init_24 rfl (lv_at hl 1 rfl) ?_
  refine n_get (i := 0) (j := 0) X hP rfl (Nat.le_of_ble_eq_true rfl) rfl inX0 (by decide) k_100 rfl dX0_init_25 ?_
  refine lv_iload_n hx hb dX0_init_28 rfl (lv_at hl 0 rfl) ?_
  refine n_new (ci := 4) (fs := [.int 0, .int 0, .int 0, .int 0, .int 0, .int 0, .null, .null, .null, .int 0, .int 0, .int 0]) X hP hS (by show k + 1 + 53 = k + 54; omega) rfl inX5 tyX5 tyX5_ok kx_97 kx_40 kx_3 (fun j hj => by rcases (show j = 0 ∨ j = 1 ∨ j = 2 ∨ j = 3 ∨ j = 4 ∨ j = 5 ∨ j = 6 ∨ j = 7 ∨ j = 8 ∨ j = 9 ∨ j = 10 ∨ j = 11 by omega) with rfl | rfl | rfl | rfl | rfl | rfl | rfl | rfl | rfl | rfl | rfl | rfl <;> rfl) (Nat.le_of_ble_eq_true rfl) (Nat.le_of_ble_eq_true rfl) dX0_init_29 (fun H hP hS => ?_)
  replace hP : Wz g c0 k [.inr (0, [.ref (ga g (k + 1)), .int 0, .int 0]), .inl (g.2.2.2.2.2, 14, .inr (.inr (.inr (.inr (va_up (va_up (va_up (va_up (va_up (va_up (va_up (va_up (va_up (va_up (va_up (va_up (va_up (fun _ => none) 0 (some (ga g (k + 2)))) 1 (some (ga g (k + 6)))) 2 (some (ga g (k + 10)))) 3 (some (ga g (k + 14)))) 4 (some (ga g (k + 18)))) 5 (some (ga g (k + 22)))) 6 (some (ga g (k + 26)))) 7 (some (ga g (k + 30)))) 8 (some (ga g (k + 34)))) 9 (some (ga g (k + 38)))) 10 (some (ga g (k + 42)))) 11 (some (ga g (k + 46)))) 12 (some (ga g (k + 50)))))))), .inr (4, [.int 100, .int 200, .int 0, .int 0, .int 0, .int 0, .ref (ga g (k + 3)), .ref (ga g (k + 4)), .ref (ga g (k + 5)), .int 0, .int 0, .int 0]), .inl (g.2.2.2.1, 8, .inl (fun _ => 0)), .inl (g.2.2.2.1, 8, .inl (fun _ => 0)), .inl (g.2.2.2.1, 8, .inl (fun _ => 0)), .inr (4, [.int 100, .int 200, .int 0, .int 0, .int 0, .int 0, .ref (ga g (k + 7)), .ref (ga g (k + 8)), .ref (ga g (k + 9)), .int 0, .int 0, .int 0]), .inl (g.2.2.2.1, 8, .inl (fun _ => 0)), .inl (g.2.2.2.1, 8, .inl (fun _ => 0)), .inl (g.2.2.2.1, 8, .inl (fun _ => 0)), .inr (4, [.int 100, .int 200, .int 0, .int 0, .int 0, .int 0, .ref (ga g (k + 11)), .ref (ga g (k + 12)), .ref (ga g (k + 13)), .int 0, .int 0, .int 0]), .inl (g.2.2.2.1, 8, .inl (fun _ => 0)), .inl (g.2.2.2.1, 8, .inl (fun _ => 0)), .inl (g.2.2.2.1, 8, .inl (fun _ => 0)), .inr (4, [.int 100, .int 200, .int 0, .int 0, .int 0, .int 0, .ref (ga g (k + 15)), .ref (ga g (k + 16)), .ref (ga g (k + 17)), .int 0, .int 0, .int 0]), .inl (g.2.2.2.1, 8, .inl (fun _ => 0)), .inl (g.2.2.2.1, 8, .inl (fun _ => 0)), .inl (g.2.2.2.1, 8, .inl (fun _ => 0)), .inr (4, [.int 100, .int 200, .int 0, .int 0, .int 0, .int 0, .ref (ga g (k + 19)), .ref (ga g (k + 20)), .ref (ga g (k + 21)), .int 0, .int 0, .int 0]), .inl (g.2.2.2.1, 8, .inl (fun _ => 0)), .inl (g.2.2.2.1, 8, .inl (fun _ => 0)), .inl (g.2.2.2.1, 8, .inl (fun _ => 0)), .inr (4, [.int 100, .int 200, .int 0, .int 0, .int 0, .int 0, .ref (ga g (k + 23)), .ref (ga g (k + 24)), .ref (ga g (k + 25)), .int 0, .int 0, .int 0]), .inl (g.2.2.2.1, 8, .inl (fun _ => 0)), .inl (g.2.2.2.1, 8, .inl (fun _ => 0)), .inl (g.2.2.2.1, 8, .inl (fun _ => 0)), .inr (4, [.int 100, .int 200, .int 0, .int 0, .int 0, .int 0, .ref (ga g (k + 27)), .ref (ga g (k + 28)), .ref (ga g (k + 29)), .int 0, .int 0, .int 0]), .inl (g.2.2.2.1, 8, .inl (fun _ => 0)), .inl (g.2.2.2.1, 8, .inl (fun _ => 0)), .inl (g.2.2.2.1, 8, .inl (fun _ => 0)), .inr (4, [.int 100, .int 200, .int 0, .int 0, .int 0, .int 0, .ref (ga g (k + 31)), .ref (ga g (k + 32)), .ref (ga g (k + 33)), .int 0, .int 0, .int 0]), .inl (g.2.2.2.1, 8, .inl (fun _ => 0)), .inl (g.2.2.2.1, 8, .inl (fun _ => 0)), .inl (g.2.2.2.1, 8, .inl (fun _ => 0)), .inr (4, [.int 100, .int 200, .int 0, .int 0, .int 0, .int 0, .ref (ga g (k + 35)), .ref (ga g (k + 36)), .ref (ga g (k + 37)), .int 0, .int 0, .int 0]), .inl (g.2.2.2.1, 8, .inl (fun _ => 0)), .inl (g.2.2.2.1, 8, .inl (fun _ => 0)), .inl (g.2.2.2.1, 8, .inl (fun _ => 0)), .inr (4, [.int 100, .int 200, .int 0, .int 0, .int 0, .int 0, .ref (ga g (k + 39)), .ref (ga g (k + 40)), .ref (ga g (k + 41)), .int 0, .int 0, .int 0]), .inl (g.2.2.2.1, 8, .inl (fun _ => 0)), .inl (g.2.2.2.1, 8, .inl (fun _ => 0)), .inl (g.2.2.2.1, 8, .inl (fun _ => 0)), .inr (4, [.int 100, .int 200, .int 0, .int 0, .int 0, .int 0, .ref (ga g (k + 43)), .ref (ga g (k + 44)), .ref (ga g (k + 45)), .int 0, .int 0, .int 0]), .inl (g.2.2.2.1, 8, .inl (fun _ => 0)), .inl (g.2.2.2.1, 8, .inl (fun _ => 0)), .inl (g.2.2.2.1, 8, .inl (fun _ => 0)), .inr (4, [.int 100, .int 200, .int 0, .int 0, .int 0, .int 0, .ref (ga g (k + 47)), .ref (ga g (k + 48)), .ref (ga g (k + 49)), .int 0, .int 0, .int 0]), .inl (g.2.2.2.1, 8, .inl (fun _ => 0)), .inl (g.2.2.2.1, 8, .inl (fun _ => 0)), .inl (g.2.2.2.1, 8, .inl (fun _ => 0)), .inr (4, [.int 100, .int 200, .int 0, .int 0, .int 0, .int 0, .ref (ga g (k + 51)), .ref (ga g (k + 52)), .ref (ga g (k + 53)), .int 0, .int 0, .int 0]), .inl (g.2.2.2.1, 8, .inl (fun _ => 0)), .inl (g.2.2.2.1, 8, .inl (fun _ => 0)), .inl (g.2.2.2.1, 8, .inl (fun _ => 0)), .inr (4, [.int 0, .int 0, .int 0, .int 0, .int 0, .int 0, .null, .null, .null, .int 0, .int 0, .int 0])] H := hP
  show W p l e rm0_init s m args below meth c H _ 54 494 _ (F0 m 32 ls [.ref (ga g (k + 54)), .int (13 : Int32), .ref (ga g (k + 1))])
  refine lv_dup hx hb dX0_init_32 rfl ?_
  refine n_callN (mc := 3) (ms := 24) (rest := [.ref (ga g (k + 54)), .int (13 : Int32), .ref (ga g (k + 1))]) [.inr (0, [.ref (ga g (k + 1)), .int 0, .int 0]), .inl (g.2.2.2.2.2, 14, .inr (.inr (.inr (.inr (va_up (va_up (va_up (va_up (va_up (va_up (va_up (va_up (va_up (va_up (va_up (va_up (va_up (fun _ => none) 0 (some (ga g (k + 2)))) 1 (some (ga g (k + 6)))) 2 (some (ga g (k + 10)))) 3 (some (ga g (k + 14)))) 4 (some (ga g (k + 18)))) 5 (some (ga g (k + 22)))) 6 (some (ga g (k + 26)))) 7 (some (ga g (k + 30)))) 8 (some (ga g (k + 34)))) 9 (some (ga g (k + 38)))) 10 (some (ga g (k + 42)))) 11 (some (ga g (k + 46)))) 12 (some (ga g (k + 50)))))))), .inr (4, [.int 100, .int 200, .int 0, .int 0, .int 0, .int 0, .ref (ga g (k + 3)), .ref (ga g (k + 4)), .ref (ga g (k + 5)), .int 0, .int 0, .int 0]), .inl (g.2.2.2.1, 8, .inl (fun _ => 0)), .inl (g.2.2.2.1, 8, .inl (fun _ => 0)), .inl (g.2.2.2.1, 8, .inl (fun _ => 0)), .inr (4, [.int 100, .int 200, .int 0, .int 0, .int 0, .int 0, .ref (ga g (k + 7)), .ref (ga g (k + 8)), .ref (ga g (k + 9)), .int 0, .int 0, .int 0]), .inl (g.2.2.2.1, 8, .inl (fun _ => 0)), .inl (g.2.2.2.1, 8, .inl (fun _ => 0)), .inl (g.2.2.2.1, 8, .inl (fun _ => 0)), .inr (4, [.int 100, .int 200, .int 0, .int 0, .int 0, .int 0, .ref (ga g (k + 11)), .ref (ga g (k + 12)), .ref (ga g (k + 13)), .int 0, .int 0, .int 0]), .inl (g.2.2.2.1, 8, .inl (fun _ => 0)), .inl (g.2.2.2.1, 8, .inl (fun _ => 0)), .inl (g.2.2.2.1, 8, .inl (fun _ => 0)), .inr (4, [.int 100, .int 200, .int 0, .int 0, .int 0, .int 0, .ref (ga g (k + 15)), .ref (ga g (k + 16)), .ref (ga g (k + 17)), .int 0, .int 0, .int 0]), .inl (g.2.2.2.1, 8, .inl (fun _ => 0)), .inl (g.2.2.2.1, 8, .inl (fun _ => 0)), .inl (g.2.2.2.1, 8, .inl (fun _ => 0)), .inr (4, [.int 100, .int 200, .int 0, .int 0, .int 0, .int 0, .ref (ga g (k + 19)), .ref (ga g (k + 20)), .ref (ga g (k + 21)), .int 0, .int 0, .int 0]), .inl (g.2.2.2.1, 8, .inl (fun _ => 0)), .inl (g.2.2.2.1, 8, .inl (fun _ => 0)), .inl (g.2.2.2.1, 8, .inl (fun _ => 0)), .inr (4, [.int 100, .int 200, .int 0, .int 0, .int 0, .int 0, .ref (ga g (k + 23)), .ref (ga g (k + 24)), .ref (ga g (k + 25)), .int 0, .int 0, .int 0]), .inl (g.2.2.2.1, 8, .inl (fun _ => 0)), .inl (g.2.2.2.1, 8, .inl (fun _ => 0)), .inl (g.2.2.2.1, 8, .inl (fun _ => 0)), .inr (4, [.int 100, .int 200, .int 0, .int 0, .int 0, .int 0, .ref (ga g (k + 27)), .ref (ga g (k + 28)), .ref (ga g (k + 29)), .int 0, .int 0, .int 0]), .inl (g.2.2.2.1, 8, .inl (fun _ => 0)), .inl (g.2.2.2.1, 8, .inl (fun _ => 0)), .inl (g.2.2.2.1, 8, .inl (fun _ => 0)), .inr (4, [.int 100, .int 200, .int 0, .int 0, .int 0, .int 0, .ref (ga g (k + 31)), .ref (ga g (k + 32)), .ref (ga g (k + 33)), .int 0, .int 0, .int 0]), .inl (g.2.2.2.1, 8, .inl (fun _ => 0)), .inl (g.2.2.2.1, 8, .inl (fun _ => 0)), .inl (g.2.2.2.1, 8, .inl (fun _ => 0)), .inr (4, [.int 100, .int 200, .int 0, .int 0, .int 0, .int 0, .ref (ga g (k + 35)), .ref (ga g (k + 36)), .ref (ga g (k + 37)), .int 0, .int 0, .int 0]), .inl (g.2.2.2.1, 8, .inl (fun _ => 0)), .inl (g.2.2.2.1, 8, .inl (fun _ => 0)), .inl (g.2.2.2.1, 8, .inl (fun _ => 0)), .inr (4, [.int 100, .int 200, .int 0, .int 0, .int 0, .int 0, .ref (ga g (k + 39)), .ref (ga g (k + 40)), .ref (ga g (k + 41)), .int 0, .int 0, .int 0]), .inl (g.2.2.2.1, 8, .inl (fun _ => 0)), .inl (g.2.2.2.1, 8, .inl (fun _ => 0)), .inl (g.2.2.2.1, 8, .inl (fun _ => 0)), .inr (4, [.int 100, .int 200, .int 0, .int 0, .int 0, .int 0, .ref (ga g (k + 43)), .ref (ga g (k + 44)), .ref (ga g (k + 45)), .int 0, .int 0, .int 0]), .inl (g.2.2.2.1, 8, .inl (fun _ => 0)), .inl (g.2.2.2.1, 8, .inl (fun _ => 0)), .inl (g.2.2.2.1, 8, .inl (fun _ => 0)), .inr (4, [.int 100, .int 200, .int 0, .int 0, .int 0, .int 0, .ref (ga g (k + 47)), .ref (ga g (k + 48)), .ref (ga g (k + 49)), .int 0, .int 0, .int 0]), .inl (g.2.2.2.1, 8, .inl (fun _ => 0)), .inl (g.2.2.2.1, 8, .inl (fun _ => 0)), .inl (g.2.2.2.1, 8, .inl (fun _ => 0)), .inr (4, [.int 100, .int 200, .int 0, .int 0, .int 0, .int 0, .ref (ga g (k + 51)), .ref (ga g (k + 52)), .ref (ga g (k + 53)), .int 0, .int 0, .int 0]), .inl (g.2.2.2.1, 8, .inl (fun _ => 0)), .inl (g.2.2.2.1, 8, .inl (fun _ => 0)), .inl (g.2.2.2.1, 8, .inl (fun _ => 0))] [.inr (4, [.int 0, .int 0, .int 0, .int 0, .int 0, .int 0, .null, .null, .null, .int 0, .int 0, .int 0])] [.inr (4, [.int 100, .int 200, .int 0, .int 0, .int 0, .int 0, .ref (ga g (k + 55)), .ref (ga g (k + 56)), .ref (ga g (k + 57)), .int 0, .int 0, .int 0]), .inl (g.2.2.2.1, 8, .inl (fun _ => 0)), .inl (g.2.2.2.1, 8, .inl (fun _ => 0)), .inl (g.2.2.2.1, 8, .inl (fun _ => 0))] X (c5_init l g hg _ _) rfl cal_X5_init im_X5_init X.2.2.2.2.2.2.1 rfl ⟨rfl, rfl⟩ ⟨Nat.le_of_ble_eq_true rfl, Nat.le_of_ble_eq_true rfl⟩ hP hS (by show k + 1 + 54 = k + 55; omega) (Nat.succ_pos _) hl.1 (Nat.le_of_ble_eq_true rfl) dX0_init_33 ⟨Nat.le_of_ble_eq_true rfl, Nat.le_of_ble_eq_true rfl⟩ (fun H locs hP hS => ?_)
  replace hP : Wz g c0 k [.inr (0, [.ref (ga g (k + 1)), .int 0, .int 0]), .inl (g.2.2.2.2.2, 14, .inr (.inr (.inr (.inr (va_up (va_up (va_up (va_up (va_up (va_up (va_up (va_up (va_up (va_up (va_up (va_up (va_up (fun _ => none) 0 (some (ga g (k + 2)))) 1 (some (ga g (k + 6)))) 2 (some (ga g (k + 10)))) 3 (some (ga g (k + 14)))) 4 (some (ga g (k + 18)))) 5 (some (ga g (k + 22)))) 6 (some (ga g (k + 26)))) 7 (some (ga g (k + 30)))) 8 (some (ga g (k + 34)))) 9 (some (ga g (k + 38)))) 10 (some (ga g (k + 42)))) 11 (some (ga g (k + 46)))) 12 (some (ga g (k + 50)))))))), .inr (4, [.int 100, .int 200, .int 0, .int 0, .int 0, .int 0, .ref (ga g (k + 3)), .ref (ga g (k + 4)), .ref (ga g (k + 5)), .int 0, .int 0, .int 0]), .inl (g.2.2.2.1, 8, .inl (fun _ => 0)), .inl (g.2.2.2.1, 8, .inl (fun _ => 0)), .inl (g.2.2.2.1, 8, .inl (fun _ => 0)), .inr (4, [.int 100, .int 200, .int 0, .int 0, .int 0, .int 0, .ref (ga g (k + 7)), .ref (ga g (k + 8)), .ref (ga g (k + 9)), .int 0, .int 0, .int 0]), .inl (g.2.2.2.1, 8, .inl (fun _ => 0)), .inl (g.2.2.2.1, 8, .inl (fun _ => 0)), .inl (g.2.2.2.1, 8, .inl (fun _ => 0)), .inr (4, [.int 100, .int 200, .int 0, .int 0, .int 0, .int 0, .ref (ga g (k + 11)), .ref (ga g (k + 12)), .ref (ga g (k + 13)), .int 0, .int 0, .int 0]), .inl (g.2.2.2.1, 8, .inl (fun _ => 0)), .inl (g.2.2.2.1, 8, .inl (fun _ => 0)), .inl (g.2.2.2.1, 8, .inl (fun _ => 0)), .inr (4, [.int 100, .int 200, .int 0, .int 0, .int 0, .int 0, .ref (ga g (k + 15)), .ref (ga g (k + 16)), .ref (ga g (k + 17)), .int 0, .int 0, .int 0]), .inl (g.2.2.2.1, 8, .inl (fun _ => 0)), .inl (g.2.2.2.1, 8, .inl (fun _ => 0)), .inl (g.2.2.2.1, 8, .inl (fun _ => 0)), .inr (4, [.int 100, .int 200, .int 0, .int 0, .int 0, .int 0, .ref (ga g (k + 19)), .ref (ga g (k + 20)), .ref (ga g (k + 21)), .int 0, .int 0, .int 0]), .inl (g.2.2.2.1, 8, .inl (fun _ => 0)), .inl (g.2.2.2.1, 8, .inl (fun _ => 0)), .inl (g.2.2.2.1, 8, .inl (fun _ => 0)), .inr (4, [.int 100, .int 200, .int 0, .int 0, .int 0, .int 0, .ref (ga g (k + 23)), .ref (ga g (k + 24)), .ref (ga g (k + 25)), .int 0, .int 0, .int 0]), .inl (g.2.2.2.1, 8, .inl (fun _ => 0)), .inl (g.2.2.2.1, 8, .inl (fun _ => 0)), .inl (g.2.2.2.1, 8, .inl (fun _ => 0)), .inr (4, [.int 100, .int 200, .int 0, .int 0, .int 0, .int 0, .ref (ga g (k + 27)), .ref (ga g (k + 28)), .ref (ga g (k + 29)), .int 0, .int 0, .int 0]), .inl (g.2.2.2.1, 8, .inl (fun _ => 0)), .inl (g.2.2.2.1, 8, .inl (fun _ => 0)), .inl (g.2.2.2.1, 8, .inl (fun _ => 0)), .inr (4, [.int 100, .int 200, .int 0, .int 0, .int 0, .int 0, .ref (ga g (k + 31)), .ref (ga g (k + 32)), .ref (ga g (k + 33)), .int 0, .int 0, .int 0]), .inl (g.2.2.2.1, 8, .inl (fun _ => 0)), .inl (g.2.2.2.1, 8, .inl (fun _ => 0)), .inl (g.2.2.2.1, 8, .inl (fun _ => 0)), .inr (4, [.int 100, .int 200, .int 0, .int 0, .int 0, .int 0, .ref (ga g (k + 35)), .ref (ga g (k + 36)), .ref (ga g (k + 37)), .int 0, .int 0, .int 0]), .inl (g.2.2.2.1, 8, .inl (fun _ => 0)), .inl (g.2.2.2.1, 8, .inl (fun _ => 0)), .inl (g.2.2.2.1, 8, .inl (fun _ => 0)), .inr (4, [.int 100, .int 200, .int 0, .int 0, .int 0, .int 0, .ref (ga g (k + 39)), .ref (ga g (k + 40)), .ref (ga g (k + 41)), .int 0, .int 0, .int 0]), .inl (g.2.2.2.1, 8, .inl (fun _ => 0)), .inl (g.2.2.2.1, 8, .inl (fun _ => 0)), .inl (g.2.2.2.1, 8, .inl (fun _ => 0)), .inr (4, [.int 100, .int 200, .int 0, .int 0, .int 0, .int 0, .ref (ga g (k + 43)), .ref (ga g (k + 44)), .ref (ga g (k + 45)), .int 0, .int 0, .int 0]), .inl (g.2.2.2.1, 8, .inl (fun _ => 0)), .inl (g.2.2.2.1, 8, .inl (fun _ => 0)), .inl (g.2.2.2.1, 8, .inl (fun _ => 0)), .inr (4, [.int 100, .int 200, .int 0, .int 0, .int 0, .int 0, .ref (ga g (k + 47)), .ref (ga g (k + 48)), .ref (ga g (k + 49)), .int 0, .int 0, .int 0]), .inl (g.2.2.2.1, 8, .inl (fun _ => 0)), .inl (g.2.2.2.1, 8, .inl (fun _ => 0)), .inl (g.2.2.2.1, 8, .inl (fun _ => 0)), .inr (4, [.int 100, .int 200, .int 0, .int 0, .int 0, .int 0, .ref (ga g (k + 51)), .ref (ga g (k + 52)), .ref (ga g (k + 53)), .int 0, .int 0, .int 0]), .inl (g.2.2.2.1, 8, .inl (fun _ => 0)), .inl (g.2.2.2.1, 8, .inl (fun _ => 0)), .inl (g.2.2.2.1, 8, .inl (fun _ => 0)), .inr (4, [.int 100, .int 200, .int 0, .int 0, .int 0, .int 0, .ref (ga g (k + 55)), .ref (ga g (k + 56)), .ref (ga g (k + 57)), .int 0, .int 0, .int 0]), .inl (g.2.2.2.1, 8, .inl (fun _ => 0)), .inl (g.2.2.2.1, 8, .inl (fun _ => 0)), .inl (g.2.2.2.1, 8, .inl (fun _ => 0))] H := hP
  show W p l e rm0_init s m args below meth c H _ 57 518 _ (F0 m 36 ls [.ref (ga g (k + 54)), .int (13 : Int32), .ref (ga g (k + 1))])
  refine n_aast (i := 1) (j := 13) (jo := 54) X hP hS rfl (Nat.le_of_ble_eq_true rfl) rfl (Nat.le_of_ble_eq_true rfl) (by decide +kernel) (by decide +kernel) dX0_init_36 (fun H locs hP hS => ?_)
  replace hP : Wz g c0 k [.inr (0, [.ref (ga g (k + 1)), .int 0, .int 0]), .inl (g.2.2.2.2.2, 14, .inr (.inr (.inr (.inr (va_up (va_up (va_up (va_up (va_up (va_up (va_up (va_up (va_up (va_up (va_up (va_up (va_up (va_up (fun _ => none) 0 (some (ga g (k + 2)))) 1 (some (ga g (k + 6)))) 2 (some (ga g (k + 10)))) 3 (some (ga g (k + 14)))) 4 (some (ga g (k + 18)))) 5 (some (ga g (k + 22)))) 6 (some (ga g (k + 26)))) 7 (some (ga g (k + 30)))) 8 (some (ga g (k + 34)))) 9 (some (ga g (k + 38)))) 10 (some (ga g (k + 42)))) 11 (some (ga g (k + 46)))) 12 (some (ga g (k + 50)))) 13 (some (ga g (k + 54)))))))), .inr (4, [.int 100, .int 200, .int 0, .int 0, .int 0, .int 0, .ref (ga g (k + 3)), .ref (ga g (k + 4)), .ref (ga g (k + 5)), .int 0, .int 0, .int 0]), .inl (g.2.2.2.1, 8, .inl (fun _ => 0)), .inl (g.2.2.2.1, 8, .inl (fun _ => 0)), .inl (g.2.2.2.1, 8, .inl (fun _ => 0)), .inr (4, [.int 100, .int 200, .int 0, .int 0, .int 0, .int 0, .ref (ga g (k + 7)), .ref (ga g (k + 8)), .ref (ga g (k + 9)), .int 0, .int 0, .int 0]), .inl (g.2.2.2.1, 8, .inl (fun _ => 0)), .inl (g.2.2.2.1, 8, .inl (fun _ => 0)), .inl (g.2.2.2.1, 8, .inl (fun _ => 0)), .inr (4, [.int 100, .int 200, .int 0, .int 0, .int 0, .int 0, .ref (ga g (k + 11)), .ref (ga g (k + 12)), .ref (ga g (k + 13)), .int 0, .int 0, .int 0]), .inl (g.2.2.2.1, 8, .inl (fun _ => 0)), .inl (g.2.2.2.1, 8, .inl (fun _ => 0)), .inl (g.2.2.2.1, 8, .inl (fun _ => 0)), .inr (4, [.int 100, .int 200, .int 0, .int 0, .int 0, .int 0, .ref (ga g (k + 15)), .ref (ga g (k + 16)), .ref (ga g (k + 17)), .int 0, .int 0, .int 0]), .inl (g.2.2.2.1, 8, .inl (fun _ => 0)), .inl (g.2.2.2.1, 8, .inl (fun _ => 0)), .inl (g.2.2.2.1, 8, .inl (fun _ => 0)), .inr (4, [.int 100, .int 200, .int 0, .int 0, .int 0, .int 0, .ref (ga g (k + 19)), .ref (ga g (k + 20)), .ref (ga g (k + 21)), .int 0, .int 0, .int 0]), .inl (g.2.2.2.1, 8, .inl (fun _ => 0)), .inl (g.2.2.2.1, 8, .inl (fun _ => 0)), .inl (g.2.2.2.1, 8, .inl (fun _ => 0)), .inr (4, [.int 100, .int 200, .int 0, .int 0, .int 0, .int 0, .ref (ga g (k + 23)), .ref (ga g (k + 24)), .ref (ga g (k + 25)), .int 0, .int 0, .int 0]), .inl (g.2.2.2.1, 8, .inl (fun _ => 0)), .inl (g.2.2.2.1, 8, .inl (fun _ => 0)), .inl (g.2.2.2.1, 8, .inl (fun _ => 0)), .inr (4, [.int 100, .int 200, .int 0, .int 0, .int 0, .int 0, .ref (ga g (k + 27)), .ref (ga g (k + 28)), .ref (ga g (k + 29)), .int 0, .int 0, .int 0]), .inl (g.2.2.2.1, 8, .inl (fun _ => 0)), .inl (g.2.2.2.1, 8, .inl (fun _ => 0)), .inl (g.2.2.2.1, 8, .inl (fun _ => 0)), .inr (4, [.int 100, .int 200, .int 0, .int 0, .int 0, .int 0, .ref (ga g (k + 31)), .ref (ga g (k + 32)), .ref (ga g (k + 33)), .int 0, .int 0, .int 0]), .inl (g.2.2.2.1, 8, .inl (fun _ => 0)), .inl (g.2.2.2.1, 8, .inl (fun _ => 0)), .inl (g.2.2.2.1, 8, .inl (fun _ => 0)), .inr (4, [.int 100, .int 200, .int 0, .int 0, .int 0, .int 0, .ref (ga g (k + 35)), .ref (ga g (k + 36)), .ref (ga g (k + 37)), .int 0, .int 0, .int 0]), .inl (g.2.2.2.1, 8, .inl (fun _ => 0)), .inl (g.2.2.2.1, 8, .inl (fun _ => 0)), .inl (g.2.2.2.1, 8, .inl (fun _ => 0)), .inr (4, [.int 100, .int 200, .int 0, .int 0, .int 0, .int 0, .ref (ga g (k + 39)), .ref (ga g (k + 40)), .ref (ga g (k + 41)), .int 0, .int 0, .int 0]), .inl (g.2.2.2.1, 8, .inl (fun _ => 0)), .inl (g.2.2.2.1, 8, .inl (fun _ => 0)), .inl (g.2.2.2.1, 8, .inl (fun _ => 0)), .inr (4, [.int 100, .int 200, .int 0, .int 0, .int 0, .int 0, .ref (ga g (k + 43)), .ref (ga g (k + 44)), .ref (ga g (k + 45)), .int 0, .int 0, .int 0]), .inl (g.2.2.2.1, 8, .inl (fun _ => 0)), .inl (g.2.2.2.1, 8, .inl (fun _ => 0)), .inl (g.2.2.2.1, 8, .inl (fun _ => 0)), .inr (4, [.int 100, .int 200, .int 0, .int 0, .int 0, .int 0, .ref (ga g (k + 47)), .ref (ga g (k + 48)), .ref (ga g (k + 49)), .int 0, .int 0, .int 0]), .inl (g.2.2.2.1, 8, .inl (fun _ => 0)), .inl (g.2.2.2.1, 8, .inl (fun _ => 0)), .inl (g.2.2.2.1, 8, .inl (fun _ => 0)), .inr (4, [.int 100, .int 200, .int 0, .int 0, .int 0, .int 0, .ref (ga g (k + 51)), .ref (ga g (k + 52)), .ref (ga g (k + 53)), .int 0, .int 0, .int 0]), .inl (g.2.2.2.1, 8, .inl (fun _ => 0)), .inl (g.2.2.2.1, 8, .inl (fun _ => 0)), .inl (g.2.2.2.1, 8, .inl (fun _ => 0)), .inr (4, [.int 100, .int 200, .int 0, .int 0, .int 0, .int 0, .ref (ga g (k + 55)), .ref (ga g (k + 56)), .ref (ga g (k + 57)), .int 0, .int 0, .int 0]), .inl (g.2.2.2.1, 8, .inl (fun _ => 0)), .inl (g.2.2.2.1, 8, .inl (fun _ => 0)), .inl (g.2.2.2.1, 8, .inl (fun _ => 0))] H := hP
  refine lv_iinc (v := (14 : Int32)) (lv' := [(1, .int (14 : Int32)), (0, .ref (ga g k))]) hx hb dX0_init_37 hl (k := 0) rfl (by decide +kernel) (by decide) rfl (fun ls hl => ?_)
  refine lv_goto (tgt := 15) hx hb dX0_init_40 (by decide) ?_
  refine lv_iload_n hx hb dX0_init_15 rfl (lv_at hl 0 rfl) ?_
  refine lv_aload_n hx hb dX0_init_16 rfl (lv_at hl 1 rfl) ?_
  refine n_get (i := 0) (j := 0) X hP rfl (Nat.le_of_ble_eq_true rfl) rfl inX0 (by decide) k_100 rfl dX0_init_17 ?_
  refine n_alenq (i := 1) (v := (14 : Int32)) X hP rfl (Nat.le_of_ble_eq_true rfl) (by decide +kernel) dX0_init_20 ?_
  refine lv_icmp_ge (tgt := 43) hx hb dX0_init_21 (by decide) (fun cc_ => ?_) (fun cc_ => ?_)
  rotate_left
  · exact absurd cc_ (by decide)
  replace hP := n_ring (i := 1) (f' := fun j => some (ga g (k + 2 + 4 * j))) hP rfl (Nat.le_of_ble_eq_true rfl) (fun j hj => by rcases (show j = 0 ∨ j = 1 ∨ j = 2 ∨ j = 3 ∨ j = 4 ∨ j = 5 ∨ j = 6 ∨ j = 7 ∨ j = 8 ∨ j = 9 ∨ j = 10 ∨ j = 11 ∨ j = 12 ∨ j = 13 by omega) with rfl | rfl | rfl | rfl | rfl | rfl | rfl | rfl | rfl | rfl | rfl | rfl | rfl | rfl <;> rfl)
  replace hP : Wz g c0 k [.inr (0, [.ref (ga g (k + 1)), .int 0, .int 0]), .inl (g.2.2.2.2.2, 14, .inr (.inr (.inr (.inr (fun j => some (ga g (k + 2 + 4 * j))))))), .inr (4, [.int 100, .int 200, .int 0, .int 0, .int 0, .int 0, .ref (ga g (k + 3)), .ref (ga g (k + 4)), .ref (ga g (k + 5)), .int 0, .int 0, .int 0]), .inl (g.2.2.2.1, 8, .inl (fun _ => 0)), .inl (g.2.2.2.1, 8, .inl (fun _ => 0)), .inl (g.2.2.2.1, 8, .inl (fun _ => 0)), .inr (4, [.int 100, .int 200, .int 0, .int 0, .int 0, .int 0, .ref (ga g (k + 7)), .ref (ga g (k + 8)), .ref (ga g (k + 9)), .int 0, .int 0, .int 0]), .inl (g.2.2.2.1, 8, .inl (fun _ => 0)), .inl (g.2.2.2.1, 8, .inl (fun _ => 0)), .inl (g.2.2.2.1, 8, .inl (fun _ => 0)), .inr (4, [.int 100, .int 200, .int 0, .int 0, .int 0, .int 0, .ref (ga g (k + 11)), .ref (ga g (k + 12)), .ref (ga g (k + 13)), .int 0, .int 0, .int 0]), .inl (g.2.2.2.1, 8, .inl (fun _ => 0)), .inl (g.2.2.2.1, 8, .inl (fun _ => 0)), .inl (g.2.2.2.1, 8, .inl (fun _ => 0)), .inr (4, [.int 100, .int 200, .int 0, .int 0, .int 0, .int 0, .ref (ga g (k + 15)), .ref (ga g (k + 16)), .ref (ga g (k + 17)), .int 0, .int 0, .int 0]), .inl (g.2.2.2.1, 8, .inl (fun _ => 0)), .inl (g.2.2.2.1, 8, .inl (fun _ => 0)), .inl (g.2.2.2.1, 8, .inl (fun _ => 0)), .inr (4, [.int 100, .int 200, .int 0, .int 0, .int 0, .int 0, .ref (ga g (k + 19)), .ref (ga g (k + 20)), .ref (ga g (k + 21)), .int 0, .int 0, .int 0]), .inl (g.2.2.2.1, 8, .inl (fun _ => 0)), .inl (g.2.2.2.1, 8, .inl (fun _ => 0)), .inl (g.2.2.2.1, 8, .inl (fun _ => 0)), .inr (4, [.int 100, .int 200, .int 0, .int 0, .int 0, .int 0, .ref (ga g (k + 23)), .ref (ga g (k + 24)), .ref (ga g (k + 25)), .int 0, .int 0, .int 0]), .inl (g.2.2.2.1, 8, .inl (fun _ => 0)), .inl (g.2.2.2.1, 8, .inl (fun _ => 0)), .inl (g.2.2.2.1, 8, .inl (fun _ => 0)), .inr (4, [.int 100, .int 200, .int 0, .int 0, .int 0, .int 0, .ref (ga g (k + 27)), .ref (ga g (k + 28)), .ref (ga g (k + 29)), .int 0, .int 0, .int 0]), .inl (g.2.2.2.1, 8, .inl (fun _ => 0)), .inl (g.2.2.2.1, 8, .inl (fun _ => 0)), .inl (g.2.2.2.1, 8, .inl (fun _ => 0)), .inr (4, [.int 100, .int 200, .int 0, .int 0, .int 0, .int 0, .ref (ga g (k + 31)), .ref (ga g (k + 32)), .ref (ga g (k + 33)), .int 0, .int 0, .int 0]), .inl (g.2.2.2.1, 8, .inl (fun _ => 0)), .inl (g.2.2.2.1, 8, .inl (fun _ => 0)), .inl (g.2.2.2.1, 8, .inl (fun _ => 0)), .inr (4, [.int 100, .int 200, .int 0, .int 0, .int 0, .int 0, .ref (ga g (k + 35)), .ref (ga g (k + 36)), .ref (ga g (k + 37)), .int 0, .int 0, .int 0]), .inl (g.2.2.2.1, 8, .inl (fun _ => 0)), .inl (g.2.2.2.1, 8, .inl (fun _ => 0)), .inl (g.2.2.2.1, 8, .inl (fun _ => 0)), .inr (4, [.int 100, .int 200, .int 0, .int 0, .int 0, .int 0, .ref (ga g (k + 39)), .ref (ga g (k + 40)), .ref (ga g (k + 41)), .int 0, .int 0, .int 0]), .inl (g.2.2.2.1, 8, .inl (fun _ => 0)), .inl (g.2.2.2.1, 8, .inl (fun _ => 0)), .inl (g.2.2.2.1, 8, .inl (fun _ => 0)), .inr (4, [.int 100, .int 200, .int 0, .int 0, .int 0, .int 0, .ref (ga g (k + 43)), .ref (ga g (k + 44)), .ref (ga g (k + 45)), .int 0, .int 0, .int 0]), .inl (g.2.2.2.1, 8, .inl (fun _ => 0)), .inl (g.2.2.2.1, 8, .inl (fun _ => 0)), .inl (g.2.2.2.1, 8, .inl (fun _ => 0)), .inr (4, [.int 100, .int 200, .int 0, .int 0, .int 0, .int 0, .ref (ga g (k + 47)), .ref (ga g (k + 48)), .ref (ga g (k + 49)), .int 0, .int 0, .int 0]), .inl (g.2.2.2.1, 8, .inl (fun _ => 0)), .inl (g.2.2.2.1, 8, .inl (fun _ => 0)), .inl (g.2.2.2.1, 8, .inl (fun _ => 0)), .inr (4, [.int 100, .int 200, .int 0, .int 0, .int 0, .int 0, .ref (ga g (k + 51)), .ref (ga g (k + 52)), .ref (ga g (k + 53)), .int 0, .int 0, .int 0]), .inl (g.2.2.2.1, 8, .inl (fun _ => 0)), .inl (g.2.2.2.1, 8, .inl (fun _ => 0)), .inl (g.2.2.2.1, 8, .inl (fun _ => 0)), .inr (4, [.int 100, .int 200, .int 0, .int 0, .int 0, .int 0, .ref (ga g (k + 55)), .ref (ga g (k + 56)), .ref (ga g (k + 57)), .int 0, .int 0, .int 0]), .inl (g.2.2.2.1, 8, .inl (fun _ => 0)), .inl (g.2.2.2.1, 8, .inl (fun _ => 0)), .inl (g.2.2.2.1, 8, .inl (fun _ => 0))] H := hP
  exact n_vret X hr hlk hP hS dX0_init_43
abbrev rm3_init : Room := { frames := 2, cells := 4, slots := 36, locals := 34 }
set_option maxHeartbeats 4000000 in
set_option maxRecDepth 100000 in
theorem c3_init (l : Launch) (g : GG) (hg : Lin g) (c0 : Nat → va_E) (k : Nat) : Mn l g yX3_init cX3_init 1 rm3_init c0 k [.inr (2, [.null, .int 0])] [.inr (2, [.ref (ga g (k + 1)), .int 0]), .inr (4, [.int 100, .int 200, .int 0, .int 0, .int 0, .int 0, .ref (ga g (k + 2)), .ref (ga g (k + 3)), .ref (ga g (k + 4)), .int 0, .int 0, .int 0]), .inl (g.2.2.2.1, 8, .inl (fun _ => 0)), .inl (g.2.2.2.1, 8, .inl (fun _ => 0)), .inl (g.2.2.2.1, 8, .inl (fun _ => 0))] 4 36 := by
  refine Mn.of hg (by decide +kernel) (by decide) ?_
  intro p e s m args below meth c ls X hr hlk hin hP hS hl
  replace X : Cy g p s m args c cX3_init RX3 1 (k + 1) := X
  have hx := X.hx
  have hb := X.hb
  replace hin : meth.name = "<init>" := hin
  obtain ⟨H, hHs⟩ : ∃ H, H = s.heap := ⟨_, rfl⟩
  rw [← hHs] at hP
  rw [show va_S (gA g) s.heap s.heap [] = va_S (gA g) s.heap H [] from by rw [hHs]] at hS
  rw [← hHs]
  refine lv_aload_n hx hb dX3_init_0 rfl (lv_at hl 0 rfl) ?_
  refine n_obj X hl.1 kx_116 kx_16 kx_17 dX3_init_1 (Nat.le_of_ble_eq_true rfl) (Nat.le_of_ble_eq_true rfl) ?_
  refine lv_aload_n hx hb dX3_init_4 rfl (lv_at hl 0 rfl) ?_
  refine n_new (ci := 4) (fs := [.int 0, .int 0, .int 0, .int 0, .int 0, .int 0, .null, .null, .null, .int 0, .int 0, .int 0]) X hP hS (by show k + 1 + 0 = k + 1; omega) rfl inX5 tyX5 tyX5_ok kx_117 kx_40 kx_3 (fun j hj => by rcases (show j = 0 ∨ j = 1 ∨ j = 2 ∨ j = 3 ∨ j = 4 ∨ j = 5 ∨ j = 6 ∨ j = 7 ∨ j = 8 ∨ j = 9 ∨ j = 10 ∨ j = 11 by omega) with rfl | rfl | rfl | rfl | rfl | rfl | rfl | rfl | rfl | rfl | rfl | rfl <;> rfl) (Nat.le_of_ble_eq_true rfl) (Nat.le_of_ble_eq_true rfl) dX3_init_5 (fun H hP hS => ?_)
  replace hP : Wz g c0 k [.inr (2, [.null, .int 0]), .inr (4, [.int 0, .int 0, .int 0, .int 0, .int 0, .int 0, .null, .null, .null, .int 0, .int 0, .int 0])] H := hP
  show W p l e rm3_init s m args below meth c H _ 1 12 _ (F0 m 8 ls [.ref (ga g (k + 1)), .ref (ga g k)])
  refine lv_dup hx hb dX3_init_8 rfl ?_
  refine n_callN (mc := 3) (ms := 24) (rest := [.ref (ga g (k + 1)), .ref (ga g k)]) [.inr (2, [.null, .int 0])] [.inr (4, [.int 0, .int 0, .int 0, .int 0, .int 0, .int 0, .null, .null, .null, .int 0, .int 0, .int 0])] [.inr (4, [.int 100, .int 200, .int 0, .int 0, .int 0, .int 0, .ref (ga g (k + 2)), .ref (ga g (k + 3)), .ref (ga g (k + 4)), .int 0, .int 0, .int 0]), .inl (g.2.2.2.1, 8, .inl (fun _ => 0)), .inl (g.2.2.2.1, 8, .inl (fun _ => 0)), .inl (g.2.2.2.1, 8, .inl (fun _ => 0))] X (c5_init l g hg _ _) rfl cal_X5_init im_X5_init X.2.2.2.2.2.2.2.2.1 rfl ⟨rfl, rfl⟩ ⟨Nat.le_of_ble_eq_true rfl, Nat.le_of_ble_eq_true rfl⟩ hP hS (by show k + 1 + 1 = k + 2; omega) (Nat.succ_pos _) hl.1 (Nat.le_of_ble_eq_true rfl) dX3_init_9 ⟨Nat.le_of_ble_eq_true rfl, Nat.le_of_ble_eq_true rfl⟩ (fun H locs hP hS => ?_)
  replace hP : Wz g c0 k [.inr (2, [.null, .int 0]), .inr (4, [.int 100, .int 200, .int 0, .int 0, .int 0, .int 0, .ref (ga g (k + 2)), .ref (ga g (k + 3)), .ref (ga g (k + 4)), .int 0, .int 0, .int 0]), .inl (g.2.2.2.1, 8, .inl (fun _ => 0)), .inl (g.2.2.2.1, 8, .inl (fun _ => 0)), .inl (g.2.2.2.1, 8, .inl (fun _ => 0))] H := hP
  show W p l e rm3_init s m args below meth c H _ 4 36 _ (F0 m 12 ls [.ref (ga g (k + 1)), .ref (ga g k)])
  refine n_putF (i := 0) (j := 0) (ty := (.object RX5)) X hP hS rfl (Nat.le_of_ble_eq_true rfl) rfl inX3 tyX3 tyX3_ok nmX3 (by decide) k_119 rfl hin rfl (by decide +kernel) rfl rfl (Nat.le_of_ble_eq_true rfl) dX3_init_12 (fun H locs hP hS => ?_)
  replace hP : Wz g c0 k [.inr (2, [.ref (ga g (k + 1)), .int 0]), .inr (4, [.int 100, .int 200, .int 0, .int 0, .int 0, .int 0, .ref (ga g (k + 2)), .ref (ga g (k + 3)), .ref (ga g (k + 4)), .int 0, .int 0, .int 0]), .inl (g.2.2.2.1, 8, .inl (fun _ => 0)), .inl (g.2.2.2.1, 8, .inl (fun _ => 0)), .inl (g.2.2.2.1, 8, .inl (fun _ => 0))] H := hP
  exact n_vret X hr hlk hP hS dX3_init_15
abbrev rm2_init : Room := { frames := 1, cells := 1, slots := 1001, locals := 14 }
set_option maxHeartbeats 4000000 in
set_option maxRecDepth 100000 in
theorem c2_init (l : Launch) (g : GG) (hg : Lin g) (c0 : Nat → va_E) (k : Nat) : Mn l g yX2_init cX2_init 1 rm2_init c0 k [.inr (1, [.int 0, .int 0, .int 0, .int 0, .null])] [.inr (1, [.int 0, .int 0, .int 0, .int 0, .ref (ga g (k + 1))]), .inl (g.2.2.2.1, 1001, .inl (fun _ => 0))] 1 1001 := by
  refine Mn.of hg (by decide +kernel) (by decide) ?_
  intro p e s m args below meth c ls X hr hlk hin hP hS hl
  replace X : Cy g p s m args c cX2_init RX2 1 (k + 1) := X
  have hx := X.hx
  have hb := X.hb
  replace hin : meth.name = "<init>" := hin
  obtain ⟨H, hHs⟩ : ∃ H, H = s.heap := ⟨_, rfl⟩
  rw [← hHs] at hP
  rw [show va_S (gA g) s.heap s.heap [] = va_S (gA g) s.heap H [] from by rw [hHs]] at hS
  rw [← hHs]
  refine lv_aload_n hx hb dX2_init_0 rfl (lv_at hl 0 rfl) ?_
  refine n_obj X hl.1 kx_132 kx_16 kx_17 dX2_init_1 (Nat.le_of_ble_eq_true rfl) (Nat.le_of_ble_eq_true rfl) ?_
  refine lv_aload_n hx hb dX2_init_4 rfl (lv_at hl 0 rfl) ?_
  refine lv_sipush (v := (1001 : Int32)) hx hb dX2_init_5 (by decide +kernel) ?_
  refine n_newI (N' := 1001) X hP hS (by show k + 1 + 0 = k + 1; omega) kx_38 (by decide) (by decide +kernel) (Nat.le_of_ble_eq_true rfl) (Nat.le_of_ble_eq_true rfl) (Nat.le_of_ble_eq_true rfl) dX2_init_8 (fun H hP hS => ?_)
  replace hP : Wz g c0 k [.inr (1, [.int 0, .int 0, .int 0, .int 0, .null]), .inl (g.2.2.2.1, 1001, .inl (fun _ => 0))] H := hP
  show W p l e rm2_init s m args below meth c H _ 1 1001 _ (F0 m 10 ls [.ref (ga g (k + 1)), .ref (ga g k)])
  refine n_putF (i := 0) (j := 4) (ty := (.array .int)) X hP hS rfl (Nat.le_of_ble_eq_true rfl) rfl inX2 tyX2 tyX2_ok nmX2 (by decide) k_139 rfl hin rfl (by decide +kernel) rfl rfl (Nat.le_of_ble_eq_true rfl) dX2_init_10 (fun H locs hP hS => ?_)
  replace hP : Wz g c0 k [.inr (1, [.int 0, .int 0, .int 0, .int 0, .ref (ga g (k + 1))]), .inl (g.2.2.2.1, 1001, .inl (fun _ => 0))] H := hP
  exact n_vret X hr hlk hP hS dX2_init_13
abbrev rm6_init : Room := { frames := 3, cells := 80, slots := 1759, locals := 55 }
set_option maxHeartbeats 4000000 in
set_option maxRecDepth 100000 in
theorem c6_init (l : Launch) (g : GG) (hg : Lin g) (c0 : Nat → va_E) (k : Nat) : Mn l g yX6_init cX6_init 1 rm6_init c0 k [.inr (5, [.null, .null, .null, .null, .null, .null, .null])] [.inr (5, [.ref (ga g (k + 1)), .ref (ga g (k + 3)), .ref (ga g (k + 7)), .ref (ga g (k + 11)), .ref (ga g (k + 69)), .ref (ga g (k + 74)), .ref (ga g (k + 79))]), .inr (3, [.ref (ga g (k + 2)), .int 0, .int 0, .int 0]), .inl (g.2.2.2.1, 80, .inl (fun _ => 0)), .inr (4, [.int 100, .int 200, .int 0, .int 0, .int 0, .int 0, .ref (ga g (k + 4)), .ref (ga g (k + 5)), .ref (ga g (k + 6)), .int 0, .int 0, .int 0]), .inl (g.2.2.2.1, 8, .inl (fun _ => 0)), .inl (g.2.2.2.1, 8, .inl (fun _ => 0)), .inl (g.2.2.2.1, 8, .inl (fun _ => 0)), .inr (4, [.int 100, .int 200, .int 0, .int 0, .int 0, .int 0, .ref (ga g (k + 8)), .ref (ga g (k + 9)), .ref (ga g (k + 10)), .int 0, .int 0, .int 0]), .inl (g.2.2.2.1, 8, .inl (fun _ => 0)), .inl (g.2.2.2.1, 8, .inl (fun _ => 0)), .inl (g.2.2.2.1, 8, .inl (fun _ => 0)), .inr (0, [.ref (ga g (k + 12)), .int 0, .int 0]), .inl (g.2.2.2.2.2, 14, .inr (.inr (.inr (.inr (fun j => some (ga g (k + 13 + 4 * j))))))), .inr (4, [.int 100, .int 200, .int 0, .int 0, .int 0, .int 0, .ref (ga g (k + 14)), .ref (ga g (k + 15)), .ref (ga g (k + 16)), .int 0, .int 0, .int 0]), .inl (g.2.2.2.1, 8, .inl (fun _ => 0)), .inl (g.2.2.2.1, 8, .inl (fun _ => 0)), .inl (g.2.2.2.1, 8, .inl (fun _ => 0)), .inr (4, [.int 100, .int 200, .int 0, .int 0, .int 0, .int 0, .ref (ga g (k + 18)), .ref (ga g (k + 19)), .ref (ga g (k + 20)), .int 0, .int 0, .int 0]), .inl (g.2.2.2.1, 8, .inl (fun _ => 0)), .inl (g.2.2.2.1, 8, .inl (fun _ => 0)), .inl (g.2.2.2.1, 8, .inl (fun _ => 0)), .inr (4, [.int 100, .int 200, .int 0, .int 0, .int 0, .int 0, .ref (ga g (k + 22)), .ref (ga g (k + 23)), .ref (ga g (k + 24)), .int 0, .int 0, .int 0]), .inl (g.2.2.2.1, 8, .inl (fun _ => 0)), .inl (g.2.2.2.1, 8, .inl (fun _ => 0)), .inl (g.2.2.2.1, 8, .inl (fun _ => 0)), .inr (4, [.int 100, .int 200, .int 0, .int 0, .int 0, .int 0, .ref (ga g (k + 26)), .ref (ga g (k + 27)), .ref (ga g (k + 28)), .int 0, .int 0, .int 0]), .inl (g.2.2.2.1, 8, .inl (fun _ => 0)), .inl (g.2.2.2.1, 8, .inl (fun _ => 0)), .inl (g.2.2.2.1, 8, .inl (fun _ => 0)), .inr (4, [.int 100, .int 200, .int 0, .int 0, .int 0, .int 0, .ref (ga g (k + 30)), .ref (ga g (k + 31)), .ref (ga g (k + 32)), .int 0, .int 0, .int 0]), .inl (g.2.2.2.1, 8, .inl (fun _ => 0)), .inl (g.2.2.2.1, 8, .inl (fun _ => 0)), .inl (g.2.2.2.1, 8, .inl (fun _ => 0)), .inr (4, [.int 100, .int 200, .int 0, .int 0, .int 0, .int 0, .ref (ga g (k + 34)), .ref (ga g (k + 35)), .ref (ga g (k + 36)), .int 0, .int 0, .int 0]), .inl (g.2.2.2.1, 8, .inl (fun _ => 0)), .inl (g.2.2.2.1, 8, .inl (fun _ => 0)), .inl (g.2.2.2.1, 8, .inl (fun _ => 0)), .inr (4, [.int 100, .int 200, .int 0, .int 0, .int 0, .int 0, .ref (ga g (k + 38)), .ref (ga g (k + 39)), .ref (ga g (k + 40)), .int 0, .int 0, .int 0]), .inl (g.2.2.2.1, 8, .inl (fun _ => 0)), .inl (g.2.2.2.1, 8, .inl (fun _ => 0)), .inl (g.2.2.2.1, 8, .inl (fun _ => 0)), .inr (4, [.int 100, .int 200, .int 0, .int 0, .int 0, .int 0, .ref (ga g (k + 42)), .ref (ga g (k + 43)), .ref (ga g (k + 44)), .int 0, .int 0, .int 0]), .inl (g.2.2.2.1, 8, .inl (fun _ => 0)), .inl (g.2.2.2.1, 8, .inl (fun _ => 0)), .inl (g.2.2.2.1, 8, .inl (fun _ => 0)), .inr (4, [.int 100, .int 200, .int 0, .int 0, .int 0, .int 0, .ref (ga g (k + 46)), .ref (ga g (k + 47)), .ref (ga g (k + 48)), .int 0, .int 0, .int 0]), .inl (g.2.2.2.1, 8, .inl (fun _ => 0)), .inl (g.2.2.2.1, 8, .inl (fun _ => 0)), .inl (g.2.2.2.1, 8, .inl (fun _ => 0)), .inr (4, [.int 100, .int 200, .int 0, .int 0, .int 0, .int 0, .ref (ga g (k + 50)), .ref (ga g (k + 51)), .ref (ga g (k + 52)), .int 0, .int 0, .int 0]), .inl (g.2.2.2.1, 8, .inl (fun _ => 0)), .inl (g.2.2.2.1, 8, .inl (fun _ => 0)), .inl (g.2.2.2.1, 8, .inl (fun _ => 0)), .inr (4, [.int 100, .int 200, .int 0, .int 0, .int 0, .int 0, .ref (ga g (k + 54)), .ref (ga g (k + 55)), .ref (ga g (k + 56)), .int 0, .int 0, .int 0]), .inl (g.2.2.2.1, 8, .inl (fun _ => 0)), .inl (g.2.2.2.1, 8, .inl (fun _ => 0)), .inl (g.2.2.2.1, 8, .inl (fun _ => 0)), .inr (4, [.int 100, .int 200, .int 0, .int 0, .int 0, .int 0, .ref (ga g (k + 58)), .ref (ga g (k + 59)), .ref (ga g (k + 60)), .int 0, .int 0, .int 0]), .inl (g.2.2.2.1, 8, .inl (fun _ => 0)), .inl (g.2.2.2.1, 8, .inl (fun _ => 0)), .inl (g.2.2.2.1, 8, .inl (fun _ => 0)), .inr (4, [.int 100, .int 200, .int 0, .int 0, .int 0, .int 0, .ref (ga g (k + 62)), .ref (ga g (k + 63)), .ref (ga g (k + 64)), .int 0, .int 0, .int 0]), .inl (g.2.2.2.1, 8, .inl (fun _ => 0)), .inl (g.2.2.2.1, 8, .inl (fun _ => 0)), .inl (g.2.2.2.1, 8, .inl (fun _ => 0)), .inr (4, [.int 100, .int 200, .int 0, .int 0, .int 0, .int 0, .ref (ga g (k + 66)), .ref (ga g (k + 67)), .ref (ga g (k + 68)), .int 0, .int 0, .int 0]), .inl (g.2.2.2.1, 8, .inl (fun _ => 0)), .inl (g.2.2.2.1, 8, .inl (fun _ => 0)), .inl (g.2.2.2.1, 8, .inl (fun _ => 0)), .inr (2, [.ref (ga g (k + 70)), .int 0]), .inr (4, [.int 100, .int 200, .int 0, .int 0, .int 0, .int 0, .ref (ga g (k + 71)), .ref (ga g (k + 72)), .ref (ga g (k + 73)), .int 0, .int 0, .int 0]), .inl (g.2.2.2.1, 8, .inl (fun _ => 0)), .inl (g.2.2.2.1, 8, .inl (fun _ => 0)), .inl (g.2.2.2.1, 8, .inl (fun _ => 0)), .inr (2, [.ref (ga g (k + 75)), .int 0]), .inr (4, [.int 100, .int 200, .int 0, .int 0, .int 0, .int 0, .ref (ga g (k + 76)), .ref (ga g (k + 77)), .ref (ga g (k + 78)), .int 0, .int 0, .int 0]), .inl (g.2.2.2.1, 8, .inl (fun _ => 0)), .inl (g.2.2.2.1, 8, .inl (fun _ => 0)), .inl (g.2.2.2.1, 8, .inl (fun _ => 0)), .inr (1, [.int 0, .int 0, .int 0, .int 0, .ref (ga g (k + 80))]), .inl (g.2.2.2.1, 1001, .inl (fun _ => 0))] 80 1759 := by
  refine Mn.of hg (by decide +kernel) (by decide) ?_
  intro p e s m args below meth c ls X hr hlk hin hP hS hl
  replace X : Cy g p s m args c cX6_init RX6 1 (k + 1) := X
  have hx := X.hx
  have hb := X.hb
  replace hin : meth.name = "<init>" := hin
  obtain ⟨H, hHs⟩ : ∃ H, H = s.heap := ⟨_, rfl⟩
  rw [← hHs] at hP
  rw [show va_S (gA g) s.heap s.heap [] = va_S (gA g) s.heap H [] from by rw [hHs]] at hS
  rw [← hHs]
  refine lv_aload_n hx hb dX6_init_0 rfl (lv_at hl 0 rfl) ?_
  refine n_obj X hl.1 kx_15 kx_16 kx_17 dX6_init_1 (Nat.le_of_ble_eq_true rfl) (Nat.le_of_ble_eq_true rfl) ?_
  refine lv_aload_n hx hb dX6_init_4 rfl (lv_at hl 0 rfl) ?_
  refine n_new (ci := 3) (fs := [.null, .int 0, .int 0, .int 0]) X hP hS (by show k + 1 + 0 = k + 1; omega) rfl inX4 tyX4 tyX4_ok kx_18 kx_19 kx_2 (fun j hj => by rcases (show j = 0 ∨ j = 1 ∨ j = 2 ∨ j = 3 by omega) with rfl | rfl | rfl | rfl <;> rfl) (Nat.le_of_ble_eq_true rfl) (Nat.le_of_ble_eq_true rfl) dX6_init_5 (fun H hP hS => ?_)
  replace hP : Wz g c0 k [.inr (5, [.null, .null, .null, .null, .null, .null, .null]), .inr (3, [.null, .int 0, .int 0, .int 0])] H := hP
  show W p l e rm6_init s m args below meth c H _ 1 4 _ (F0 m 8 ls [.ref (ga g (k + 1)), .ref (ga g k)])
  refine lv_dup hx hb dX6_init_8 rfl ?_
  refine n_callN (mc := 1) (ms := 80) (rest := [.ref (ga g (k + 1)), .ref (ga g k)]) [.inr (5, [.null, .null, .null, .null, .null, .null, .null])] [.inr (3, [.null, .int 0, .int 0, .int 0])] [.inr (3, [.ref (ga g (k + 2)), .int 0, .int 0, .int 0]), .inl (g.2.2.2.1, 80, .inl (fun _ => 0))] X (c4_init l g hg _ _) rfl cal_X4_init im_X4_init X.2.2.2.2.1 rfl ⟨rfl, rfl⟩ ⟨Nat.le_of_ble_eq_true rfl, Nat.le_of_ble_eq_true rfl⟩ hP hS (by show k + 1 + 1 = k + 2; omega) (Nat.succ_pos _) hl.1 (Nat.le_of_ble_eq_true rfl) dX6_init_9 ⟨Nat.le_of_ble_eq_true rfl, Nat.le_of_ble_eq_true rfl⟩ (fun H locs hP hS => ?_)
  replace hP : Wz g c0 k [.inr (5, [.null, .null, .null, .null, .null, .null, .null]), .inr (3, [.ref (ga g (k + 2)), .int 0, .int 0, .int 0]), .inl (g.2.2.2.1, 80, .inl (fun _ => 0))] H := hP
  show W p l e rm6_init s m args below meth c H _ 2 84 _ (F0 m 12 ls [.ref (ga g (k + 1)), .ref (ga g k)])
  refine n_putF (i := 0) (j := 0) (ty := (.object RX4)) X hP hS rfl (Nat.le_of_ble_eq_true rfl) rfl inX6 tyX6 tyX6_ok nmX6 (by decide) k_151 rfl hin rfl (by decide +kernel) rfl rfl (Nat.le_of_ble_eq_true rfl) dX6_init_12 (fun H locs hP hS => ?_)
  replace hP : Wz g c0 k [.inr (5, [.ref (ga g (k + 1)), .null, .null, .null, .null, .null, .null]), .inr (3, [.ref (ga g (k + 2)), .int 0, .int 0, .int 0]), .inl (g.2.2.2.1, 80, .inl (fun _ => 0))] H := hP
  refine lv_aload_n hx hb dX6_init_15 rfl (lv_at hl 0 rfl) ?_
  refine n_new (ci := 4) (fs := [.int 0, .int 0, .int 0, .int 0, .int 0, .int 0, .null, .null, .null, .int 0, .int 0, .int 0]) X hP hS (by show k + 1 + 2 = k + 3; omega) rfl inX5 tyX5 tyX5_ok kx_39 kx_40 kx_3 (fun j hj => by rcases (show j = 0 ∨ j = 1 ∨ j = 2 ∨ j = 3 ∨ j = 4 ∨ j = 5 ∨ j = 6 ∨ j = 7 ∨ j = 8 ∨ j = 9 ∨ j = 10 ∨ j = 11 by omega) with rfl | rfl | rfl | rfl | rfl | rfl | rfl | rfl | rfl | rfl | rfl | rfl <;> rfl) (Nat.le_of_ble_eq_true rfl) (Nat.le_of_ble_eq_true rfl) dX6_init_16 (fun H hP hS => ?_)
  replace hP : Wz g c0 k [.inr (5, [.ref (ga g (k + 1)), .null, .null, .null, .null, .null, .null]), .inr (3, [.ref (ga g (k + 2)), .int 0, .int 0, .int 0]), .inl (g.2.2.2.1, 80, .inl (fun _ => 0)), .inr (4, [.int 0, .int 0, .int 0, .int 0, .int 0, .int 0, .null, .null, .null, .int 0, .int 0, .int 0])] H := hP
  show W p l e rm6_init s m args below meth c H _ 3 96 _ (F0 m 19 ls [.ref (ga g (k + 3)), .ref (ga g k)])
  refine lv_dup hx hb dX6_init_19 rfl ?_
  refine n_callN (mc := 3) (ms := 24) (rest := [.ref (ga g (k + 3)), .ref (ga g k)]) [.inr (5, [.ref (ga g (k + 1)), .null, .null, .null, .null, .null, .null]), .inr (3, [.ref (ga g (k + 2)), .int 0, .int 0, .int 0]), .inl (g.2.2.2.1, 80, .inl (fun _ => 0))] [.inr (4, [.int 0, .int 0, .int 0, .int 0, .int 0, .int 0, .null, .null, .null, .int 0, .int 0, .int 0])] [.inr (4, [.int 100, .int 200, .int 0, .int 0, .int 0, .int 0, .ref (ga g (k + 4)), .ref (ga g (k + 5)), .ref (ga g (k + 6)), .int 0, .int 0, .int 0]), .inl (g.2.2.2.1, 8, .inl (fun _ => 0)), .inl (g.2.2.2.1, 8, .inl (fun _ => 0)), .inl (g.2.2.2.1, 8, .inl (fun _ => 0))] X (c5_init l g hg _ _) rfl cal_X5_init im_X5_init X.2.2.2.2.2.1 rfl ⟨rfl, rfl⟩ ⟨Nat.le_of_ble_eq_true rfl, Nat.le_of_ble_eq_true rfl⟩ hP hS (by show k + 1 + 3 = k + 4; omega) (Nat.succ_pos _) hl.1 (Nat.le_of_ble_eq_true rfl) dX6_init_20 ⟨Nat.le_of_ble_eq_true rfl, Nat.le_of_ble_eq_true rfl⟩ (fun H locs hP hS => ?_)
  replace hP : Wz g c0 k [.inr (5, [.ref (ga g (k + 1)), .null, .null, .null, .null, .null, .null]), .inr (3, [.ref (ga g (k + 2)), .int 0, .int 0, .int 0]), .inl (g.2.2.2.1, 80, .inl (fun _ => 0)), .inr (4, [.int 100, .int 200, .int 0, .int 0, .int 0, .int 0, .ref (ga g (k + 4)), .ref (ga g (k + 5)), .ref (ga g (k + 6)), .int 0, .int 0, .int 0]), .inl (g.2.2.2.1, 8, .inl (fun _ => 0)), .inl (g.2.2.2.1, 8, .inl (fun _ => 0)), .inl (g.2.2.2.1, 8, .inl (fun _ => 0))] H := hP
  show W p l e rm6_init s m args below meth c H _ 6 120 _ (F0 m 23 ls [.ref (ga g (k + 3)), .ref (ga g k)])
  refine n_putF (i := 0) (j := 1) (ty := (.object RX5)) X hP hS rfl (Nat.le_of_ble_eq_true rfl) rfl inX6 tyX6 tyX6_ok nmX6 (by decide) k_152 rfl hin rfl (by decide +kernel) rfl rfl (Nat.le_of_ble_eq_true rfl) dX6_init_23 (fun H locs hP hS => ?_)
  replace hP : Wz g c0 k [.inr (5, [.ref (ga g (k + 1)), .ref (ga g (k + 3)), .null, .null, .null, .null, .null]), .inr (3, [.ref (ga g (k + 2)), .int 0, .int 0, .int 0]), .inl (g.2.2.2.1, 80, .inl (fun _ => 0)), .inr (4, [.int 100, .int 200, .int 0, .int 0, .int 0, .int 0, .ref (ga g (k + 4)), .ref (ga g (k + 5)), .ref (ga g (k + 6)), .int 0, .int 0, .int 0]), .inl (g.2.2.2.1, 8, .inl (fun _ => 0)), .inl (g.2.2.2.1, 8, .inl (fun _ => 0)), .inl (g.2.2.2.1, 8, .inl (fun _ => 0))] H := hP
  refine lv_aload_n hx hb dX6_init_26 rfl (lv_at hl 0 rfl) ?_
  refine n_new (ci := 4) (fs := [.int 0, .int 0, .int 0, .int 0, .int 0, .int 0, .null, .null, .null, .int 0, .int 0, .int 0]) X hP hS (by show k + 1 + 6 = k + 7; omega) rfl inX5 tyX5 tyX5_ok kx_39 kx_40 kx_3 (fun j hj => by rcases (show j = 0 ∨ j = 1 ∨ j = 2 ∨ j = 3 ∨ j = 4 ∨ j = 5 ∨ j = 6 ∨ j = 7 ∨ j = 8 ∨ j = 9 ∨ j = 10 ∨ j = 11 by omega) with rfl | rfl | rfl | rfl | rfl | rfl | rfl | rfl | rfl | rfl | rfl | rfl <;> rfl) (Nat.le_of_ble_eq_true rfl) (Nat.le_of_ble_eq_true rfl) dX6_init_27 (fun H hP hS => ?_)
  replace hP : Wz g c0 k [.inr (5, [.ref (ga g (k + 1)), .ref (ga g (k + 3)), .null, .null, .null, .null, .null]), .inr (3, [.ref (ga g (k + 2)), .int 0, .int 0, .int 0]), .inl (g.2.2.2.1, 80, .inl (fun _ => 0)), .inr (4, [.int 100, .int 200, .int 0, .int 0, .int 0, .int 0, .ref (ga g (k + 4)), .ref (ga g (k + 5)), .ref (ga g (k + 6)), .int 0, .int 0, .int 0]), .inl (g.2.2.2.1, 8, .inl (fun _ => 0)), .inl (g.2.2.2.1, 8, .inl (fun _ => 0)), .inl (g.2.2.2.1, 8, .inl (fun _ => 0)), .inr (4, [.int 0, .int 0, .int 0, .int 0, .int 0, .int 0, .null, .null, .null, .int 0, .int 0, .int 0])] H := hP
  show W p l e rm6_init s m args below meth c H _ 7 132 _ (F0 m 30 ls [.ref (ga g (k + 7)), .ref (ga g k)])
  refine lv_dup hx hb dX6_init_30 rfl ?_
  refine n_callN (mc := 3) (ms := 24) (rest := [.ref (ga g (k + 7)), .ref (ga g k)]) [.inr (5, [.ref (ga g (k + 1)), .ref (ga g (k + 3)), .null, .null, .null, .null, .null]), .inr (3, [.ref (ga g (k + 2)), .int 0, .int 0, .int 0]), .inl (g.2.2.2.1, 80, .inl (fun _ => 0)), .inr (4, [.int 100, .int 200, .int 0, .int 0, .int 0, .int 0, .ref (ga g (k + 4)), .ref (ga g (k + 5)), .ref (ga g (k + 6)), .int 0, .int 0, .int 0]), .inl (g.2.2.2.1, 8, .inl (fun _ => 0)), .inl (g.2.2.2.1, 8, .inl (fun _ => 0)), .inl (g.2.2.2.1, 8, .inl (fun _ => 0))] [.inr (4, [.int 0, .int 0, .int 0, .int 0, .int 0, .int 0, .null, .null, .null, .int 0, .int 0, .int 0])] [.inr (4, [.int 100, .int 200, .int 0, .int 0, .int 0, .int 0, .ref (ga g (k + 8)), .ref (ga g (k + 9)), .ref (ga g (k + 10)), .int 0, .int 0, .int 0]), .inl (g.2.2.2.1, 8, .inl (fun _ => 0)), .inl (g.2.2.2.1, 8, .inl (fun _ => 0)), .inl (g.2.2.2.1, 8, .inl (fun _ => 0))] X (c5_init l g hg _ _) rfl cal_X5_init im_X5_init X.2.2.2.2.2.1 rfl ⟨rfl, rfl⟩ ⟨Nat.le_of_ble_eq_true rfl, Nat.le_of_ble_eq_true rfl⟩ hP hS (by show k + 1 + 7 = k + 8; omega) (Nat.succ_pos _) hl.1 (Nat.le_of_ble_eq_true rfl) dX6_init_31 ⟨Nat.le_of_ble_eq_true rfl, Nat.le_of_ble_eq_true rfl⟩ (fun H locs hP hS => ?_)
  replace hP : Wz g c0 k [.inr (5, [.ref (ga g (k + 1)), .ref (ga g (k + 3)), .null, .null, .null, .null, .null]), .inr (3, [.ref (ga g (k + 2)), .int 0, .int 0, .int 0]), .inl (g.2.2.2.1, 80, .inl (fun _ => 0)), .inr (4, [.int 100, .int 200, .int 0, .int 0, .int 0, .int 0, .ref (ga g (k + 4)), .ref (ga g (k + 5)), .ref (ga g (k + 6)), .int 0, .int 0, .int 0]), .inl (g.2.2.2.1, 8, .inl (fun _ => 0)), .inl (g.2.2.2.1, 8, .inl (fun _ => 0)), .inl (g.2.2.2.1, 8, .inl (fun _ => 0)), .inr (4, [.int 100, .int 200, .int 0, .int 0, .int 0, .int 0, .ref (ga g (k + 8)), .ref (ga g (k + 9)), .ref (ga g (k + 10)), .int 0, .int 0, .int 0]), .inl (g.2.2.2.1, 8, .inl (fun _ => 0)), .inl (g.2.2.2.1, 8, .inl (fun _ => 0)), .inl (g.2.2.2.1, 8, .inl (fun _ => 0))] H := hP
  show W p l e rm6_init s m args below meth c H _ 10 156 _ (F0 m 34 ls [.ref (ga g (k + 7)), .ref (ga g k)])
  refine n_putF (i := 0) (j := 2) (ty := (.object RX5)) X hP hS rfl (Nat.le_of_ble_eq_true rfl) rfl inX6 tyX6 tyX6_ok nmX6 (by decide) k_153 rfl hin rfl (by decide +kernel) rfl rfl (Nat.le_of_ble_eq_true rfl) dX6_init_34 (fun H locs hP hS => ?_)
  replace hP : Wz g c0 k [.inr (5, [.ref (ga g (k + 1)), .ref (ga g (k + 3)), .ref (ga g (k + 7)), .null, .null, .null, .null]), .inr (3, [.ref (ga g (k + 2)), .int 0, .int 0, .int 0]), .inl (g.2.2.2.1, 80, .inl (fun _ => 0)), .inr (4, [.int 100, .int 200, .int 0, .int 0, .int 0, .int 0, .ref (ga g (k + 4)), .ref (ga g (k + 5)), .ref (ga g (k + 6)), .int 0, .int 0, .int 0]), .inl (g.2.2.2.1, 8, .inl (fun _ => 0)), .inl (g.2.2.2.1, 8, .inl (fun _ => 0)), .inl (g.2.2.2.1, 8, .inl (fun _ => 0)), .inr (4, [.int 100, .int 200, .int 0, .int 0, .int 0, .int 0, .ref (ga g (k + 8)), .ref (ga g (k + 9)), .ref (ga g (k + 10)), .int 0, .int 0, .int 0]), .inl (g.2.2.2.1, 8, .inl (fun _ => 0)), .inl (g.2.2.2.1, 8, .inl (fun _ => 0)), .inl (g.2.2.2.1, 8, .inl (fun _ => 0))] H := hP
  refine lv_aload_n hx hb dX6_init_37 rfl (lv_at hl 0 rfl) ?_
  refine n_new (ci := 0) (fs := [.null, .int 0, .int 0]) X hP hS (by show k + 1 + 10 = k + 11; omega) rfl inX0 tyX0 tyX0_ok kx_91 kx_92 kx_4 (fun j hj => by rcases (show j = 0 ∨ j = 1 ∨ j = 2 by omega) with rfl | rfl | rfl <;> rfl) (Nat.le_of_ble_eq_true rfl) (Nat.le_of_ble_eq_true rfl) dX6_init_38 (fun H hP hS => ?_)
  replace hP : Wz g c0 k [.inr (5, [.ref (ga g (k + 1)), .ref (ga g (k + 3)), .ref (ga g (k + 7)), .null, .null, .null, .null]), .inr (3, [.ref (ga g (k + 2)), .int 0, .int 0, .int 0]), .inl (g.2.2.2.1, 80, .inl (fun _ => 0)), .inr (4, [.int 100, .int 200, .int 0, .int 0, .int 0, .int 0, .ref (ga g (k + 4)), .ref (ga g (k + 5)), .ref (ga g (k + 6)), .int 0, .int 0, .int 0]), .inl (g.2.2.2.1, 8, .inl (fun _ => 0)), .inl (g.2.2.2.1, 8, .inl (fun _ => 0)), .inl (g.2.2.2.1, 8, .inl (fun _ => 0)), .inr (4, [.int 100, .int 200, .int 0, .int 0, .int 0, .int 0, .ref (ga g (k + 8)), .ref (ga g (k + 9)), .ref (ga g (k + 10)), .int 0, .int 0, .int 0]), .inl (g.2.2.2.1, 8, .inl (fun _ => 0)), .inl (g.2.2.2.1, 8, .inl (fun _ => 0)), .inl (g.2.2.2.1, 8, .inl (fun _ => 0)), .inr (0, [.null, .int 0, .int 0])] H := hP
  show W p l e rm6_init s m args below meth c H _ 11 159 _ (F0 m 41 ls [.ref (ga g (k + 11)), .ref (ga g k)])
  refine lv_dup hx hb dX6_init_41 rfl ?_
  refine n_call (mc := 57) (ms := 518) (rest := [.ref (ga g (k + 11)), .ref (ga g k)]) [.inr (5, [.ref (ga g (k + 1)), .ref (ga g (k + 3)), .ref (ga g (k + 7)), .null, .null, .null, .null]), .inr (3, [.ref (ga g (k + 2)), .int 0, .int 0, .int 0]), .inl (g.2.2.2.1, 80, .inl (fun _ => 0)), .inr (4, [.int 100, .int 200, .int 0, .int 0, .int 0, .int 0, .ref (ga g (k + 4)), .ref (ga g (k + 5)), .ref (ga g (k + 6)), .int 0, .int 0, .int 0]), .inl (g.2.2.2.1, 8, .inl (fun _ => 0)), .inl (g.2.2.2.1, 8, .inl (fun _ => 0)), .inl (g.2.2.2.1, 8, .inl (fun _ => 0)), .inr (4, [.int 100, .int 200, .int 0, .int 0, .int 0, .int 0, .ref (ga g (k + 8)), .ref (ga g (k + 9)), .ref (ga g (k + 10)), .int 0, .int 0, .int 0]), .inl (g.2.2.2.1, 8, .inl (fun _ => 0)), .inl (g.2.2.2.1, 8, .inl (fun _ => 0)), .inl (g.2.2.2.1, 8, .inl (fun _ => 0))] [.inr (0, [.null, .int 0, .int 0])] [.inr (0, [.ref (ga g (k + 12)), .int 0, .int 0]), .inl (g.2.2.2.2.2, 14, .inr (.inr (.inr (.inr (fun j => some (ga g (k + 13 + 4 * j))))))), .inr (4, [.int 100, .int 200, .int 0, .int 0, .int 0, .int 0, .ref (ga g (k + 14)), .ref (ga g (k + 15)), .ref (ga g (k + 16)), .int 0, .int 0, .int 0]), .inl (g.2.2.2.1, 8, .inl (fun _ => 0)), .inl (g.2.2.2.1, 8, .inl (fun _ => 0)), .inl (g.2.2.2.1, 8, .inl (fun _ => 0)), .inr (4, [.int 100, .int 200, .int 0, .int 0, .int 0, .int 0, .ref (ga g (k + 18)), .ref (ga g (k + 19)), .ref (ga g (k + 20)), .int 0, .int 0, .int 0]), .inl (g.2.2.2.1, 8, .inl (fun _ => 0)), .inl (g.2.2.2.1, 8, .inl (fun _ => 0)), .inl (g.2.2.2.1, 8, .inl (fun _ => 0)), .inr (4, [.int 100, .int 200, .int 0, .int 0, .int 0, .int 0, .ref (ga g (k + 22)), .ref (ga g (k + 23)), .ref (ga g (k + 24)), .int 0, .int 0, .int 0]), .inl (g.2.2.2.1, 8, .inl (fun _ => 0)), .inl (g.2.2.2.1, 8, .inl (fun _ => 0)), .inl (g.2.2.2.1, 8, .inl (fun _ => 0)), .inr (4, [.int 100, .int 200, .int 0, .int 0, .int 0, .int 0, .ref (ga g (k + 26)), .ref (ga g (k + 27)), .ref (ga g (k + 28)), .int 0, .int 0, .int 0]), .inl (g.2.2.2.1, 8, .inl (fun _ => 0)), .inl (g.2.2.2.1, 8, .inl (fun _ => 0)), .inl (g.2.2.2.1, 8, .inl (fun _ => 0)), .inr (4, [.int 100, .int 200, .int 0, .int 0, .int 0, .int 0, .ref (ga g (k + 30)), .ref (ga g (k + 31)), .ref (ga g (k + 32)), .int 0, .int 0, .int 0]), .inl (g.2.2.2.1, 8, .inl (fun _ => 0)), .inl (g.2.2.2.1, 8, .inl (fun _ => 0)), .inl (g.2.2.2.1, 8, .inl (fun _ => 0)), .inr (4, [.int 100, .int 200, .int 0, .int 0, .int 0, .int 0, .ref (ga g (k + 34)), .ref (ga g (k + 35)), .ref (ga g (k + 36)), .int 0, .int 0, .int 0]), .inl (g.2.2.2.1, 8, .inl (fun _ => 0)), .inl (g.2.2.2.1, 8, .inl (fun _ => 0)), .inl (g.2.2.2.1, 8, .inl (fun _ => 0)), .inr (4, [.int 100, .int 200, .int 0, .int 0, .int 0, .int 0, .ref (ga g (k + 38)), .ref (ga g (k + 39)), .ref (ga g (k + 40)), .int 0, .int 0, .int 0]), .inl (g.2.2.2.1, 8, .inl (fun _ => 0)), .inl (g.2.2.2.1, 8, .inl (fun _ => 0)), .inl (g.2.2.2.1, 8, .inl (fun _ => 0)), .inr (4, [.int 100, .int 200, .int 0, .int 0, .int 0, .int 0, .ref (ga g (k + 42)), .ref (ga g (k + 43)), .ref (ga g (k + 44)), .int 0, .int 0, .int 0]), .inl (g.2.2.2.1, 8, .inl (fun _ => 0)), .inl (g.2.2.2.1, 8, .inl (fun _ => 0)), .inl (g.2.2.2.1, 8, .inl (fun _ => 0)), .inr (4, [.int 100, .int 200, .int 0, .int 0, .int 0, .int 0, .ref (ga g (k + 46)), .ref (ga g (k + 47)), .ref (ga g (k + 48)), .int 0, .int 0, .int 0]), .inl (g.2.2.2.1, 8, .inl (fun _ => 0)), .inl (g.2.2.2.1, 8, .inl (fun _ => 0)), .inl (g.2.2.2.1, 8, .inl (fun _ => 0)), .inr (4, [.int 100, .int 200, .int 0, .int 0, .int 0, .int 0, .ref (ga g (k + 50)), .ref (ga g (k + 51)), .ref (ga g (k + 52)), .int 0, .int 0, .int 0]), .inl (g.2.2.2.1, 8, .inl (fun _ => 0)), .inl (g.2.2.2.1, 8, .inl (fun _ => 0)), .inl (g.2.2.2.1, 8, .inl (fun _ => 0)), .inr (4, [.int 100, .int 200, .int 0, .int 0, .int 0, .int 0, .ref (ga g (k + 54)), .ref (ga g (k + 55)), .ref (ga g (k + 56)), .int 0, .int 0, .int 0]), .inl (g.2.2.2.1, 8, .inl (fun _ => 0)), .inl (g.2.2.2.1, 8, .inl (fun _ => 0)), .inl (g.2.2.2.1, 8, .inl (fun _ => 0)), .inr (4, [.int 100, .int 200, .int 0, .int 0, .int 0, .int 0, .ref (ga g (k + 58)), .ref (ga g (k + 59)), .ref (ga g (k + 60)), .int 0, .int 0, .int 0]), .inl (g.2.2.2.1, 8, .inl (fun _ => 0)), .inl (g.2.2.2.1, 8, .inl (fun _ => 0)), .inl (g.2.2.2.1, 8, .inl (fun _ => 0)), .inr (4, [.int 100, .int 200, .int 0, .int 0, .int 0, .int 0, .ref (ga g (k + 62)), .ref (ga g (k + 63)), .ref (ga g (k + 64)), .int 0, .int 0, .int 0]), .inl (g.2.2.2.1, 8, .inl (fun _ => 0)), .inl (g.2.2.2.1, 8, .inl (fun _ => 0)), .inl (g.2.2.2.1, 8, .inl (fun _ => 0)), .inr (4, [.int 100, .int 200, .int 0, .int 0, .int 0, .int 0, .ref (ga g (k + 66)), .ref (ga g (k + 67)), .ref (ga g (k + 68)), .int 0, .int 0, .int 0]), .inl (g.2.2.2.1, 8, .inl (fun _ => 0)), .inl (g.2.2.2.1, 8, .inl (fun _ => 0)), .inl (g.2.2.2.1, 8, .inl (fun _ => 0))] X (c0_init l g hg _ _) rfl cal_X0_init im_X0_init k_93 rfl ⟨rfl, rfl⟩ ⟨Nat.le_of_ble_eq_true rfl, Nat.le_of_ble_eq_true rfl⟩ hP hS (by show k + 1 + 11 = k + 12; omega) (Nat.succ_pos _) hl.1 (Nat.le_of_ble_eq_true rfl) dX6_init_42 ⟨Nat.le_of_ble_eq_true rfl, Nat.le_of_ble_eq_true rfl⟩ (fun H locs hP hS => ?_)
  replace hP : Wz g c0 k [.inr (5, [.ref (ga g (k + 1)), .ref (ga g (k + 3)), .ref (ga g (k + 7)), .null, .null, .null, .null]), .inr (3, [.ref (ga g (k + 2)), .int 0, .int 0, .int 0]), .inl (g.2.2.2.1, 80, .inl (fun _ => 0)), .inr (4, [.int 100, .int 200, .int 0, .int 0, .int 0, .int 0, .ref (ga g (k + 4)), .ref (ga g (k + 5)), .ref (ga g (k + 6)), .int 0, .int 0, .int 0]), .inl (g.2.2.2.1, 8, .inl (fun _ => 0)), .inl (g.2.2.2.1, 8, .inl (fun _ => 0)), .inl (g.2.2.2.1, 8, .inl (fun _ => 0)), .inr (4, [.int 100, .int 200, .int 0, .int 0, .int 0, .int 0, .ref (ga g (k + 8)), .ref (ga g (k + 9)), .ref (ga g (k + 10)), .int 0, .int 0, .int 0]), .inl (g.2.2.2.1, 8, .inl (fun _ => 0)), .inl (g.2.2.2.1, 8, .inl (fun _ => 0)), .inl (g.2.2.2.1, 8, .inl (fun _ => 0)), .inr (0, [.ref (ga g (k + 12)), .int 0, .int 0]), .inl (g.2.2.2.2.2, 14, .inr (.inr (.inr (.inr (fun j => some (ga g (k + 13 + 4 * j))))))), .inr (4, [.int 100, .int 200, .int 0, .int 0, .int 0, .int 0, .ref (ga g (k + 14)), .ref (ga g (k + 15)), .ref (ga g (k + 16)), .int 0, .int 0, .int 0]), .inl (g.2.2.2.1, 8, .inl (fun _ => 0)), .inl (g.2.2.2.1, 8, .inl (fun _ => 0)), .inl (g.2.2.2.1, 8, .inl (fun _ => 0)), .inr (4, [.int 100, .int 200, .int 0, .int 0, .int 0, .int 0, .ref (ga g (k + 18)), .ref (ga g (k + 19)), .ref (ga g (k + 20)), .int 0, .int 0, .int 0]), .inl (g.2.2.2.1, 8, .inl (fun _ => 0)), .inl (g.2.2.2.1, 8, .inl (fun _ => 0)), .inl (g.2.2.2.1, 8, .inl (fun _ => 0)), .inr (4, [.int 100, .int 200, .int 0, .int 0, .int 0, .int 0, .ref (ga g (k + 22)), .ref (ga g (k + 23)), .ref (ga g (k + 24)), .int 0, .int 0, .int 0]), .inl (g.2.2.2.1, 8, .inl (fun _ => 0)), .inl (g.2.2.2.1, 8, .inl (fun _ => 0)), .inl (g.2.2.2.1, 8, .inl (fun _ => 0)), .inr (4, [.int 100, .int 200, .int 0, .int 0, .int 0, .int 0, .ref (ga g (k + 26)), .ref (ga g (k + 27)), .ref (ga g (k + 28)), .int 0, .int 0, .int 0]), .inl (g.2.2.2.1, 8, .inl (fun _ => 0)), .inl (g.2.2.2.1, 8, .inl (fun _ => 0)), .inl (g.2.2.2.1, 8, .inl (fun _ => 0)), .inr (4, [.int 100, .int 200, .int 0, .int 0, .int 0, .int 0, .ref (ga g (k + 30)), .ref (ga g (k + 31)), .ref (ga g (k + 32)), .int 0, .int 0, .int 0]), .inl (g.2.2.2.1, 8, .inl (fun _ => 0)), .inl (g.2.2.2.1, 8, .inl (fun _ => 0)), .inl (g.2.2.2.1, 8, .inl (fun _ => 0)), .inr (4, [.int 100, .int 200, .int 0, .int 0, .int 0, .int 0, .ref (ga g (k + 34)), .ref (ga g (k + 35)), .ref (ga g (k + 36)), .int 0, .int 0, .int 0]), .inl (g.2.2.2.1, 8, .inl (fun _ => 0)), .inl (g.2.2.2.1, 8, .inl (fun _ => 0)), .inl (g.2.2.2.1, 8, .inl (fun _ => 0)), .inr (4, [.int 100, .int 200, .int 0, .int 0, .int 0, .int 0, .ref (ga g (k + 38)), .ref (ga g (k + 39)), .ref (ga g (k + 40)), .int 0, .int 0, .int 0]), .inl (g.2.2.2.1, 8, .inl (fun _ => 0)), .inl (g.2.2.2.1, 8, .inl (fun _ => 0)), .inl (g.2.2.2.1, 8, .inl (fun _ => 0)), .inr (4, [.int 100, .int 200, .int 0, .int 0, .int 0, .int 0, .ref (ga g (k + 42)), .ref (ga g (k + 43)), .ref (ga g (k + 44)), .int 0, .int 0, .int 0]), .inl (g.2.2.2.1, 8, .inl (fun _ => 0)), .inl (g.2.2.2.1, 8, .inl (fun _ => 0)), .inl (g.2.2.2.1, 8, .inl (fun _ => 0)), .inr (4, [.int 100, .int 200, .int 0, .int 0, .int 0, .int 0, .ref (ga g (k + 46)), .ref (ga g (k + 47)), .ref (ga g (k + 48)), .int 0, .int 0, .int 0]), .inl (g.2.2.2.1, 8, .inl (fun _ => 0)), .inl (g.2.2.2.1, 8, .inl (fun _ => 0)), .inl (g.2.2.2.1, 8, .inl (fun _ => 0)), .inr (4, [.int 100, .int 200, .int 0, .int 0, .int 0, .int 0, .ref (ga g (k + 50)), .ref (ga g (k + 51)), .ref (ga g (k + 52)), .int 0, .int 0, .int 0]), .inl (g.2.2.2.1, 8, .inl (fun _ => 0)), .inl (g.2.2.2.1, 8, .inl (fun _ => 0)), .inl (g.2.2.2.1, 8, .inl (fun _ => 0)), .inr (4, [.int 100, .int 200, .int 0, .int 0, .int 0, .int 0, .ref (ga g (k + 54)), .ref (ga g (k + 55)), .ref (ga g (k + 56)), .int 0, .int 0, .int 0]), .inl (g.2.2.2.1, 8, .inl (fun _ => 0)), .inl (g.2.2.2.1, 8, .inl (fun _ => 0)), .inl (g.2.2.2.1, 8, .inl (fun _ => 0)), .inr (4, [.int 100, .int 200, .int 0, .int 0, .int 0, .int 0, .ref (ga g (k + 58)), .ref (ga g (k + 59)), .ref (ga g (k + 60)), .int 0, .int 0, .int 0]), .inl (g.2.2.2.1, 8, .inl (fun _ => 0)), .inl (g.2.2.2.1, 8, .inl (fun _ => 0)), .inl (g.2.2.2.1, 8, .inl (fun _ => 0)), .inr (4, [.int 100, .int 200, .int 0, .int 0, .int 0, .int 0, .ref (ga g (k + 62)), .ref (ga g (k + 63)), .ref (ga g (k + 64)), .int 0, .int 0, .int 0]), .inl (g.2.2.2.1, 8, .inl (fun _ => 0)), .inl (g.2.2.2.1, 8, .inl (fun _ => 0)), .inl (g.2.2.2.1, 8, .inl (fun _ => 0)), .inr (4, [.int 100, .int 200, .int 0, .int 0, .int 0, .int 0, .ref (ga g (k + 66)), .ref (ga g (k + 67)), .ref (ga g (k + 68)), .int 0, .int 0, .int 0]), .inl (g.2.2.2.1, 8, .inl (fun _ => 0)), .inl (g.2.2.2.1, 8, .inl (fun _ => 0)), .inl (g.2.2.2.1, 8, .inl (fun _ => 0))] H := hP
  show W p l e rm6_init s m args below meth c H _ 68 677 _ (F0 m 45 ls [.ref (ga g (k + 11)), .ref (ga g k)])
  refine n_putF (i := 0) (j := 3) (ty := (.object RX0)) X hP hS rfl (Nat.le_of_ble_eq_true rfl) rfl inX6 tyX6 tyX6_ok nmX6 (by decide) k_154 rfl hin rfl (by decide +kernel) rfl rfl (Nat.le_of_ble_eq_true rfl) dX6_init_45 (fun H locs hP hS => ?_)
  replace hP : Wz g c0 k [.inr (5, [.ref (ga g (k + 1)), .ref (ga g (k + 3)), .ref (ga g (k + 7)), .ref (ga g (k + 11)), .null, .null, .null]), .inr (3, [.ref (ga g (k + 2)), .int 0, .int 0, .int 0]), .inl (g.2.2.2.1, 80, .inl (fun _ => 0)), .inr (4, [.int 100, .int 200, .int 0, .int 0, .int 0, .int 0, .ref (ga g (k + 4)), .ref (ga g (k + 5)), .ref (ga g (k + 6)), .int 0, .int 0, .int 0]), .inl (g.2.2.2.1, 8, .inl (fun _ => 0)), .inl (g.2.2.2.1, 8, .inl (fun _ => 0)), .inl (g.2.2.2.1, 8, .inl (fun _ => 0)), .inr (4, [.int 100, .int 200, .int 0, .int 0, .int 0, .int 0, .ref (ga g (k + 8)), .ref (ga g (k + 9)), .ref (ga g (k + 10)), .int 0, .int 0, .int 0]), .inl (g.2.2.2.1, 8, .inl (fun _ => 0)), .inl (g.2.2.2.1, 8, .inl (fun _ => 0)), .inl (g.2.2.2.1, 8, .inl (fun _ => 0)), .inr (0, [.ref (ga g (k + 12)), .int 0, .int 0]), .inl (g.2.2.2.2.2, 14, .inr (.inr (.inr (.inr (fun j => some (ga g (k + 13 + 4 * j))))))), .inr (4, [.int 100, .int 200, .int 0, .int 0, .int 0, .int 0, .ref (ga g (k + 14)), .ref (ga g (k + 15)), .ref (ga g (k + 16)), .int 0, .int 0, .int 0]), .inl (g.2.2.2.1, 8, .inl (fun _ => 0)), .inl (g.2.2.2.1, 8, .inl (fun _ => 0)), .inl (g.2.2.2.1, 8, .inl (fun _ => 0)), .inr (4, [.int 100, .int 200, .int 0, .int 0, .int 0, .int 0, .ref (ga g (k + 18)), .ref (ga g (k + 19)), .ref (ga g (k + 20)), .int 0, .int 0, .int 0]), .inl (g.2.2.2.1, 8, .inl (fun _ => 0)), .inl (g.2.2.2.1, 8, .inl (fun _ => 0)), .inl (g.2.2.2.1, 8, .inl (fun _ => 0)), .inr (4, [.int 100, .int 200, .int 0, .int 0, .int 0, .int 0, .ref (ga g (k + 22)), .ref (ga g (k + 23)), .ref (ga g (k + 24)), .int 0, .int 0, .int 0]), .inl (g.2.2.2.1, 8, .inl (fun _ => 0)), .inl (g.2.2.2.1, 8, .inl (fun _ => 0)), .inl (g.2.2.2.1, 8, .inl (fun _ => 0)), .inr (4, [.int 100, .int 200, .int 0, .int 0, .int 0, .int 0, .ref (ga g (k + 26)), .ref (ga g (k + 27)), .ref (ga g (k + 28)), .int 0, .int 0, .int 0]), .inl (g.2.2.2.1, 8, .inl (fun _ => 0)), .inl (g.2.2.2.1, 8, .inl (fun _ => 0)), .inl (g.2.2.2.1, 8, .inl (fun _ => 0)), .inr (4, [.int 100, .int 200, .int 0, .int 0, .int 0, .int 0, .ref (ga g (k + 30)), .ref (ga g (k + 31)), .ref (ga g (k + 32)), .int 0, .int 0, .int 0]), .inl (g.2.2.2.1, 8, .inl (fun _ => 0)), .inl (g.2.2.2.1, 8, .inl (fun _ => 0)), .inl (g.2.2.2.1, 8, .inl (fun _ => 0)), .inr (4, [.int 100, .int 200, .int 0, .int 0, .int 0, .int 0, .ref (ga g (k + 34)), .ref (ga g (k + 35)), .ref (ga g (k + 36)), .int 0, .int 0, .int 0]), .inl (g.2.2.2.1, 8, .inl (fun _ => 0)), .inl (g.2.2.2.1, 8, .inl (fun _ => 0)), .inl (g.2.2.2.1, 8, .inl (fun _ => 0)), .inr (4, [.int 100, .int 200, .int 0, .int 0, .int 0, .int 0, .ref (ga g (k + 38)), .ref (ga g (k + 39)), .ref (ga g (k + 40)), .int 0, .int 0, .int 0]), .inl (g.2.2.2.1, 8, .inl (fun _ => 0)), .inl (g.2.2.2.1, 8, .inl (fun _ => 0)), .inl (g.2.2.2.1, 8, .inl (fun _ => 0)), .inr (4, [.int 100, .int 200, .int 0, .int 0, .int 0, .int 0, .ref (ga g (k + 42)), .ref (ga g (k + 43)), .ref (ga g (k + 44)), .int 0, .int 0, .int 0]), .inl (g.2.2.2.1, 8, .inl (fun _ => 0)), .inl (g.2.2.2.1, 8, .inl (fun _ => 0)), .inl (g.2.2.2.1, 8, .inl (fun _ => 0)), .inr (4, [.int 100, .int 200, .int 0, .int 0, .int 0, .int 0, .ref (ga g (k + 46)), .ref (ga g (k + 47)), .ref (ga g (k + 48)), .int 0, .int 0, .int 0]), .inl (g.2.2.2.1, 8, .inl (fun _ => 0)), .inl (g.2.2.2.1, 8, .inl (fun _ => 0)), .inl (g.2.2.2.1, 8, .inl (fun _ => 0)), .inr (4, [.int 100, .int 200, .int 0, .int 0, .int 0, .int 0, .ref (ga g (k + 50)), .ref (ga g (k + 51)), .ref (ga g (k + 52)), .int 0, .int 0, .int 0]), .inl (g.2.2.2.1, 8, .inl (fun _ => 0)), .inl (g.2.2.2.1, 8, .inl (fun _ => 0)), .inl (g.2.2.2.1, 8, .inl (fun _ => 0)), .inr (4, [.int 100, .int 200, .int 0, .int 0, .int 0, .int 0, .ref (ga g (k + 54)), .ref (ga g (k + 55)), .ref (ga g (k + 56)), .int 0, .int 0, .int 0]), .inl (g.2.2.2.1, 8, .inl (fun _ => 0)), .inl (g.2.2.2.1, 8, .inl (fun _ => 0)), .inl (g.2.2.2.1, 8, .inl (fun _ => 0)), .inr (4, [.int 100, .int 200, .int 0, .int 0, .int 0, .int 0, .ref (ga g (k + 58)), .ref (ga g (k + 59)), .ref (ga g (k + 60)), .int 0, .int 0, .int 0]), .inl (g.2.2.2.1, 8, .inl (fun _ => 0)), .inl (g.2.2.2.1, 8, .inl (fun _ => 0)), .inl (g.2.2.2.1, 8, .inl (fun _ => 0)), .inr (4, [.int 100, .int 200, .int 0, .int 0, .int 0, .int 0, .ref (ga g (k + 62)), .ref (ga g (k + 63)), .ref (ga g (k + 64)), .int 0, .int 0, .int 0]), .inl (g.2.2.2.1, 8, .inl (fun _ => 0)), .inl (g.2.2.2.1, 8, .inl (fun _ => 0)), .inl (g.2.2.2.1, 8, .inl (fun _ => 0)), .inr (4, [.int 100, .int 200, .int 0, .int 0, .int 0, .int 0, .ref (ga g (k + 66)), .ref (ga g (k + 67)), .ref (ga g (k + 68)), .int 0, .int 0, .int 0]), .inl (g.2.2.2.1, 8, .inl (fun _ => 0)), .inl (g.2.2.2.1, 8, .inl (fun _ => 0)), .inl (g.2.2.2.1, 8, .inl (fun _ => 0))] H := hP
  refine lv_aload_n hx hb dX6_init_48 rfl (lv_at hl 0 rfl) ?_
  refine n_new (ci := 2) (fs := [.null, .int 0]) X hP hS (by show k + 1 + 68 = k + 69; omega) rfl inX3 tyX3 tyX3_ok kx_111 kx_112 kx_5 (fun j hj => by rcases (show j = 0 ∨ j = 1 by omega) with rfl | rfl <;> rfl) (Nat.le_of_ble_eq_true rfl) (Nat.le_of_ble_eq_true rfl) dX6_init_49 (fun H hP hS => ?_)
  replace hP : Wz g c0 k [.inr (5, [.ref (ga g (k + 1)), .ref (ga g (k + 3)), .ref (ga g (k + 7)), .ref (ga g (k + 11)), .null, .null, .null]), .inr (3, [.ref (ga g (k + 2)), .int 0, .int 0, .int 0]), .inl (g.2.2.2.1, 80, .inl (fun _ => 0)), .inr (4, [.int 100, .int 200, .int 0, .int 0, .int 0, .int 0, .ref (ga g (k + 4)), .ref (ga g (k + 5)), .ref (ga g (k + 6)), .int 0, .int 0, .int 0]), .inl (g.2.2.2.1, 8, .inl (fun _ => 0)), .inl (g.2.2.2.1, 8, .inl (fun _ => 0)), .inl (g.2.2.2.1, 8, .inl (fun _ => 0)), .inr (4, [.int 100, .int 200, .int 0, .int 0, .int 0, .int 0, .ref (ga g (k + 8)), .ref (ga g (k + 9)), .ref (ga g (k + 10)), .int 0, .int 0, .int 0]), .inl (g.2.2.2.1, 8, .inl (fun _ => 0)), .inl (g.2.2.2.1, 8, .inl (fun _ => 0)), .inl (g.2.2.2.1, 8, .inl (fun _ => 0)), .inr (0, [.ref (ga g (k + 12)), .int 0, .int 0]), .inl (g.2.2.2.2.2, 14, .inr (.inr (.inr (.inr (fun j => some (ga g (k + 13 + 4 * j))))))), .inr (4, [.int 100, .int 200, .int 0, .int 0, .int 0, .int 0, .ref (ga g (k + 14)), .ref (ga g (k + 15)), .ref (ga g (k + 16)), .int 0, .int 0, .int 0]), .inl (g.2.2.2.1, 8, .inl (fun _ => 0)), .inl (g.2.2.2.1, 8, .inl (fun _ => 0)), .inl (g.2.2.2.1, 8, .inl (fun _ => 0)), .inr (4, [.int 100, .int 200, .int 0, .int 0, .int 0, .int 0, .ref (ga g (k + 18)), .ref (ga g (k + 19)), .ref (ga g (k + 20)), .int 0, .int 0, .int 0]), .inl (g.2.2.2.1, 8, .inl (fun _ => 0)), .inl (g.2.2.2.1, 8, .inl (fun _ => 0)), .inl (g.2.2.2.1, 8, .inl (fun _ => 0)), .inr (4, [.int 100, .int 200, .int 0, .int 0, .int 0, .int 0, .ref (ga g (k + 22)), .ref (ga g (k + 23)), .ref (ga g (k + 24)), .int 0, .int 0, .int 0]), .inl (g.2.2.2.1, 8, .inl (fun _ => 0)), .inl (g.2.2.2.1, 8, .inl (fun _ => 0)), .inl (g.2.2.2.1, 8, .inl (fun _ => 0)), .inr (4, [.int 100, .int 200, .int 0, .int 0, .int 0, .int 0, .ref (ga g (k + 26)), .ref (ga g (k + 27)), .ref (ga g (k + 28)), .int 0, .int 0, .int 0]), .inl (g.2.2.2.1, 8, .inl (fun _ => 0)), .inl (g.2.2.2.1, 8, .inl (fun _ => 0)), .inl (g.2.2.2.1, 8, .inl (fun _ => 0)), .inr (4, [.int 100, .int 200, .int 0, .int 0, .int 0, .int 0, .ref (ga g (k + 30)), .ref (ga g (k + 31)), .ref (ga g (k + 32)), .int 0, .int 0, .int 0]), .inl (g.2.2.2.1, 8, .inl (fun _ => 0)), .inl (g.2.2.2.1, 8, .inl (fun _ => 0)), .inl (g.2.2.2.1, 8, .inl (fun _ => 0)), .inr (4, [.int 100, .int 200, .int 0, .int 0, .int 0, .int 0, .ref (ga g (k + 34)), .ref (ga g (k + 35)), .ref (ga g (k + 36)), .int 0, .int 0, .int 0]), .inl (g.2.2.2.1, 8, .inl (fun _ => 0)), .inl (g.2.2.2.1, 8, .inl (fun _ => 0)), .inl (g.2.2.2.1, 8, .inl (fun _ => 0)), .inr (4, [.int 100, .int 200, .int 0, .int 0, .int 0, .int 0, .ref (ga g (k + 38)), .ref (ga g (k + 39)), .ref (ga g (k + 40)), .int 0, .int 0, .int 0]), .inl (g.2.2.2.1, 8, .inl (fun _ => 0)), .inl (g.2.2.2.1, 8, .inl (fun _ => 0)), .inl (g.2.2.2.1, 8, .inl (fun _ => 0)), .inr (4, [.int 100, .int 200, .int 0, .int 0, .int 0, .int 0, .ref (ga g (k + 42)), .ref (ga g (k + 43)), .ref (ga g (k + 44)), .int 0, .int 0, .int 0]), .inl (g.2.2.2.1, 8, .inl (fun _ => 0)), .inl (g.2.2.2.1, 8, .inl (fun _ => 0)), .inl (g.2.2.2.1, 8, .inl (fun _ => 0)), .inr (4, [.int 100, .int 200, .int 0, .int 0, .int 0, .int 0, .ref (ga g (k + 46)), .ref (ga g (k + 47)), .ref (ga g (k + 48)), .int 0, .int 0, .int 0]), .inl (g.2.2.2.1, 8, .inl (fun _ => 0)), .inl (g.2.2.2.1, 8, .inl (fun _ => 0)), .inl (g.2.2.2.1, 8, .inl (fun _ => 0)), .inr (4, [.int 100, .int 200, .int 0, .int 0, .int 0, .int 0, .ref (ga g (k + 50)), .ref (ga g (k + 51)), .ref (ga g (k + 52)), .int 0, .int 0, .int 0]), .inl (g.2.2.2.1, 8, .inl (fun _ => 0)), .inl (g.2.2.2.1, 8, .inl (fun _ => 0)), .inl (g.2.2.2.1, 8, .inl (fun _ => 0)), .inr (4, [.int 100, .int 200, .int 0, .int 0, .int 0, .int 0, .ref (ga g (k + 54)), .ref (ga g (k + 55)), .ref (ga g (k + 56)), .int 0, .int 0, .int 0]), .inl (g.2.2.2.1, 8, .inl (fun _ => 0)), .inl (g.2.2.2.1, 8, .inl (fun _ => 0)), .inl (g.2.2.2.1, 8, .inl (fun _ => 0)), .inr (4, [.int 100, .int 200, .int 0, .int 0, .int 0, .int 0, .ref (ga g (k + 58)), .ref (ga g (k + 59)), .ref (ga g (k + 60)), .int 0, .int 0, .int 0]), .inl (g.2.2.2.1, 8, .inl (fun _ => 0)), .inl (g.2.2.2.1, 8, .inl (fun _ => 0)), .inl (g.2.2.2.1, 8, .inl (fun _ => 0)), .inr (4, [.int 100, .int 200, .int 0, .int 0, .int 0, .int 0, .ref (ga g (k + 62)), .ref (ga g (k + 63)), .ref (ga g (k + 64)), .int 0, .int 0, .int 0]), .inl (g.2.2.2.1, 8, .inl (fun _ => 0)), .inl (g.2.2.2.1, 8, .inl (fun _ => 0)), .inl (g.2.2.2.1, 8, .inl (fun _ => 0)), .inr (4, [.int 100, .int 200, .int 0, .int 0, .int 0, .int 0, .ref (ga g (k + 66)), .ref (ga g (k + 67)), .ref (ga g (k + 68)), .int 0, .int 0, .int 0]), .inl (g.2.2.2.1, 8, .inl (fun _ => 0)), .inl (g.2.2.2.1, 8, .inl (fun _ => 0)), .inl (g.2.2.2.1, 8, .inl (fun _ => 0)), .inr (2, [.null, .int 0])] H := hP
  show W p l e rm6_init s m args below meth c H _ 69 679 _ (F0 m 52 ls [.ref (ga g (k + 69)), .ref (ga g k)])
  refine lv_dup hx hb dX6_init_52 rfl ?_
  refine n_callN (mc := 4) (ms := 36) (rest := [.ref (ga g (k + 69)), .ref (ga g k)]) [.inr (5, [.ref (ga g (k + 1)), .ref (ga g (k + 3)), .ref (ga g (k + 7)), .ref (ga g (k + 11)), .null, .null, .null]), .inr (3, [.ref (ga g (k + 2)), .int 0, .int 0, .int 0]), .inl (g.2.2.2.1, 80, .inl (fun _ => 0)), .inr (4, [.int 100, .int 200, .int 0, .int 0, .int 0, .int 0, .ref (ga g (k + 4)), .ref (ga g (k + 5)), .ref (ga g (k + 6)), .int 0, .int 0, .int 0]), .inl (g.2.2.2.1, 8, .inl (fun _ => 0)), .inl (g.2.2.2.1, 8, .inl (fun _ => 0)), .inl (g.2.2.2.1, 8, .inl (fun _ => 0)), .inr (4, [.int 100, .int 200, .int 0, .int 0, .int 0, .int 0, .ref (ga g (k + 8)), .ref (ga g (k + 9)), .ref (ga g (k + 10)), .int 0, .int 0, .int 0]), .inl (g.2.2.2.1, 8, .inl (fun _ => 0)), .inl (g.2.2.2.1, 8, .inl (fun _ => 0)), .inl (g.2.2.2.1, 8, .inl (fun _ => 0)), .inr (0, [.ref (ga g (k + 12)), .int 0, .int 0]), .inl (g.2.2.2.2.2, 14, .inr (.inr (.inr (.inr (fun j => some (ga g (k + 13 + 4 * j))))))), .inr (4, [.int 100, .int 200, .int 0, .int 0, .int 0, .int 0, .ref (ga g (k + 14)), .ref (ga g (k + 15)), .ref (ga g (k + 16)), .int 0, .int 0, .int 0]), .inl (g.2.2.2.1, 8, .inl (fun _ => 0)), .inl (g.2.2.2.1, 8, .inl (fun _ => 0)), .inl (g.2.2.2.1, 8, .inl (fun _ => 0)), .inr (4, [.int 100, .int 200, .int 0, .int 0, .int 0, .int 0, .ref (ga g (k + 18)), .ref (ga g (k + 19)), .ref (ga g (k + 20)), .int 0, .int 0, .int 0]), .inl (g.2.2.2.1, 8, .inl (fun _ => 0)), .inl (g.2.2.2.1, 8, .inl (fun _ => 0)), .inl (g.2.2.2.1, 8, .inl (fun _ => 0)), .inr (4, [.int 100, .int 200, .int 0, .int 0, .int 0, .int 0, .ref (ga g (k + 22)), .ref (ga g (k + 23)), .ref (ga g (k + 24)), .int 0, .int 0, .int 0]), .inl (g.2.2.2.1, 8, .inl (fun _ => 0)), .inl (g.2.2.2.1, 8, .inl (fun _ => 0)), .inl (g.2.2.2.1, 8, .inl (fun _ => 0)), .inr (4, [.int 100, .int 200, .int 0, .int 0, .int 0, .int 0, .ref (ga g (k + 26)), .ref (ga g (k + 27)), .ref (ga g (k + 28)), .int 0, .int 0, .int 0]), .inl (g.2.2.2.1, 8, .inl (fun _ => 0)), .inl (g.2.2.2.1, 8, .inl (fun _ => 0)), .inl (g.2.2.2.1, 8, .inl (fun _ => 0)), .inr (4, [.int 100, .int 200, .int 0, .int 0, .int 0, .int 0, .ref (ga g (k + 30)), .ref (ga g (k + 31)), .ref (ga g (k + 32)), .int 0, .int 0, .int 0]), .inl (g.2.2.2.1, 8, .inl (fun _ => 0)), .inl (g.2.2.2.1, 8, .inl (fun _ => 0)), .inl (g.2.2.2.1, 8, .inl (fun _ => 0)), .inr (4, [.int 100, .int 200, .int 0, .int 0, .int 0, .int 0, .ref (ga g (k + 34)), .ref (ga g (k + 35)), .ref (ga g (k + 36)), .int 0, .int 0, .int 0]), .inl (g.2.2.2.1, 8, .inl (fun _ => 0)), .inl (g.2.2.2.1, 8, .inl (fun _ => 0)), .inl (g.2.2.2.1, 8, .inl (fun _ => 0)), .inr (4, [.int 100, .int 200, .int 0, .int 0, .int 0, .int 0, .ref (ga g (k + 38)), .ref (ga g (k + 39)), .ref (ga g (k + 40)), .int 0, .int 0, .int 0]), .inl (g.2.2.2.1, 8, .inl (fun _ => 0)), .inl (g.2.2.2.1, 8, .inl (fun _ => 0)), .inl (g.2.2.2.1, 8, .inl (fun _ => 0)), .inr (4, [.int 100, .int 200, .int 0, .int 0, .int 0, .int 0, .ref (ga g (k + 42)), .ref (ga g (k + 43)), .ref (ga g (k + 44)), .int 0, .int 0, .int 0]), .inl (g.2.2.2.1, 8, .inl (fun _ => 0)), .inl (g.2.2.2.1, 8, .inl (fun _ => 0)), .inl (g.2.2.2.1, 8, .inl (fun _ => 0)), .inr (4, [.int 100, .int 200, .int 0, .int 0, .int 0, .int 0, .ref (ga g (k + 46)), .ref (ga g (k + 47)), .ref (ga g (k + 48)), .int 0, .int 0, .int 0]), .inl (g.2.2.2.1, 8, .inl (fun _ => 0)), .inl (g.2.2.2.1, 8, .inl (fun _ => 0)), .inl (g.2.2.2.1, 8, .inl (fun _ => 0)), .inr (4, [.int 100, .int 200, .int 0, .int 0, .int 0, .int 0, .ref (ga g (k + 50)), .ref (ga g (k + 51)), .ref (ga g (k + 52)), .int 0, .int 0, .int 0]), .inl (g.2.2.2.1, 8, .inl (fun _ => 0)), .inl (g.2.2.2.1, 8, .inl (fun _ => 0)), .inl (g.2.2.2.1, 8, .inl (fun _ => 0)), .inr (4, [.int 100, .int 200, .int 0, .int 0, .int 0, .int 0, .ref (ga g (k + 54)), .ref (ga g (k + 55)), .ref (ga g (k + 56)), .int 0, .int 0, .int 0]), .inl (g.2.2.2.1, 8, .inl (fun _ => 0)), .inl (g.2.2.2.1, 8, .inl (fun _ => 0)), .inl (g.2.2.2.1, 8, .inl (fun _ => 0)), .inr (4, [.int 100, .int 200, .int 0, .int 0, .int 0, .int 0, .ref (ga g (k + 58)), .ref (ga g (k + 59)), .ref (ga g (k + 60)), .int 0, .int 0, .int 0]), .inl (g.2.2.2.1, 8, .inl (fun _ => 0)), .inl (g.2.2.2.1, 8, .inl (fun _ => 0)), .inl (g.2.2.2.1, 8, .inl (fun _ => 0)), .inr (4, [.int 100, .int 200, .int 0, .int 0, .int 0, .int 0, .ref (ga g (k + 62)), .ref (ga g (k + 63)), .ref (ga g (k + 64)), .int 0, .int 0, .int 0]), .inl (g.2.2.2.1, 8, .inl (fun _ => 0)), .inl (g.2.2.2.1, 8, .inl (fun _ => 0)), .inl (g.2.2.2.1, 8, .inl (fun _ => 0)), .inr (4, [.int 100, .int 200, .int 0, .int 0, .int 0, .int 0, .ref (ga g (k + 66)), .ref (ga g (k + 67)), .ref (ga g (k + 68)), .int 0, .int 0, .int 0]), .inl (g.2.2.2.1, 8, .inl (fun _ => 0)), .inl (g.2.2.2.1, 8, .inl (fun _ => 0)), .inl (g.2.2.2.1, 8, .inl (fun _ => 0))] [.inr (2, [.null, .int 0])] [.inr (2, [.ref (ga g (k + 70)), .int 0]), .inr (4, [.int 100, .int 200, .int 0, .int 0, .int 0, .int 0, .ref (ga g (k + 71)), .ref (ga g (k + 72)), .ref (ga g (k + 73)), .int 0, .int 0, .int 0]), .inl (g.2.2.2.1, 8, .inl (fun _ => 0)), .inl (g.2.2.2.1, 8, .inl (fun _ => 0)), .inl (g.2.2.2.1, 8, .inl (fun _ => 0))] X (c3_init l g hg _ _) rfl cal_X3_init im_X3_init X.2.2.2.2.2.2.2.1 rfl ⟨rfl, rfl⟩ ⟨Nat.le_of_ble_eq_true rfl, Nat.le_of_ble_eq_true rfl⟩ hP hS (by show k + 1 + 69 = k + 70; omega) (Nat.succ_pos _) hl.1 (Nat.le_of_ble_eq_true rfl) dX6_init_53 ⟨Nat.le_of_ble_eq_true rfl, Nat.le_of_ble_eq_true rfl⟩ (fun H locs hP hS => ?_)
  replace hP : Wz g c0 k [.inr (5, [.ref (ga g (k + 1)), .ref (ga g (k + 3)), .ref (ga g (k + 7)), .ref (ga g (k + 11)), .null, .null, .null]), .inr (3, [.ref (ga g (k + 2)), .int 0, .int 0, .int 0]), .inl (g.2.2.2.1, 80, .inl (fun _ => 0)), .inr (4, [.int 100, .int 200, .int 0, .int 0, .int 0, .int 0, .ref (ga g (k + 4)), .ref (ga g (k + 5)), .ref (ga g (k + 6)), .int 0, .int 0, .int 0]), .inl (g.2.2.2.1, 8, .inl (fun _ => 0)), .inl (g.2.2.2.1, 8, .inl (fun _ => 0)), .inl (g.2.2.2.1, 8, .inl (fun _ => 0)), .inr (4, [.int 100, .int 200, .int 0, .int 0, .int 0, .int 0, .ref (ga g (k + 8)), .ref (ga g (k + 9)), .ref (ga g (k + 10)), .int 0, .int 0, .int 0]), .inl (g.2.2.2.1, 8, .inl (fun _ => 0)), .inl (g.2.2.2.1, 8, .inl (fun _ => 0)), .inl (g.2.2.2.1, 8, .inl (fun _ => 0)), .inr (0, [.ref (ga g (k + 12)), .int 0, .int 0]), .inl (g.2.2.2.2.2, 14, .inr (.inr (.inr (.inr (fun j => some (ga g (k + 13 + 4 * j))))))), .inr (4, [.int 100, .int 200, .int 0, .int 0, .int 0, .int 0, .ref (ga g (k + 14)), .ref (ga g (k + 15)), .ref (ga g (k + 16)), .int 0, .int 0, .int 0]), .inl (g.2.2.2.1, 8, .inl (fun _ => 0)), .inl (g.2.2.2.1, 8, .inl (fun _ => 0)), .inl (g.2.2.2.1, 8, .inl (fun _ => 0)), .inr (4, [.int 100, .int 200, .int 0, .int 0, .int 0, .int 0, .ref (ga g (k + 18)), .ref (ga g (k + 19)), .ref (ga g (k + 20)), .int 0, .int 0, .int 0]), .inl (g.2.2.2.1, 8, .inl (fun _ => 0)), .inl (g.2.2.2.1, 8, .inl (fun _ => 0)), .inl (g.2.2.2.1, 8, .inl (fun _ => 0)), .inr (4, [.int 100, .int 200, .int 0, .int 0, .int 0, .int 0, .ref (ga g (k + 22)), .ref (ga g (k + 23)), .ref (ga g (k + 24)), .int 0, .int 0, .int 0]), .inl (g.2.2.2.1, 8, .inl (fun _ => 0)), .inl (g.2.2.2.1, 8, .inl (fun _ => 0)), .inl (g.2.2.2.1, 8, .inl (fun _ => 0)), .inr (4, [.int 100, .int 200, .int 0, .int 0, .int 0, .int 0, .ref (ga g (k + 26)), .ref (ga g (k + 27)), .ref (ga g (k + 28)), .int 0, .int 0, .int 0]), .inl (g.2.2.2.1, 8, .inl (fun _ => 0)), .inl (g.2.2.2.1, 8, .inl (fun _ => 0)), .inl (g.2.2.2.1, 8, .inl (fun _ => 0)), .inr (4, [.int 100, .int 200, .int 0, .int 0, .int 0, .int 0, .ref (ga g (k + 30)), .ref (ga g (k + 31)), .ref (ga g (k + 32)), .int 0, .int 0, .int 0]), .inl (g.2.2.2.1, 8, .inl (fun _ => 0)), .inl (g.2.2.2.1, 8, .inl (fun _ => 0)), .inl (g.2.2.2.1, 8, .inl (fun _ => 0)), .inr (4, [.int 100, .int 200, .int 0, .int 0, .int 0, .int 0, .ref (ga g (k + 34)), .ref (ga g (k + 35)), .ref (ga g (k + 36)), .int 0, .int 0, .int 0]), .inl (g.2.2.2.1, 8, .inl (fun _ => 0)), .inl (g.2.2.2.1, 8, .inl (fun _ => 0)), .inl (g.2.2.2.1, 8, .inl (fun _ => 0)), .inr (4, [.int 100, .int 200, .int 0, .int 0, .int 0, .int 0, .ref (ga g (k + 38)), .ref (ga g (k + 39)), .ref (ga g (k + 40)), .int 0, .int 0, .int 0]), .inl (g.2.2.2.1, 8, .inl (fun _ => 0)), .inl (g.2.2.2.1, 8, .inl (fun _ => 0)), .inl (g.2.2.2.1, 8, .inl (fun _ => 0)), .inr (4, [.int 100, .int 200, .int 0, .int 0, .int 0, .int 0, .ref (ga g (k + 42)), .ref (ga g (k + 43)), .ref (ga g (k + 44)), .int 0, .int 0, .int 0]), .inl (g.2.2.2.1, 8, .inl (fun _ => 0)), .inl (g.2.2.2.1, 8, .inl (fun _ => 0)), .inl (g.2.2.2.1, 8, .inl (fun _ => 0)), .inr (4, [.int 100, .int 200, .int 0, .int 0, .int 0, .int 0, .ref (ga g (k + 46)), .ref (ga g (k + 47)), .ref (ga g (k + 48)), .int 0, .int 0, .int 0]), .inl (g.2.2.2.1, 8, .inl (fun _ => 0)), .inl (g.2.2.2.1, 8, .inl (fun _ => 0)), .inl (g.2.2.2.1, 8, .inl (fun _ => 0)), .inr (4, [.int 100, .int 200, .int 0, .int 0, .int 0, .int 0, .ref (ga g (k + 50)), .ref (ga g (k + 51)), .ref (ga g (k + 52)), .int 0, .int 0, .int 0]), .inl (g.2.2.2.1, 8, .inl (fun _ => 0)), .inl (g.2.2.2.1, 8, .inl (fun _ => 0)), .inl (g.2.2.2.1, 8, .inl (fun _ => 0)), .inr (4, [.int 100, .int 200, .int 0, .int 0, .int 0, .int 0, .ref (ga g (k + 54)), .ref (ga g (k + 55)), .ref (ga g (k + 56)), .int 0, .int 0, .int 0]), .inl (g.2.2.2.1, 8, .inl (fun _ => 0)), .inl (g.2.2.2.1, 8, .inl (fun _ => 0)), .inl (g.2.2.2.1, 8, .inl (fun _ => 0)), .inr (4, [.int 100, .int 200, .int 0, .int 0, .int 0, .int 0, .ref (ga g (k + 58)), .ref (ga g (k + 59)), .ref (ga g (k + 60)), .int 0, .int 0, .int 0]), .inl (g.2.2.2.1, 8, .inl (fun _ => 0)), .inl (g.2.2.2.1, 8, .inl (fun _ => 0)), .inl (g.2.2.2.1, 8, .inl (fun _ => 0)), .inr (4, [.int 100, .int 200, .int 0, .int 0, .int 0, .int 0, .ref (ga g (k + 62)), .ref (ga g (k + 63)), .ref (ga g (k + 64)), .int 0, .int 0, .int 0]), .inl (g.2.2.2.1, 8, .inl (fun _ => 0)), .inl (g.2.2.2.1, 8, .inl (fun _ => 0)), .inl (g.2.2.2.1, 8, .inl (fun _ => 0)), .inr (4, [.int 100, .int 200, .int 0, .int 0, .int 0, .int 0, .ref (ga g (k + 66)), .ref (ga g (k + 67)), .ref (ga g (k + 68)), .int 0, .int 0, .int 0]), .inl (g.2.2.2.1, 8, .inl (fun _ => 0)), .inl (g.2.2.2.1, 8, .inl (fun _ => 0)), .inl (g.2.2.2.1, 8, .inl (fun _ => 0)), .inr (2, [.ref (ga g (k + 70)), .int 0]), .inr (4, [.int 100, .int 200, .int 0, .int 0, .int 0, .int 0, .ref (ga g (k + 71)), .ref (ga g (k + 72)), .ref (ga g (k + 73)), .int 0, .int 0, .int 0]), .inl (g.2.2.2.1, 8, .inl (fun _ => 0)), .inl (g.2.2.2.1, 8, .inl (fun _ => 0)), .inl (g.2.2.2.1, 8, .inl (fun _ => 0))] H := hP
  show W p l e rm6_init s m args below meth c H _ 73 715 _ (F0 m 56 ls [.ref (ga g (k + 69)), .ref (ga g k)])
  refine n_putF (i := 0) (j := 4) (ty := (.object RX3)) X hP hS rfl (Nat.le_of_ble_eq_true rfl) rfl inX6 tyX6 tyX6_ok nmX6 (by decide) k_155 rfl hin rfl (by decide +kernel) rfl rfl (Nat.le_of_ble_eq_true rfl) dX6_init_56 (fun H locs hP hS => ?_)
  replace hP : Wz g c0 k [.inr (5, [.ref (ga g (k + 1)), .ref (ga g (k + 3)), .ref (ga g (k + 7)), .ref (ga g (k + 11)), .ref (ga g (k + 69)), .null, .null]), .inr (3, [.ref (ga g (k + 2)), .int 0, .int 0, .int 0]), .inl (g.2.2.2.1, 80, .inl (fun _ => 0)), .inr (4, [.int 100, .int 200, .int 0, .int 0, .int 0, .int 0, .ref (ga g (k + 4)), .ref (ga g (k + 5)), .ref (ga g (k + 6)), .int 0, .int 0, .int 0]), .inl (g.2.2.2.1, 8, .inl (fun _ => 0)), .inl (g.2.2.2.1, 8, .inl (fun _ => 0)), .inl (g.2.2.2.1, 8, .inl (fun _ => 0)), .inr (4, [.int 100, .int 200, .int 0, .int 0, .int 0, .int 0, .ref (ga g (k + 8)), .ref (ga g (k + 9)), .ref (ga g (k + 10)), .int 0, .int 0, .int 0]), .inl (g.2.2.2.1, 8, .inl (fun _ => 0)), .inl (g.2.2.2.1, 8, .inl (fun _ => 0)), .inl (g.2.2.2.1, 8, .inl (fun _ => 0)), .inr (0, [.ref (ga g (k + 12)), .int 0, .int 0]), .inl (g.2.2.2.2.2, 14, .inr (.inr (.inr (.inr (fun j => some (ga g (k + 13 + 4 * j))))))), .inr (4, [.int 100, .int 200, .int 0, .int 0, .int 0, .int 0, .ref (ga g (k + 14)), .ref (ga g (k + 15)), .ref (ga g (k + 16)), .int 0, .int 0, .int 0]), .inl (g.2.2.2.1, 8, .inl (fun _ => 0)), .inl (g.2.2.2.1, 8, .inl (fun _ => 0)), .inl (g.2.2.2.1, 8, .inl (fun _ => 0)), .inr (4, [.int 100, .int 200, .int 0, .int 0, .int 0, .int 0, .ref (ga g (k + 18)), .ref (ga g (k + 19)), .ref (ga g (k + 20)), .int 0, .int 0, .int 0]), .inl (g.2.2.2.1, 8, .inl (fun _ => 0)), .inl (g.2.2.2.1, 8, .inl (fun _ => 0)), .inl (g.2.2.2.1, 8, .inl (fun _ => 0)), .inr (4, [.int 100, .int 200, .int 0, .int 0, .int 0, .int 0, .ref (ga g (k + 22)), .ref (ga g (k + 23)), .ref (ga g (k + 24)), .int 0, .int 0, .int 0]), .inl (g.2.2.2.1, 8, .inl (fun _ => 0)), .inl (g.2.2.2.1, 8, .inl (fun _ => 0)), .inl (g.2.2.2.1, 8, .inl (fun _ => 0)), .inr (4, [.int 100, .int 200, .int 0, .int 0, .int 0, .int 0, .ref (ga g (k + 26)), .ref (ga g (k + 27)), .ref (ga g (k + 28)), .int 0, .int 0, .int 0]), .inl (g.2.2.2.1, 8, .inl (fun _ => 0)), .inl (g.2.2.2.1, 8, .inl (fun _ => 0)), .inl (g.2.2.2.1, 8, .inl (fun _ => 0)), .inr (4, [.int 100, .int 200, .int 0, .int 0, .int 0, .int 0, .ref (ga g (k + 30)), .ref (ga g (k + 31)), .ref (ga g (k + 32)), .int 0, .int 0, .int 0]), .inl (g.2.2.2.1, 8, .inl (fun _ => 0)), .inl (g.2.2.2.1, 8, .inl (fun _ => 0)), .inl (g.2.2.2.1, 8, .inl (fun _ => 0)), .inr (4, [.int 100, .int 200, .int 0, .int 0, .int 0, .int 0, .ref (ga g (k + 34)), .ref (ga g (k + 35)), .ref (ga g (k + 36)), .int 0, .int 0, .int 0]), .inl (g.2.2.2.1, 8, .inl (fun _ => 0)), .inl (g.2.2.2.1, 8, .inl (fun _ => 0)), .inl (g.2.2.2.1, 8, .inl (fun _ => 0)), .inr (4, [.int 100, .int 200, .int 0, .int 0, .int 0, .int 0, .ref (ga g (k + 38)), .ref (ga g (k + 39)), .ref (ga g (k + 40)), .int 0, .int 0, .int 0]), .inl (g.2.2.2.1, 8, .inl (fun _ => 0)), .inl (g.2.2.2.1, 8, .inl (fun _ => 0)), .inl (g.2.2.2.1, 8, .inl (fun _ => 0)), .inr (4, [.int 100, .int 200, .int 0, .int 0, .int 0, .int 0, .ref (ga g (k + 42)), .ref (ga g (k + 43)), .ref (ga g (k + 44)), .int 0, .int 0, .int 0]), .inl (g.2.2.2.1, 8, .inl (fun _ => 0)), .inl (g.2.2.2.1, 8, .inl (fun _ => 0)), .inl (g.2.2.2.1, 8, .inl (fun _ => 0)), .inr (4, [.int 100, .int 200, .int 0, .int 0, .int 0, .int 0, .ref (ga g (k + 46)), .ref (ga g (k + 47)), .ref (ga g (k + 48)), .int 0, .int 0, .int 0]), .inl (g.2.2.2.1, 8, .inl (fun _ => 0)), .inl (g.2.2.2.1, 8, .inl (fun _ => 0)), .inl (g.2.2.2.1, 8, .inl (fun _ => 0)), .inr (4, [.int 100, .int 200, .int 0, .int 0, .int 0, .int 0, .ref (ga g (k + 50)), .ref (ga g (k + 51)), .ref (ga g (k + 52)), .int 0, .int 0, .int 0]), .inl (g.2.2.2.1, 8, .inl (fun _ => 0)), .inl (g.2.2.2.1, 8, .inl (fun _ => 0)), .inl (g.2.2.2.1, 8, .inl (fun _ => 0)), .inr (4, [.int 100, .int 200, .int 0, .int 0, .int 0, .int 0, .ref (ga g (k + 54)), .ref (ga g (k + 55)), .ref (ga g (k + 56)), .int 0, .int 0, .int 0]), .inl (g.2.2.2.1, 8, .inl (fun _ => 0)), .inl (g.2.2.2.1, 8, .inl (fun _ => 0)), .inl (g.2.2.2.1, 8, .inl (fun _ => 0)), .inr (4, [.int 100, .int 200, .int 0, .int 0, .int 0, .int 0, .ref (ga g (k + 58)), .ref (ga g (k + 59)), .ref (ga g (k + 60)), .int 0, .int 0, .int 0]), .inl (g.2.2.2.1, 8, .inl (fun _ => 0)), .inl (g.2.2.2.1, 8, .inl (fun _ => 0)), .inl (g.2.2.2.1, 8, .inl (fun _ => 0)), .inr (4, [.int 100, .int 200, .int 0, .int 0, .int 0, .int 0, .ref (ga g (k + 62)), .ref (ga g (k + 63)), .ref (ga g (k + 64)), .int 0, .int 0, .int 0]), .inl (g.2.2.2.1, 8, .inl (fun _ => 0)), .inl (g.2.2.2.1, 8, .inl (fun _ => 0)), .inl (g.2.2.2.1, 8, .inl (fun _ => 0)), .inr (4, [.int 100, .int 200, .int 0, .int 0, .int 0, .int 0, .ref (ga g (k + 66)), .ref (ga g (k + 67)), .ref (ga g (k + 68)), .int 0, .int 0, .int 0]), .inl (g.2.2.2.1, 8, .inl (fun _ => 0)), .inl (g.2.2.2.1, 8, .inl (fun _ => 0)), .inl (g.2.2.2.1, 8, .inl (fun _ => 0)), .inr (2, [.ref (ga g (k + 70)), .int 0]), .inr (4, [.int 100, .int 200, .int 0, .int 0, .int 0, .int 0, .ref (ga g (k + 71)), .ref (ga g (k + 72)), .ref (ga g (k + 73)), .int 0, .int 0, .int 0]), .inl (g.2.2.2.1, 8, .inl (fun _ => 0)), .inl (g.2.2.2.1, 8, .inl (fun _ => 0)), .inl (g.2.2.2.1, 8, .inl (fun _ => 0))] H := hP
  refine lv_aload_n hx hb dX6_init_59 rfl (lv_at hl 0 rfl) ?_
  refine n_new (ci := 2) (fs := [.null, .int 0]) X hP hS (by show k + 1 + 73 = k + 74; omega) rfl inX3 tyX3 tyX3_ok kx_111 kx_112 kx_5 (fun j hj => by rcases (show j = 0 ∨ j = 1 by omega) with rfl | rfl <;> rfl) (Nat.le_of_ble_eq_true rfl) (Nat.le_of_ble_eq_true rfl) dX6_init_60 (fun H hP hS => ?_)
  replace hP : Wz g c0 k [.inr (5, [.ref (ga g (k + 1)), .ref (ga g (k + 3)), .ref (ga g (k + 7)), .ref (ga g (k + 11)), .ref (ga g (k + 69)), .null, .null]), .inr (3, [.ref (ga g (k + 2)), .int 0, .int 0, .int 0]), .inl (g.2.2.2.1, 80, .inl (fun _ => 0)), .inr (4, [.int 100, .int 200, .int 0, .int 0, .int 0, .int 0, .ref (ga g (k + 4)), .ref (ga g (k + 5)), .ref (ga g (k + 6)), .int 0, .int 0, .int 0]), .inl (g.2.2.2.1, 8, .inl (fun _ => 0)), .inl (g.2.2.2.1, 8, .inl (fun _ => 0)), .inl (g.2.2.2.1, 8, .inl (fun _ => 0)), .inr (4, [.int 100, .int 200, .int 0, .int 0, .int 0, .int 0, .ref (ga g (k + 8)), .ref (ga g (k + 9)), .ref (ga g (k + 10)), .int 0, .int 0, .int 0]), .inl (g.2.2.2.1, 8, .inl (fun _ => 0)), .inl (g.2.2.2.1, 8, .inl (fun _ => 0)), .inl (g.2.2.2.1, 8, .inl (fun _ => 0)), .inr (0, [.ref (ga g (k + 12)), .int 0, .int 0]), .inl (g.2.2.2.2.2, 14, .inr (.inr (.inr (.inr (fun j => some (ga g (k + 13 + 4 * j))))))), .inr (4, [.int 100, .int 200, .int 0, .int 0, .int 0, .int 0, .ref (ga g (k + 14)), .ref (ga g (k + 15)), .ref (ga g (k + 16)), .int 0, .int 0, .int 0]), .inl (g.2.2.2.1, 8, .inl (fun _ => 0)), .inl (g.2.2.2.1, 8, .inl (fun _ => 0)), .inl (g.2.2.2.1, 8, .inl (fun _ => 0)), .inr (4, [.int 100, .int 200, .int 0, .int 0, .int 0, .int 0, .ref (ga g (k + 18)), .ref (ga g (k + 19)), .ref (ga g (k + 20)), .int 0, .int 0, .int 0]), .inl (g.2.2.2.1, 8, .inl (fun _ => 0)), .inl (g.2.2.2.1, 8, .inl (fun _ => 0)), .inl (g.2.2.2.1, 8, .inl (fun _ => 0)), .inr (4, [.int 100, .int 200, .int 0, .int 0, .int 0, .int 0, .ref (ga g (k + 22)), .ref (ga g (k + 23)), .ref (ga g (k + 24)), .int 0, .int 0, .int 0]), .inl (g.2.2.2.1, 8, .inl (fun _ => 0)), .inl (g.2.2.2.1, 8, .inl (fun _ => 0)), .inl (g.2.2.2.1, 8, .inl (fun _ => 0)), .inr (4, [.int 100, .int 200, .int 0, .int 0, .int 0, .int 0, .ref (ga g (k + 26)), .ref (ga g (k + 27)), .ref (ga g (k + 28)), .int 0, .int 0, .int 0]), .inl (g.2.2.2.1, 8, .inl (fun _ => 0)), .inl (g.2.2.2.1, 8, .inl (fun _ => 0)), .inl (g.2.2.2.1, 8, .inl (fun _ => 0)), .inr (4, [.int 100, .int 200, .int 0, .int 0, .int 0, .int 0, .ref (ga g (k + 30)), .ref (ga g (k + 31)), .ref (ga g (k + 32)), .int 0, .int 0, .int 0]), .inl (g.2.2.2.1, 8, .inl (fun _ => 0)), .inl (g.2.2.2.1, 8, .inl (fun _ => 0)), .inl (g.2.2.2.1, 8, .inl (fun _ => 0)), .inr (4, [.int 100, .int 200, .int 0, .int 0, .int 0, .int 0, .ref (ga g (k + 34)), .ref (ga g (k + 35)), .ref (ga g (k + 36)), .int 0, .int 0, .int 0]), .inl (g.2.2.2.1, 8, .inl (fun _ => 0)), .inl (g.2.2.2.1, 8, .inl (fun _ => 0)), .inl (g.2.2.2.1, 8, .inl (fun _ => 0)), .inr (4, [.int 100, .int 200, .int 0, .int 0, .int 0, .int 0, .ref (ga g (k + 38)), .ref (ga g (k + 39)), .ref (ga g (k + 40)), .int 0, .int 0, .int 0]), .inl (g.2.2.2.1, 8, .inl (fun _ => 0)), .inl (g.2.2.2.1, 8, .inl (fun _ => 0)), .inl (g.2.2.2.1, 8, .inl (fun _ => 0)), .inr (4, [.int 100, .int 200, .int 0, .int 0, .int 0, .int 0, .ref (ga g (k + 42)), .ref (ga g (k + 43)), .ref (ga g (k + 44)), .int 0, .int 0, .int 0]), .inl (g.2.2.2.1, 8, .inl (fun _ => 0)), .inl (g.2.2.2.1, 8, .inl (fun _ => 0)), .inl (g.2.2.2.1, 8, .inl (fun _ => 0)), .inr (4, [.int 100, .int 200, .int 0, .int 0, .int 0, .int 0, .ref (ga g (k + 46)), .ref (ga g (k + 47)), .ref (ga g (k + 48)), .int 0, .int 0, .int 0]), .inl (g.2.2.2.1, 8, .inl (fun _ => 0)), .inl (g.2.2.2.1, 8, .inl (fun _ => 0)), .inl (g.2.2.2.1, 8, .inl (fun _ => 0)), .inr (4, [.int 100, .int 200, .int 0, .int 0, .int 0, .int 0, .ref (ga g (k + 50)), .ref (ga g (k + 51)), .ref (ga g (k + 52)), .int 0, .int 0, .int 0]), .inl (g.2.2.2.1, 8, .inl (fun _ => 0)), .inl (g.2.2.2.1, 8, .inl (fun _ => 0)), .inl (g.2.2.2.1, 8, .inl (fun _ => 0)), .inr (4, [.int 100, .int 200, .int 0, .int 0, .int 0, .int 0, .ref (ga g (k + 54)), .ref (ga g (k + 55)), .ref (ga g (k + 56)), .int 0, .int 0, .int 0]), .inl (g.2.2.2.1, 8, .inl (fun _ => 0)), .inl (g.2.2.2.1, 8, .inl (fun _ => 0)), .inl (g.2.2.2.1, 8, .inl (fun _ => 0)), .inr (4, [.int 100, .int 200, .int 0, .int 0, .int 0, .int 0, .ref (ga g (k + 58)), .ref (ga g (k + 59)), .ref (ga g (k + 60)), .int 0, .int 0, .int 0]), .inl (g.2.2.2.1, 8, .inl (fun _ => 0)), .inl (g.2.2.2.1, 8, .inl (fun _ => 0)), .inl (g.2.2.2.1, 8, .inl (fun _ => 0)), .inr (4, [.int 100, .int 200, .int 0, .int 0, .int 0, .int 0, .ref (ga g (k + 62)), .ref (ga g (k + 63)), .ref (ga g (k + 64)), .int 0, .int 0, .int 0]), .inl (g.2.2.2.1, 8, .inl (fun _ => 0)), .inl (g.2.2.2.1, 8, .inl (fun _ => 0)), .inl (g.2.2.2.1, 8, .inl (fun _ => 0)), .inr (4, [.int 100, .int 200, .int 0, .int 0, .int 0, .int 0, .ref (ga g (k + 66)), .ref (ga g (k + 67)), .ref (ga g (k + 68)), .int 0, .int 0, .int 0]), .inl (g.2.2.2.1, 8, .inl (fun _ => 0)), .inl (g.2.2.2.1, 8, .inl (fun _ => 0)), .inl (g.2.2.2.1, 8, .inl (fun _ => 0)), .inr (2, [.ref (ga g (k + 70)), .int 0]), .inr (4, [.int 100, .int 200, .int 0, .int 0, .int 0, .int 0, .ref (ga g (k + 71)), .ref (ga g (k + 72)), .ref (ga g (k + 73)), .int 0, .int 0, .int 0]), .inl (g.2.2.2.1, 8, .inl (fun _ => 0)), .inl (g.2.2.2.1, 8, .inl (fun _ => 0)), .inl (g.2.2.2.1, 8, .inl (fun _ => 0)), .inr (2, [.null, .int 0])] H := hP
  show W p l e rm6_init s m args below meth c H _ 74 717 _ (F0 m 63 ls [.ref (ga g (k + 74)), .ref (ga g k)])
  refine lv_dup hx hb dX6_init_63 rfl ?_
  refine n_callN (mc := 4) (ms := 36) (rest := [.ref (ga g (k + 74)), .ref (ga g k)]) [.inr (5, [.ref (ga g (k + 1)), .ref (ga g (k + 3)), .ref (ga g (k + 7)), .ref (ga g (k + 11)), .ref (ga g (k + 69)), .null, .null]), .inr (3, [.ref (ga g (k + 2)), .int 0, .int 0, .int 0]), .inl (g.2.2.2.1, 80, .inl (fun _ => 0)), .inr (4, [.int 100, .int 200, .int 0, .int 0, .int 0, .int 0, .ref (ga g (k + 4)), .ref (ga g (k + 5)), .ref (ga g (k + 6)), .int 0, .int 0, .int 0]), .inl (g.2.2.2.1, 8, .inl (fun _ => 0)), .inl (g.2.2.2.1, 8, .inl (fun _ => 0)), .inl (g.2.2.2.1, 8, .inl (fun _ => 0)), .inr (4, [.int 100, .int 200, .int 0, .int 0, .int 0, .int 0, .ref (ga g (k + 8)), .ref (ga g (k + 9)), .ref (ga g (k + 10)), .int 0, .int 0, .int 0]), .inl (g.2.2.2.1, 8, .inl (fun _ => 0)), .inl (g.2.2.2.1, 8, .inl (fun _ => 0)), .inl (g.2.2.2.1, 8, .inl (fun _ => 0)), .inr (0, [.ref (ga g (k + 12)), .int 0, .int 0]), .inl (g.2.2.2.2.2, 14, .inr (.inr (.inr (.inr (fun j => some (ga g (k + 13 + 4 * j))))))), .inr (4, [.int 100, .int 200, .int 0, .int 0, .int 0, .int 0, .ref (ga g (k + 14)), .ref (ga g (k + 15)), .ref (ga g (k + 16)), .int 0, .int 0, .int 0]), .inl (g.2.2.2.1, 8, .inl (fun _ => 0)), .inl (g.2.2.2.1, 8, .inl (fun _ => 0)), .inl (g.2.2.2.1, 8, .inl (fun _ => 0)), .inr (4, [.int 100, .int 200, .int 0, .int 0, .int 0, .int 0, .ref (ga g (k + 18)), .ref (ga g (k + 19)), .ref (ga g (k + 20)), .int 0, .int 0, .int 0]), .inl (g.2.2.2.1, 8, .inl (fun _ => 0)), .inl (g.2.2.2.1, 8, .inl (fun _ => 0)), .inl (g.2.2.2.1, 8, .inl (fun _ => 0)), .inr (4, [.int 100, .int 200, .int 0, .int 0, .int 0, .int 0, .ref (ga g (k + 22)), .ref (ga g (k + 23)), .ref (ga g (k + 24)), .int 0, .int 0, .int 0]), .inl (g.2.2.2.1, 8, .inl (fun _ => 0)), .inl (g.2.2.2.1, 8, .inl (fun _ => 0)), .inl (g.2.2.2.1, 8, .inl (fun _ => 0)), .inr (4, [.int 100, .int 200, .int 0, .int 0, .int 0, .int 0, .ref (ga g (k + 26)), .ref (ga g (k + 27)), .ref (ga g (k + 28)), .int 0, .int 0, .int 0]), .inl (g.2.2.2.1, 8, .inl (fun _ => 0)), .inl (g.2.2.2.1, 8, .inl (fun _ => 0)), .inl (g.2.2.2.1, 8, .inl (fun _ => 0)), .inr (4, [.int 100, .int 200, .int 0, .int 0, .int 0, .int 0, .ref (ga g (k + 30)), .ref (ga g (k + 31)), .ref (ga g (k + 32)), .int 0, .int 0, .int 0]), .inl (g.2.2.2.1, 8, .inl (fun _ => 0)), .inl (g.2.2.2.1, 8, .inl (fun _ => 0)), .inl (g.2.2.2.1, 8, .inl (fun _ => 0)), .inr (4, [.int 100, .int 200, .int 0, .int 0, .int 0, .int 0, .ref (ga g (k + 34)), .ref (ga g (k + 35)), .ref (ga g (k + 36)), .int 0, .int 0, .int 0]), .inl (g.2.2.2.1, 8, .inl (fun _ => 0)), .inl (g.2.2.2.1, 8, .inl (fun _ => 0)), .inl (g.2.2.2.1, 8, .inl (fun _ => 0)), .inr (4, [.int 100, .int 200, .int 0, .int 0, .int 0, .int 0, .ref (ga g (k + 38)), .ref (ga g (k + 39)), .ref (ga g (k + 40)), .int 0, .int 0, .int 0]), .inl (g.2.2.2.1, 8, .inl (fun _ => 0)), .inl (g.2.2.2.1, 8, .inl (fun _ => 0)), .inl (g.2.2.2.1, 8, .inl (fun _ => 0)), .inr (4, [.int 100, .int 200, .int 0, .int 0, .int 0, .int 0, .ref (ga g (k + 42)), .ref (ga g (k + 43)), .ref (ga g (k + 44)), .int 0, .int 0, .int 0]), .inl (g.2.2.2.1, 8, .inl (fun _ => 0)), .inl (g.2.2.2.1, 8, .inl (fun _ => 0)), .inl (g.2.2.2.1, 8, .inl (fun _ => 0)), .inr (4, [.int 100, .int 200, .int 0, .int 0, .int 0, .int 0, .ref (ga g (k + 46)), .ref (ga g (k + 47)), .ref (ga g (k + 48)), .int 0, .int 0, .int 0]), .inl (g.2.2.2.1, 8, .inl (fun _ => 0)), .inl (g.2.2.2.1, 8, .inl (fun _ => 0)), .inl (g.2.2.2.1, 8, .inl (fun _ => 0)), .inr (4, [.int 100, .int 200, .int 0, .int 0, .int 0, .int 0, .ref (ga g (k + 50)), .ref (ga g (k + 51)), .ref (ga g (k + 52)), .int 0, .int 0, .int 0]), .inl (g.2.2.2.1, 8, .inl (fun _ => 0)), .inl (g.2.2.2.1, 8, .inl (fun _ => 0)), .inl (g.2.2.2.1, 8, .inl (fun _ => 0)), .inr (4, [.int 100, .int 200, .int 0, .int 0, .int 0, .int 0, .ref (ga g (k + 54)), .ref (ga g (k + 55)), .ref (ga g (k + 56)), .int 0, .int 0, .int 0]), .inl (g.2.2.2.1, 8, .inl (fun _ => 0)), .inl (g.2.2.2.1, 8, .inl (fun _ => 0)), .inl (g.2.2.2.1, 8, .inl (fun _ => 0)), .inr (4, [.int 100, .int 200, .int 0, .int 0, .int 0, .int 0, .ref (ga g (k + 58)), .ref (ga g (k + 59)), .ref (ga g (k + 60)), .int 0, .int 0, .int 0]), .inl (g.2.2.2.1, 8, .inl (fun _ => 0)), .inl (g.2.2.2.1, 8, .inl (fun _ => 0)), .inl (g.2.2.2.1, 8, .inl (fun _ => 0)), .inr (4, [.int 100, .int 200, .int 0, .int 0, .int 0, .int 0, .ref (ga g (k + 62)), .ref (ga g (k + 63)), .ref (ga g (k + 64)), .int 0, .int 0, .int 0]), .inl (g.2.2.2.1, 8, .inl (fun _ => 0)), .inl (g.2.2.2.1, 8, .inl (fun _ => 0)), .inl (g.2.2.2.1, 8, .inl (fun _ => 0)), .inr (4, [.int 100, .int 200, .int 0, .int 0, .int 0, .int 0, .ref (ga g (k + 66)), .ref (ga g (k + 67)), .ref (ga g (k + 68)), .int 0, .int 0, .int 0]), .inl (g.2.2.2.1, 8, .inl (fun _ => 0)), .inl (g.2.2.2.1, 8, .inl (fun _ => 0)), .inl (g.2.2.2.1, 8, .inl (fun _ => 0)), .inr (2, [.ref (ga g (k + 70)), .int 0]), .inr (4, [.int 100, .int 200, .int 0, .int 0, .int 0, .int 0, .ref (ga g (k + 71)), .ref (ga g (k + 72)), .ref (ga g (k + 73)), .int 0, .int 0, .int 0]), .inl (g.2.2.2.1, 8, .inl (fun _ => 0)), .inl (g.2.2.2.1, 8, .inl (fun _ => 0)), .inl (g.2.2.2.1, 8, .inl (fun _ => 0))] [.inr (2, [.null, .int 0])] [.inr (2, [.ref (ga g (k + 75)), .int 0]), .inr (4, [.int 100, .int 200, .int 0, .int 0, .int 0, .int 0, .ref (ga g (k + 76)), .ref (ga g (k + 77)), .ref (ga g (k + 78)), .int 0, .int 0, .int 0]), .inl (g.2.2.2.1, 8, .inl (fun _ => 0)), .inl (g.2.2.2.1, 8, .inl (fun _ => 0)), .inl (g.2.2.2.1, 8, .inl (fun _ => 0))] X (c3_init l g hg _ _) rfl cal_X3_init im_X3_init X.2.2.2.2.2.2.2.1 rfl ⟨rfl, rfl⟩ ⟨Nat.le_of_ble_eq_true rfl, Nat.le_of_ble_eq_true rfl⟩ hP hS (by show k + 1 + 74 = k + 75; omega) (Nat.succ_pos _) hl.1 (Nat.le_of_ble_eq_true rfl) dX6_init_64 ⟨Nat.le_of_ble_eq_true rfl, Nat.le_of_ble_eq_true rfl⟩ (fun H locs hP hS => ?_)
  replace hP : Wz g c0 k [.inr (5, [.ref (ga g (k + 1)), .ref (ga g (k + 3)), .ref (ga g (k + 7)), .ref (ga g (k + 11)), .ref (ga g (k + 69)), .null, .null]), .inr (3, [.ref (ga g (k + 2)), .int 0, .int 0, .int 0]), .inl (g.2.2.2.1, 80, .inl (fun _ => 0)), .inr (4, [.int 100, .int 200, .int 0, .int 0, .int 0, .int 0, .ref (ga g (k + 4)), .ref (ga g (k + 5)), .ref (ga g (k + 6)), .int 0, .int 0, .int 0]), .inl (g.2.2.2.1, 8, .inl (fun _ => 0)), .inl (g.2.2.2.1, 8, .inl (fun _ => 0)), .inl (g.2.2.2.1, 8, .inl (fun _ => 0)), .inr (4, [.int 100, .int 200, .int 0, .int 0, .int 0, .int 0, .ref (ga g (k + 8)), .ref (ga g (k + 9)), .ref (ga g (k + 10)), .int 0, .int 0, .int 0]), .inl (g.2.2.2.1, 8, .inl (fun _ => 0)), .inl (g.2.2.2.1, 8, .inl (fun _ => 0)), .inl (g.2.2.2.1, 8, .inl (fun _ => 0)), .inr (0, [.ref (ga g (k + 12)), .int 0, .int 0]), .inl (g.2.2.2.2.2, 14, .inr (.inr (.inr (.inr (fun j => some (ga g (k + 13 + 4 * j))))))), .inr (4, [.int 100, .int 200, .int 0, .int 0, .int 0, .int 0, .ref (ga g (k + 14)), .ref (ga g (k + 15)), .ref (ga g (k + 16)), .int 0, .int 0, .int 0]), .inl (g.2.2.2.1, 8, .inl (fun _ => 0)), .inl (g.2.2.2.1, 8, .inl (fun _ => 0)), .inl (g.2.2.2.1, 8, .inl (fun _ => 0)), .inr (4, [.int 100, .int 200, .int 0, .int 0, .int 0, .int 0, .ref (ga g (k + 18)), .ref (ga g (k + 19)), .ref (ga g (k + 20)), .int 0, .int 0, .int 0]), .inl (g.2.2.2.1, 8, .inl (fun _ => 0)), .inl (g.2.2.2.1, 8, .inl (fun _ => 0)), .inl (g.2.2.2.1, 8, .inl (fun _ => 0)), .inr (4, [.int 100, .int 200, .int 0, .int 0, .int 0, .int 0, .ref (ga g (k + 22)), .ref (ga g (k + 23)), .ref (ga g (k + 24)), .int 0, .int 0, .int 0]), .inl (g.2.2.2.1, 8, .inl (fun _ => 0)), .inl (g.2.2.2.1, 8, .inl (fun _ => 0)), .inl (g.2.2.2.1, 8, .inl (fun _ => 0)), .inr (4, [.int 100, .int 200, .int 0, .int 0, .int 0, .int 0, .ref (ga g (k + 26)), .ref (ga g (k + 27)), .ref (ga g (k + 28)), .int 0, .int 0, .int 0]), .inl (g.2.2.2.1, 8, .inl (fun _ => 0)), .inl (g.2.2.2.1, 8, .inl (fun _ => 0)), .inl (g.2.2.2.1, 8, .inl (fun _ => 0)), .inr (4, [.int 100, .int 200, .int 0, .int 0, .int 0, .int 0, .ref (ga g (k + 30)), .ref (ga g (k + 31)), .ref (ga g (k + 32)), .int 0, .int 0, .int 0]), .inl (g.2.2.2.1, 8, .inl (fun _ => 0)), .inl (g.2.2.2.1, 8, .inl (fun _ => 0)), .inl (g.2.2.2.1, 8, .inl (fun _ => 0)), .inr (4, [.int 100, .int 200, .int 0, .int 0, .int 0, .int 0, .ref (ga g (k + 34)), .ref (ga g (k + 35)), .ref (ga g (k + 36)), .int 0, .int 0, .int 0]), .inl (g.2.2.2.1, 8, .inl (fun _ => 0)), .inl (g.2.2.2.1, 8, .inl (fun _ => 0)), .inl (g.2.2.2.1, 8, .inl (fun _ => 0)), .inr (4, [.int 100, .int 200, .int 0, .int 0, .int 0, .int 0, .ref (ga g (k + 38)), .ref (ga g (k + 39)), .ref (ga g (k + 40)), .int 0, .int 0, .int 0]), .inl (g.2.2.2.1, 8, .inl (fun _ => 0)), .inl (g.2.2.2.1, 8, .inl (fun _ => 0)), .inl (g.2.2.2.1, 8, .inl (fun _ => 0)), .inr (4, [.int 100, .int 200, .int 0, .int 0, .int 0, .int 0, .ref (ga g (k + 42)), .ref (ga g (k + 43)), .ref (ga g (k + 44)), .int 0, .int 0, .int 0]), .inl (g.2.2.2.1, 8, .inl (fun _ => 0)), .inl (g.2.2.2.1, 8, .inl (fun _ => 0)), .inl (g.2.2.2.1, 8, .inl (fun _ => 0)), .inr (4, [.int 100, .int 200, .int 0, .int 0, .int 0, .int 0, .ref (ga g (k + 46)), .ref (ga g (k + 47)), .ref (ga g (k + 48)), .int 0, .int 0, .int 0]), .inl (g.2.2.2.1, 8, .inl (fun _ => 0)), .inl (g.2.2.2.1, 8, .inl (fun _ => 0)), .inl (g.2.2.2.1, 8, .inl (fun _ => 0)), .inr (4, [.int 100, .int 200, .int 0, .int 0, .int 0, .int 0, .ref (ga g (k + 50)), .ref (ga g (k + 51)), .ref (ga g (k + 52)), .int 0, .int 0, .int 0]), .inl (g.2.2.2.1, 8, .inl (fun _ => 0)), .inl (g.2.2.2.1, 8, .inl (fun _ => 0)), .inl (g.2.2.2.1, 8, .inl (fun _ => 0)), .inr (4, [.int 100, .int 200, .int 0, .int 0, .int 0, .int 0, .ref (ga g (k + 54)), .ref (ga g (k + 55)), .ref (ga g (k + 56)), .int 0, .int 0, .int 0]), .inl (g.2.2.2.1, 8, .inl (fun _ => 0)), .inl (g.2.2.2.1, 8, .inl (fun _ => 0)), .inl (g.2.2.2.1, 8, .inl (fun _ => 0)), .inr (4, [.int 100, .int 200, .int 0, .int 0, .int 0, .int 0, .ref (ga g (k + 58)), .ref (ga g (k + 59)), .ref (ga g (k + 60)), .int 0, .int 0, .int 0]), .inl (g.2.2.2.1, 8, .inl (fun _ => 0)), .inl (g.2.2.2.1, 8, .inl (fun _ => 0)), .inl (g.2.2.2.1, 8, .inl (fun _ => 0)), .inr (4, [.int 100, .int 200, .int 0, .int 0, .int 0, .int 0, .ref (ga g (k + 62)), .ref (ga g (k + 63)), .ref (ga g (k + 64)), .int 0, .int 0, .int 0]), .inl (g.2.2.2.1, 8, .inl (fun _ => 0)), .inl (g.2.2.2.1, 8, .inl (fun _ => 0)), .inl (g.2.2.2.1, 8, .inl (fun _ => 0)), .inr (4, [.int 100, .int 200, .int 0, .int 0, .int 0, .int 0, .ref (ga g (k + 66)), .ref (ga g (k + 67)), .ref (ga g (k + 68)), .int 0, .int 0, .int 0]), .inl (g.2.2.2.1, 8, .inl (fun _ => 0)), .inl (g.2.2.2.1, 8, .inl (fun _ => 0)), .inl (g.2.2.2.1, 8, .inl (fun _ => 0)), .inr (2, [.ref (ga g (k + 70)), .int 0]), .inr (4, [.int 100, .int 200, .int 0, .int 0, .int 0, .int 0, .ref (ga g (k + 71)), .ref (ga g (k + 72)), .ref (ga g (k + 73)), .int 0, .int 0, .int 0]), .inl (g.2.2.2.1, 8, .inl (fun _ => 0)), .inl (g.2.2.2.1, 8, .inl (fun _ => 0)), .inl (g.2.2.2.1, 8, .inl (fun _ => 0)), .inr (2, [.ref (ga g (k + 75)), .int 0]), .inr (4, [.int 100, .int 200, .int 0, .int 0, .int 0, .int 0, .ref (ga g (k + 76)), .ref (ga g (k + 77)), .ref (ga g (k + 78)), .int 0, .int 0, .int 0]), .inl (g.2.2.2.1, 8, .inl (fun _ => 0)), .inl (g.2.2.2.1, 8, .inl (fun _ => 0)), .inl (g.2.2.2.1, 8, .inl (fun _ => 0))] H := hP
  show W p l e rm6_init s m args below meth c H _ 78 753 _ (F0 m 67 ls [.ref (ga g (k + 74)), .ref (ga g k)])
  refine n_putF (i := 0) (j := 5) (ty := (.object RX3)) X hP hS rfl (Nat.le_of_ble_eq_true rfl) rfl inX6 tyX6 tyX6_ok nmX6 (by decide) k_156 rfl hin rfl (by decide +kernel) rfl rfl (Nat.le_of_ble_eq_true rfl) dX6_init_67 (fun H locs hP hS => ?_)
  replace hP : Wz g c0 k [.inr (5, [.ref (ga g (k + 1)), .ref (ga g (k + 3)), .ref (ga g (k + 7)), .ref (ga g (k + 11)), .ref (ga g (k + 69)), .ref (ga g (k + 74)), .null]), .inr (3, [.ref (ga g (k + 2)), .int 0, .int 0, .int 0]), .inl (g.2.2.2.1, 80, .inl (fun _ => 0)), .inr (4, [.int 100, .int 200, .int 0, .int 0, .int 0, .int 0, .ref (ga g (k + 4)), .ref (ga g (k + 5)), .ref (ga g (k + 6)), .int 0, .int 0, .int 0]), .inl (g.2.2.2.1, 8, .inl (fun _ => 0)), .inl (g.2.2.2.1, 8, .inl (fun _ => 0)), .inl (g.2.2.2.1, 8, .inl (fun _ => 0)), .inr (4, [.int 100, .int 200, .int 0, .int 0, .int 0, .int 0, .ref (ga g (k + 8)), .ref (ga g (k + 9)), .ref (ga g (k + 10)), .int 0, .int 0, .int 0]), .inl (g.2.2.2.1, 8, .inl (fun _ => 0)), .inl (g.2.2.2.1, 8, .inl (fun _ => 0)), .inl (g.2.2.2.1, 8, .inl (fun _ => 0)), .inr (0, [.ref (ga g (k + 12)), .int 0, .int 0]), .inl (g.2.2.2.2.2, 14, .inr (.inr (.inr (.inr (fun j => some (ga g (k + 13 + 4 * j))))))), .inr (4, [.int 100, .int 200, .int 0, .int 0, .int 0, .int 0, .ref (ga g (k + 14)), .ref (ga g (k + 15)), .ref (ga g (k + 16)), .int 0, .int 0, .int 0]), .inl (g.2.2.2.1, 8, .inl (fun _ => 0)), .inl (g.2.2.2.1, 8, .inl (fun _ => 0)), .inl (g.2.2.2.1, 8, .inl (fun _ => 0)), .inr (4, [.int 100, .int 200, .int 0, .int 0, .int 0, .int 0, .ref (ga g (k + 18)), .ref (ga g (k + 19)), .ref (ga g (k + 20)), .int 0, .int 0, .int 0]), .inl (g.2.2.2.1, 8, .inl (fun _ => 0)), .inl (g.2.2.2.1, 8, .inl (fun _ => 0)), .inl (g.2.2.2.1, 8, .inl (fun _ => 0)), .inr (4, [.int 100, .int 200, .int 0, .int 0, .int 0, .int 0, .ref (ga g (k + 22)), .ref (ga g (k + 23)), .ref (ga g (k + 24)), .int 0, .int 0, .int 0]), .inl (g.2.2.2.1, 8, .inl (fun _ => 0)), .inl (g.2.2.2.1, 8, .inl (fun _ => 0)), .inl (g.2.2.2.1, 8, .inl (fun _ => 0)), .inr (4, [.int 100, .int 200, .int 0, .int 0, .int 0, .int 0, .ref (ga g (k + 26)), .ref (ga g (k + 27)), .ref (ga g (k + 28)), .int 0, .int 0, .int 0]), .inl (g.2.2.2.1, 8, .inl (fun _ => 0)), .inl (g.2.2.2.1, 8, .inl (fun _ => 0)), .inl (g.2.2.2.1, 8, .inl (fun _ => 0)), .inr (4, [.int 100, .int 200, .int 0, .int 0, .int 0, .int 0, .ref (ga g (k + 30)), .ref (ga g (k + 31)), .ref (ga g (k + 32)), .int 0, .int 0, .int 0]), .inl (g.2.2.2.1, 8, .inl (fun _ => 0)), .inl (g.2.2.2.1, 8, .inl (fun _ => 0)), .inl (g.2.2.2.1, 8, .inl (fun _ => 0)), .inr (4, [.int 100, .int 200, .int 0, .int 0, .int 0, .int 0, .ref (ga g (k + 34)), .ref (ga g (k + 35)), .ref (ga g (k + 36)), .int 0, .int 0, .int 0]), .inl (g.2.2.2.1, 8, .inl (fun _ => 0)), .inl (g.2.2.2.1, 8, .inl (fun _ => 0)), .inl (g.2.2.2.1, 8, .inl (fun _ => 0)), .inr (4, [.int 100, .int 200, .int 0, .int 0, .int 0, .int 0, .ref (ga g (k + 38)), .ref (ga g (k + 39)), .ref (ga g (k + 40)), .int 0, .int 0, .int 0]), .inl (g.2.2.2.1, 8, .inl (fun _ => 0)), .inl (g.2.2.2.1, 8, .inl (fun _ => 0)), .inl (g.2.2.2.1, 8, .inl (fun _ => 0)), .inr (4, [.int 100, .int 200, .int 0, .int 0, .int 0, .int 0, .ref (ga g (k + 42)), .ref (ga g (k + 43)), .ref (ga g (k + 44)), .int 0, .int 0, .int 0]), .inl (g.2.2.2.1, 8, .inl (fun _ => 0)), .inl (g.2.2.2.1, 8, .inl (fun _ => 0)), .inl (g.2.2.2.1, 8, .inl (fun _ => 0)), .inr (4, [.int 100, .int 200, .int 0, .int 0, .int 0, .int 0, .ref (ga g (k + 46)), .ref (ga g (k + 47)), .ref (ga g (k + 48)), .int 0, .int 0, .int 0]), .inl (g.2.2.2.1, 8, .inl (fun _ => 0)), .inl (g.2.2.2.1, 8, .inl (fun _ => 0)), .inl (g.2.2.2.1, 8, .inl (fun _ => 0)), .inr (4, [.int 100, .int 200, .int 0, .int 0, .int 0, .int 0, .ref (ga g (k + 50)), .ref (ga g (k + 51)), .ref (ga g (k + 52)), .int 0, .int 0, .int 0]), .inl (g.2.2.2.1, 8, .inl (fun _ => 0)), .inl (g.2.2.2.1, 8, .inl (fun _ => 0)), .inl (g.2.2.2.1, 8, .inl (fun _ => 0)), .inr (4, [.int 100, .int 200, .int 0, .int 0, .int 0, .int 0, .ref (ga g (k + 54)), .ref (ga g (k + 55)), .ref (ga g (k + 56)), .int 0, .int 0, .int 0]), .inl (g.2.2.2.1, 8, .inl (fun _ => 0)), .inl (g.2.2.2.1, 8, .inl (fun _ => 0)), .inl (g.2.2.2.1, 8, .inl (fun _ => 0)), .inr (4, [.int 100, .int 200, .int 0, .int 0, .int 0, .int 0, .ref (ga g (k + 58)), .ref (ga g (k + 59)), .ref (ga g (k + 60)), .int 0, .int 0, .int 0]), .inl (g.2.2.2.1, 8, .inl (fun _ => 0)), .inl (g.2.2.2.1, 8, .inl (fun _ => 0)), .inl (g.2.2.2.1, 8, .inl (fun _ => 0)), .inr (4, [.int 100, .int 200, .int 0, .int 0, .int 0, .int 0, .ref (ga g (k + 62)), .ref (ga g (k + 63)), .ref (ga g (k + 64)), .int 0, .int 0, .int 0]), .inl (g.2.2.2.1, 8, .inl (fun _ => 0)), .inl (g.2.2.2.1, 8, .inl (fun _ => 0)), .inl (g.2.2.2.1, 8, .inl (fun _ => 0)), .inr (4, [.int 100, .int 200, .int 0, .int 0, .int 0, .int 0, .ref (ga g (k + 66)), .ref (ga g (k + 67)), .ref (ga g (k + 68)), .int 0, .int 0, .int 0]), .inl (g.2.2.2.1, 8, .inl (fun _ => 0)), .inl (g.2.2.2.1, 8, .inl (fun _ => 0)), .inl (g.2.2.2.1, 8, .inl (fun _ => 0)), .inr (2, [.ref (ga g (k + 70)), .int 0]), .inr (4, [.int 100, .int 200, .int 0, .int 0, .int 0, .int 0, .ref (ga g (k + 71)), .ref (ga g (k + 72)), .ref (ga g (k + 73)), .int 0, .int 0, .int 0]), .inl (g.2.2.2.1, 8, .inl (fun _ => 0)), .inl (g.2.2.2.1, 8, .inl (fun _ => 0)), .inl (g.2.2.2.1, 8, .inl (fun _ => 0)), .inr (2, [.ref (ga g (k + 75)), .int 0]), .inr (4, [.int 100, .int 200, .int 0, .int 0, .int 0, .int 0, .ref (ga g (k + 76)), .ref (ga g (k + 77)), .ref (ga g (k + 78)), .int 0, .int 0, .int 0]), .inl (g.2.2.2.1, 8, .inl (fun _ => 0)), .inl (g.2.2.2.1, 8, .inl (fun _ => 0)), .inl (g.2.2.2.1, 8, .inl (fun _ => 0))] H := hP
  refine lv_aload_n hx hb dX6_init_70 rfl (lv_at hl 0 rfl) ?_
  refine n_new (ci := 1) (fs := [.int 0, .int 0, .int 0, .int 0, .null]) X hP hS (by show k + 1 + 78 = k + 79; omega) rfl inX2 tyX2 tyX2_ok kx_127 kx_128 kx_6 (fun j hj => by rcases (show j = 0 ∨ j = 1 ∨ j = 2 ∨ j = 3 ∨ j = 4 by omega) with rfl | rfl | rfl | rfl | rfl <;> rfl) (Nat.le_of_ble_eq_true rfl) (Nat.le_of_ble_eq_true rfl) dX6_init_71 (fun H hP hS => ?_)
  replace hP : Wz g c0 k [.inr (5, [.ref (ga g (k + 1)), .ref (ga g (k + 3)), .ref (ga g (k + 7)), .ref (ga g (k + 11)), .ref (ga g (k + 69)), .ref (ga g (k + 74)), .null]), .inr (3, [.ref (ga g (k + 2)), .int 0, .int 0, .int 0]), .inl (g.2.2.2.1, 80, .inl (fun _ => 0)), .inr (4, [.int 100, .int 200, .int 0, .int 0, .int 0, .int 0, .ref (ga g (k + 4)), .ref (ga g (k + 5)), .ref (ga g (k + 6)), .int 0, .int 0, .int 0]), .inl (g.2.2.2.1, 8, .inl (fun _ => 0)), .inl (g.2.2.2.1, 8, .inl (fun _ => 0)), .inl (g.2.2.2.1, 8, .inl (fun _ => 0)), .inr (4, [.int 100, .int 200, .int 0, .int 0, .int 0, .int 0, .ref (ga g (k + 8)), .ref (ga g (k + 9)), .ref (ga g (k + 10)), .int 0, .int 0, .int 0]), .inl (g.2.2.2.1, 8, .inl (fun _ => 0)), .inl (g.2.2.2.1, 8, .inl (fun _ => 0)), .inl (g.2.2.2.1, 8, .inl (fun _ => 0)), .inr (0, [.ref (ga g (k + 12)), .int 0, .int 0]), .inl (g.2.2.2.2.2, 14, .inr (.inr (.inr (.inr (fun j => some (ga g (k + 13 + 4 * j))))))), .inr (4, [.int 100, .int 200, .int 0, .int 0, .int 0, .int 0, .ref (ga g (k + 14)), .ref (ga g (k + 15)), .ref (ga g (k + 16)), .int 0, .int 0, .int 0]), .inl (g.2.2.2.1, 8, .inl (fun _ => 0)), .inl (g.2.2.2.1, 8, .inl (fun _ => 0)), .inl (g.2.2.2.1, 8, .inl (fun _ => 0)), .inr (4, [.int 100, .int 200, .int 0, .int 0, .int 0, .int 0, .ref (ga g (k + 18)), .ref (ga g (k + 19)), .ref (ga g (k + 20)), .int 0, .int 0, .int 0]), .inl (g.2.2.2.1, 8, .inl (fun _ => 0)), .inl (g.2.2.2.1, 8, .inl (fun _ => 0)), .inl (g.2.2.2.1, 8, .inl (fun _ => 0)), .inr (4, [.int 100, .int 200, .int 0, .int 0, .int 0, .int 0, .ref (ga g (k + 22)), .ref (ga g (k + 23)), .ref (ga g (k + 24)), .int 0, .int 0, .int 0]), .inl (g.2.2.2.1, 8, .inl (fun _ => 0)), .inl (g.2.2.2.1, 8, .inl (fun _ => 0)), .inl (g.2.2.2.1, 8, .inl (fun _ => 0)), .inr (4, [.int 100, .int 200, .int 0, .int 0, .int 0, .int 0, .ref (ga g (k + 26)), .ref (ga g (k + 27)), .ref (ga g (k + 28)), .int 0, .int 0, .int 0]), .inl (g.2.2.2.1, 8, .inl (fun _ => 0)), .inl (g.2.2.2.1, 8, .inl (fun _ => 0)), .inl (g.2.2.2.1, 8, .inl (fun _ => 0)), .inr (4, [.int 100, .int 200, .int 0, .int 0, .int 0, .int 0, .ref (ga g (k + 30)), .ref (ga g (k + 31)), .ref (ga g (k + 32)), .int 0, .int 0, .int 0]), .inl (g.2.2.2.1, 8, .inl (fun _ => 0)), .inl (g.2.2.2.1, 8, .inl (fun _ => 0)), .inl (g.2.2.2.1, 8, .inl (fun _ => 0)), .inr (4, [.int 100, .int 200, .int 0, .int 0, .int 0, .int 0, .ref (ga g (k + 34)), .ref (ga g (k + 35)), .ref (ga g (k + 36)), .int 0, .int 0, .int 0]), .inl (g.2.2.2.1, 8, .inl (fun _ => 0)), .inl (g.2.2.2.1, 8, .inl (fun _ => 0)), .inl (g.2.2.2.1, 8, .inl (fun _ => 0)), .inr (4, [.int 100, .int 200, .int 0, .int 0, .int 0, .int 0, .ref (ga g (k + 38)), .ref (ga g (k + 39)), .ref (ga g (k + 40)), .int 0, .int 0, .int 0]), .inl (g.2.2.2.1, 8, .inl (fun _ => 0)), .inl (g.2.2.2.1, 8, .inl (fun _ => 0)), .inl (g.2.2.2.1, 8, .inl (fun _ => 0)), .inr (4, [.int 100, .int 200, .int 0, .int 0, .int 0, .int 0, .ref (ga g (k + 42)), .ref (ga g (k + 43)), .ref (ga g (k + 44)), .int 0, .int 0, .int 0]), .inl (g.2.2.2.1, 8, .inl (fun _ => 0)), .inl (g.2.2.2.1, 8, .inl (fun _ => 0)), .inl (g.2.2.2.1, 8, .inl (fun _ => 0)), .inr (4, [.int 100, .int 200, .int 0, .int 0, .int 0, .int 0, .ref (ga g (k + 46)), .ref (ga g (k + 47)), .ref (ga g (k + 48)), .int 0, .int 0, .int 0]), .inl (g.2.2.2.1, 8, .inl (fun _ => 0)), .inl (g.2.2.2.1, 8, .inl (fun _ => 0)), .inl (g.2.2.2.1, 8, .inl (fun _ => 0)), .inr (4, [.int 100, .int 200, .int 0, .int 0, .int 0, .int 0, .ref (ga g (k + 50)), .ref (ga g (k + 51)), .ref (ga g (k + 52)), .int 0, .int 0, .int 0]), .inl (g.2.2.2.1, 8, .inl (fun _ => 0)), .inl (g.2.2.2.1, 8, .inl (fun _ => 0)), .inl (g.2.2.2.1, 8, .inl (fun _ => 0)), .inr (4, [.int 100, .int 200, .int 0, .int 0, .int 0, .int 0, .ref (ga g (k + 54)), .ref (ga g (k + 55)), .ref (ga g (k + 56)), .int 0, .int 0, .int 0]), .inl (g.2.2.2.1, 8, .inl (fun _ => 0)), .inl (g.2.2.2.1, 8, .inl (fun _ => 0)), .inl (g.2.2.2.1, 8, .inl (fun _ => 0)), .inr (4, [.int 100, .int 200, .int 0, .int 0, .int 0, .int 0, .ref (ga g (k + 58)), .ref (ga g (k + 59)), .ref (ga g (k + 60)), .int 0, .int 0, .int 0]), .inl (g.2.2.2.1, 8, .inl (fun _ => 0)), .inl (g.2.2.2.1, 8, .inl (fun _ => 0)), .inl (g.2.2.2.1, 8, .inl (fun _ => 0)), .inr (4, [.int 100, .int 200, .int 0, .int 0, .int 0, .int 0, .ref (ga g (k + 62)), .ref (ga g (k + 63)), .ref (ga g (k + 64)), .int 0, .int 0, .int 0]), .inl (g.2.2.2.1, 8, .inl (fun _ => 0)), .inl (g.2.2.2.1, 8, .inl (fun _ => 0)), .inl (g.2.2.2.1, 8, .inl (fun _ => 0)), .inr (4, [.int 100, .int 200, .int 0, .int 0, .int 0, .int 0, .ref (ga g (k + 66)), .ref (ga g (k + 67)), .ref (ga g (k + 68)), .int 0, .int 0, .int 0]), .inl (g.2.2.2.1, 8, .inl (fun _ => 0)), .inl (g.2.2.2.1, 8, .inl (fun _ => 0)), .inl (g.2.2.2.1, 8, .inl (fun _ => 0)), .inr (2, [.ref (ga g (k + 70)), .int 0]), .inr (4, [.int 100, .int 200, .int 0, .int 0, .int 0, .int 0, .ref (ga g (k + 71)), .ref (ga g (k + 72)), .ref (ga g (k + 73)), .int 0, .int 0, .int 0]), .inl (g.2.2.2.1, 8, .inl (fun _ => 0)), .inl (g.2.2.2.1, 8, .inl (fun _ => 0)), .inl (g.2.2.2.1, 8, .inl (fun _ => 0)), .inr (2, [.ref (ga g (k + 75)), .int 0]), .inr (4, [.int 100, .int 200, .int 0, .int 0, .int 0, .int 0, .ref (ga g (k + 76)), .ref (ga g (k + 77)), .ref (ga g (k + 78)), .int 0, .int 0, .int 0]), .inl (g.2.2.2.1, 8, .inl (fun _ => 0)), .inl (g.2.2.2.1, 8, .inl (fun _ => 0)), .inl (g.2.2.2.1, 8, .inl (fun _ => 0)), .inr (1, [.int 0, .int 0, .int 0, .int 0, .null])] H := hP
  show W p l e rm6_init s m args below meth c H _ 79 758 _ (F0 m 74 ls [.ref (ga g (k + 79)), .ref (ga g k)])
  refine lv_dup hx hb dX6_init_74 rfl ?_
  refine n_callN (mc := 1) (ms := 1001) (rest := [.ref (ga g (k + 79)), .ref (ga g k)]) [.inr (5, [.ref (ga g (k + 1)), .ref (ga g (k + 3)), .ref (ga g (k + 7)), .ref (ga g (k + 11)), .ref (ga g (k + 69)), .ref (ga g (k + 74)), .null]), .inr (3, [.ref (ga g (k + 2)), .int 0, .int 0, .int 0]), .inl (g.2.2.2.1, 80, .inl (fun _ => 0)), .inr (4, [.int 100, .int 200, .int 0, .int 0, .int 0, .int 0, .ref (ga g (k + 4)), .ref (ga g (k + 5)), .ref (ga g (k + 6)), .int 0, .int 0, .int 0]), .inl (g.2.2.2.1, 8, .inl (fun _ => 0)), .inl (g.2.2.2.1, 8, .inl (fun _ => 0)), .inl (g.2.2.2.1, 8, .inl (fun _ => 0)), .inr (4, [.int 100, .int 200, .int 0, .int 0, .int 0, .int 0, .ref (ga g (k + 8)), .ref (ga g (k + 9)), .ref (ga g (k + 10)), .int 0, .int 0, .int 0]), .inl (g.2.2.2.1, 8, .inl (fun _ => 0)), .inl (g.2.2.2.1, 8, .inl (fun _ => 0)), .inl (g.2.2.2.1, 8, .inl (fun _ => 0)), .inr (0, [.ref (ga g (k + 12)), .int 0, .int 0]), .inl (g.2.2.2.2.2, 14, .inr (.inr (.inr (.inr (fun j => some (ga g (k + 13 + 4 * j))))))), .inr (4, [.int 100, .int 200, .int 0, .int 0, .int 0, .int 0, .ref (ga g (k + 14)), .ref (ga g (k + 15)), .ref (ga g (k + 16)), .int 0, .int 0, .int 0]), .inl (g.2.2.2.1, 8, .inl (fun _ => 0)), .inl (g.2.2.2.1, 8, .inl (fun _ => 0)), .inl (g.2.2.2.1, 8, .inl (fun _ => 0)), .inr (4, [.int 100, .int 200, .int 0, .int 0, .int 0, .int 0, .ref (ga g (k + 18)), .ref (ga g (k + 19)), .ref (ga g (k + 20)), .int 0, .int 0, .int 0]), .inl (g.2.2.2.1, 8, .inl (fun _ => 0)), .inl (g.2.2.2.1, 8, .inl (fun _ => 0)), .inl (g.2.2.2.1, 8, .inl (fun _ => 0)), .inr (4, [.int 100, .int 200, .int 0, .int 0, .int 0, .int 0, .ref (ga g (k + 22)), .ref (ga g (k + 23)), .ref (ga g (k + 24)), .int 0, .int 0, .int 0]), .inl (g.2.2.2.1, 8, .inl (fun _ => 0)), .inl (g.2.2.2.1, 8, .inl (fun _ => 0)), .inl (g.2.2.2.1, 8, .inl (fun _ => 0)), .inr (4, [.int 100, .int 200, .int 0, .int 0, .int 0, .int 0, .ref (ga g (k + 26)), .ref (ga g (k + 27)), .ref (ga g (k + 28)), .int 0, .int 0, .int 0]), .inl (g.2.2.2.1, 8, .inl (fun _ => 0)), .inl (g.2.2.2.1, 8, .inl (fun _ => 0)), .inl (g.2.2.2.1, 8, .inl (fun _ => 0)), .inr (4, [.int 100, .int 200, .int 0, .int 0, .int 0, .int 0, .ref (ga g (k + 30)), .ref (ga g (k + 31)), .ref (ga g (k + 32)), .int 0, .int 0, .int 0]), .inl (g.2.2.2.1, 8, .inl (fun _ => 0)), .inl (g.2.2.2.1, 8, .inl (fun _ => 0)), .inl (g.2.2.2.1, 8, .inl (fun _ => 0)), .inr (4, [.int 100, .int 200, .int 0, .int 0, .int 0, .int 0, .ref (ga g (k + 34)), .ref (ga g (k + 35)), .ref (ga g (k + 36)), .int 0, .int 0, .int 0]), .inl (g.2.2.2.1, 8, .inl (fun _ => 0)), .inl (g.2.2.2.1, 8, .inl (fun _ => 0)), .inl (g.2.2.2.1, 8, .inl (fun _ => 0)), .inr (4, [.int 100, .int 200, .int 0, .int 0, .int 0, .int 0, .ref (ga g (k + 38)), .ref (ga g (k + 39)), .ref (ga g (k + 40)), .int 0, .int 0, .int 0]), .inl (g.2.2.2.1, 8, .inl (fun _ => 0)), .inl (g.2.2.2.1, 8, .inl (fun _ => 0)), .inl (g.2.2.2.1, 8, .inl (fun _ => 0)), .inr (4, [.int 100, .int 200, .int 0, .int 0, .int 0, .int 0, .ref (ga g (k + 42)), .ref (ga g (k + 43)), .ref (ga g (k + 44)), .int 0, .int 0, .int 0]), .inl (g.2.2.2.1, 8, .inl (fun _ => 0)), .inl (g.2.2.2.1, 8, .inl (fun _ => 0)), .inl (g.2.2.2.1, 8, .inl (fun _ => 0)), .inr (4, [.int 100, .int 200, .int 0, .int 0, .int 0, .int 0, .ref (ga g (k + 46)), .ref (ga g (k + 47)), .ref (ga g (k + 48)), .int 0, .int 0, .int 0]), .inl (g.2.2.2.1, 8, .inl (fun _ => 0)), .inl (g.2.2.2.1, 8, .inl (fun _ => 0)), .inl (g.2.2.2.1, 8, .inl (fun _ => 0)), .inr (4, [.int 100, .int 200, .int 0, .int 0, .int 0, .int 0, .ref (ga g (k + 50)), .ref (ga g (k + 51)), .ref (ga g (k + 52)), .int 0, .int 0, .int 0]), .inl (g.2.2.2.1, 8, .inl (fun _ => 0)), .inl (g.2.2.2.1, 8, .inl (fun _ => 0)), .inl (g.2.2.2.1, 8, .inl (fun _ => 0)), .inr (4, [.int 100, .int 200, .int 0, .int 0, .int 0, .int 0, .ref (ga g (k + 54)), .ref (ga g (k + 55)), .ref (ga g (k + 56)), .int 0, .int 0, .int 0]), .inl (g.2.2.2.1, 8, .inl (fun _ => 0)), .inl (g.2.2.2.1, 8, .inl (fun _ => 0)), .inl (g.2.2.2.1, 8, .inl (fun _ => 0)), .inr (4, [.int 100, .int 200, .int 0, .int 0, .int 0, .int 0, .ref (ga g (k + 58)), .ref (ga g (k + 59)), .ref (ga g (k + 60)), .int 0, .int 0, .int 0]), .inl (g.2.2.2.1, 8, .inl (fun _ => 0)), .inl (g.2.2.2.1, 8, .inl (fun _ => 0)), .inl (g.2.2.2.1, 8, .inl (fun _ => 0)), .inr (4, [.int 100, .int 200, .int 0, .int 0, .int 0, .int 0, .ref (ga g (k + 62)), .ref (ga g (k + 63)), .ref (ga g (k + 64)), .int 0, .int 0, .int 0]), .inl (g.2.2.2.1, 8, .inl (fun _ => 0)), .inl (g.2.2.2.1, 8, .inl (fun _ => 0)), .inl (g.2.2.2.1, 8, .inl (fun _ => 0)), .inr (4, [.int 100, .int 200, .int 0, .int 0, .int 0, .int 0, .ref (ga g (k + 66)), .ref (ga g (k + 67)), .ref (ga g (k + 68)), .int 0, .int 0, .int 0]), .inl (g.2.2.2.1, 8, .inl (fun _ => 0)), .inl (g.2.2.2.1, 8, .inl (fun _ => 0)), .inl (g.2.2.2.1, 8, .inl (fun _ => 0)), .inr (2, [.ref (ga g (k + 70)), .int 0]), .inr (4, [.int 100, .int 200, .int 0, .int 0, .int 0, .int 0, .ref (ga g (k + 71)), .ref (ga g (k + 72)), .ref (ga g (k + 73)), .int 0, .int 0, .int 0]), .inl (g.2.2.2.1, 8, .inl (fun _ => 0)), .inl (g.2.2.2.1, 8, .inl (fun _ => 0)), .inl (g.2.2.2.1, 8, .inl (fun _ => 0)), .inr (2, [.ref (ga g (k + 75)), .int 0]), .inr (4, [.int 100, .int 200, .int 0, .int 0, .int 0, .int 0, .ref (ga g (k + 76)), .ref (ga g (k + 77)), .ref (ga g (k + 78)), .int 0, .int 0, .int 0]), .inl (g.2.2.2.1, 8, .inl (fun _ => 0)), .inl (g.2.2.2.1, 8, .inl (fun _ => 0)), .inl (g.2.2.2.1, 8, .inl (fun _ => 0))] [.inr (1, [.int 0, .int 0, .int 0, .int 0, .null])] [.inr (1, [.int 0, .int 0, .int 0, .int 0, .ref (ga g (k + 80))]), .inl (g.2.2.2.1, 1001, .inl (fun _ => 0))] X (c2_init l g hg _ _) rfl cal_X2_init im_X2_init X.2.2.2.2.2.2.2.2.2.1 rfl ⟨rfl, rfl⟩ ⟨Nat.le_of_ble_eq_true rfl, Nat.le_of_ble_eq_true rfl⟩ hP hS (by show k + 1 + 79 = k + 80; omega) (Nat.succ_pos _) hl.1 (Nat.le_of_ble_eq_true rfl) dX6_init_75 ⟨Nat.le_of_ble_eq_true rfl, Nat.le_of_ble_eq_true rfl⟩ (fun H locs hP hS => ?_)
  replace hP : Wz g c0 k [.inr (5, [.ref (ga g (k + 1)), .ref (ga g (k + 3)), .ref (ga g (k + 7)), .ref (ga g (k + 11)), .ref (ga g (k + 69)), .ref (ga g (k + 74)), .null]), .inr (3, [.ref (ga g (k + 2)), .int 0, .int 0, .int 0]), .inl (g.2.2.2.1, 80, .inl (fun _ => 0)), .inr (4, [.int 100, .int 200, .int 0, .int 0, .int 0, .int 0, .ref (ga g (k + 4)), .ref (ga g (k + 5)), .ref (ga g (k + 6)), .int 0, .int 0, .int 0]), .inl (g.2.2.2.1, 8, .inl (fun _ => 0)), .inl (g.2.2.2.1, 8, .inl (fun _ => 0)), .inl (g.2.2.2.1, 8, .inl (fun _ => 0)), .inr (4, [.int 100, .int 200, .int 0, .int 0, .int 0, .int 0, .ref (ga g (k + 8)), .ref (ga g (k + 9)), .ref (ga g (k + 10)), .int 0, .int 0, .int 0]), .inl (g.2.2.2.1, 8, .inl (fun _ => 0)), .inl (g.2.2.2.1, 8, .inl (fun _ => 0)), .inl (g.2.2.2.1, 8, .inl (fun _ => 0)), .inr (0, [.ref (ga g (k + 12)), .int 0, .int 0]), .inl (g.2.2.2.2.2, 14, .inr (.inr (.inr (.inr (fun j => some (ga g (k + 13 + 4 * j))))))), .inr (4, [.int 100, .int 200, .int 0, .int 0, .int 0, .int 0, .ref (ga g (k + 14)), .ref (ga g (k + 15)), .ref (ga g (k + 16)), .int 0, .int 0, .int 0]), .inl (g.2.2.2.1, 8, .inl (fun _ => 0)), .inl (g.2.2.2.1, 8, .inl (fun _ => 0)), .inl (g.2.2.2.1, 8, .inl (fun _ => 0)), .inr (4, [.int 100, .int 200, .int 0, .int 0, .int 0, .int 0, .ref (ga g (k + 18)), .ref (ga g (k + 19)), .ref (ga g (k + 20)), .int 0, .int 0, .int 0]), .inl (g.2.2.2.1, 8, .inl (fun _ => 0)), .inl (g.2.2.2.1, 8, .inl (fun _ => 0)), .inl (g.2.2.2.1, 8, .inl (fun _ => 0)), .inr (4, [.int 100, .int 200, .int 0, .int 0, .int 0, .int 0, .ref (ga g (k + 22)), .ref (ga g (k + 23)), .ref (ga g (k + 24)), .int 0, .int 0, .int 0]), .inl (g.2.2.2.1, 8, .inl (fun _ => 0)), .inl (g.2.2.2.1, 8, .inl (fun _ => 0)), .inl (g.2.2.2.1, 8, .inl (fun _ => 0)), .inr (4, [.int 100, .int 200, .int 0, .int 0, .int 0, .int 0, .ref (ga g (k + 26)), .ref (ga g (k + 27)), .ref (ga g (k + 28)), .int 0, .int 0, .int 0]), .inl (g.2.2.2.1, 8, .inl (fun _ => 0)), .inl (g.2.2.2.1, 8, .inl (fun _ => 0)), .inl (g.2.2.2.1, 8, .inl (fun _ => 0)), .inr (4, [.int 100, .int 200, .int 0, .int 0, .int 0, .int 0, .ref (ga g (k + 30)), .ref (ga g (k + 31)), .ref (ga g (k + 32)), .int 0, .int 0, .int 0]), .inl (g.2.2.2.1, 8, .inl (fun _ => 0)), .inl (g.2.2.2.1, 8, .inl (fun _ => 0)), .inl (g.2.2.2.1, 8, .inl (fun _ => 0)), .inr (4, [.int 100, .int 200, .int 0, .int 0, .int 0, .int 0, .ref (ga g (k + 34)), .ref (ga g (k + 35)), .ref (ga g (k + 36)), .int 0, .int 0, .int 0]), .inl (g.2.2.2.1, 8, .inl (fun _ => 0)), .inl (g.2.2.2.1, 8, .inl (fun _ => 0)), .inl (g.2.2.2.1, 8, .inl (fun _ => 0)), .inr (4, [.int 100, .int 200, .int 0, .int 0, .int 0, .int 0, .ref (ga g (k + 38)), .ref (ga g (k + 39)), .ref (ga g (k + 40)), .int 0, .int 0, .int 0]), .inl (g.2.2.2.1, 8, .inl (fun _ => 0)), .inl (g.2.2.2.1, 8, .inl (fun _ => 0)), .inl (g.2.2.2.1, 8, .inl (fun _ => 0)), .inr (4, [.int 100, .int 200, .int 0, .int 0, .int 0, .int 0, .ref (ga g (k + 42)), .ref (ga g (k + 43)), .ref (ga g (k + 44)), .int 0, .int 0, .int 0]), .inl (g.2.2.2.1, 8, .inl (fun _ => 0)), .inl (g.2.2.2.1, 8, .inl (fun _ => 0)), .inl (g.2.2.2.1, 8, .inl (fun _ => 0)), .inr (4, [.int 100, .int 200, .int 0, .int 0, .int 0, .int 0, .ref (ga g (k + 46)), .ref (ga g (k + 47)), .ref (ga g (k + 48)), .int 0, .int 0, .int 0]), .inl (g.2.2.2.1, 8, .inl (fun _ => 0)), .inl (g.2.2.2.1, 8, .inl (fun _ => 0)), .inl (g.2.2.2.1, 8, .inl (fun _ => 0)), .inr (4, [.int 100, .int 200, .int 0, .int 0, .int 0, .int 0, .ref (ga g (k + 50)), .ref (ga g (k + 51)), .ref (ga g (k + 52)), .int 0, .int 0, .int 0]), .inl (g.2.2.2.1, 8, .inl (fun _ => 0)), .inl (g.2.2.2.1, 8, .inl (fun _ => 0)), .inl (g.2.2.2.1, 8, .inl (fun _ => 0)), .inr (4, [.int 100, .int 200, .int 0, .int 0, .int 0, .int 0, .ref (ga g (k + 54)), .ref (ga g (k + 55)), .ref (ga g (k + 56)), .int 0, .int 0, .int 0]), .inl (g.2.2.2.1, 8, .inl (fun _ => 0)), .inl (g.2.2.2.1, 8, .inl (fun _ => 0)), .inl (g.2.2.2.1, 8, .inl (fun _ => 0)), .inr (4, [.int 100, .int 200, .int 0, .int 0, .int 0, .int 0, .ref (ga g (k + 58)), .ref (ga g (k + 59)), .ref (ga g (k + 60)), .int 0, .int 0, .int 0]), .inl (g.2.2.2.1, 8, .inl (fun _ => 0)), .inl (g.2.2.2.1, 8, .inl (fun _ => 0)), .inl (g.2.2.2.1, 8, .inl (fun _ => 0)), .inr (4, [.int 100, .int 200, .int 0, .int 0, .int 0, .int 0, .ref (ga g (k + 62)), .ref (ga g (k + 63)), .ref (ga g (k + 64)), .int 0, .int 0, .int 0]), .inl (g.2.2.2.1, 8, .inl (fun _ => 0)), .inl (g.2.2.2.1, 8, .inl (fun _ => 0)), .inl (g.2.2.2.1, 8, .inl (fun _ => 0)), .inr (4, [.int 100, .int 200, .int 0, .int 0, .int 0, .int 0, .ref (ga g (k + 66)), .ref (ga g (k + 67)), .ref (ga g (k + 68)), .int 0, .int 0, .int 0]), .inl (g.2.2.2.1, 8, .inl (fun _ => 0)), .inl (g.2.2.2.1, 8, .inl (fun _ => 0)), .inl (g.2.2.2.1, 8, .inl (fun _ => 0)), .inr (2, [.ref (ga g (k + 70)), .int 0]), .inr (4, [.int 100, .int 200, .int 0, .int 0, .int 0, .int 0, .ref (ga g (k + 71)), .ref (ga g (k + 72)), .ref (ga g (k + 73)), .int 0, .int 0, .int 0]), .inl (g.2.2.2.1, 8, .inl (fun _ => 0)), .inl (g.2.2.2.1, 8, .inl (fun _ => 0)), .inl (g.2.2.2.1, 8, .inl (fun _ => 0)), .inr (2, [.ref (ga g (k + 75)), .int 0]), .inr (4, [.int 100, .int 200, .int 0, .int 0, .int 0, .int 0, .ref (ga g (k + 76)), .ref (ga g (k + 77)), .ref (ga g (k + 78)), .int 0, .int 0, .int 0]), .inl (g.2.2.2.1, 8, .inl (fun _ => 0)), .inl (g.2.2.2.1, 8, .inl (fun _ => 0)), .inl (g.2.2.2.1, 8, .inl (fun _ => 0)), .inr (1, [.int 0, .int 0, .int 0, .int 0, .ref (ga g (k + 80))]), .inl (g.2.2.2.1, 1001, .inl (fun _ => 0))] H := hP
  show W p l e rm6_init s m args below meth c H _ 80 1759 _ (F0 m 78 ls [.ref (ga g (k + 79)), .ref (ga g k)])
  refine n_putF (i := 0) (j := 6) (ty := (.object RX2)) X hP hS rfl (Nat.le_of_ble_eq_true rfl) rfl inX6 tyX6 tyX6_ok nmX6 (by decide) k_157 rfl hin rfl (by decide +kernel) rfl rfl (Nat.le_of_ble_eq_true rfl) dX6_init_78 (fun H locs hP hS => ?_)
  replace hP : Wz g c0 k [.inr (5, [.ref (ga g (k + 1)), .ref (ga g (k + 3)), .ref (ga g (k + 7)), .ref (ga g (k + 11)), .ref (ga g (k + 69)), .ref (ga g (k + 74)), .ref (ga g (k + 79))]), .inr (3, [.ref (ga g (k + 2)), .int 0, .int 0, .int 0]), .inl (g.2.2.2.1, 80, .inl (fun _ => 0)), .inr (4, [.int 100, .int 200, .int 0, .int 0, .int 0, .int 0, .ref (ga g (k + 4)), .ref (ga g (k + 5)), .ref (ga g (k + 6)), .int 0, .int 0, .int 0]), .inl (g.2.2.2.1, 8, .inl (fun _ => 0)), .inl (g.2.2.2.1, 8, .inl (fun _ => 0)), .inl (g.2.2.2.1, 8, .inl (fun _ => 0)), .inr (4, [.int 100, .int 200, .int 0, .int 0, .int 0, .int 0, .ref (ga g (k + 8)), .ref (ga g (k + 9)), .ref (ga g (k + 10)), .int 0, .int 0, .int 0]), .inl (g.2.2.2.1, 8, .inl (fun _ => 0)), .inl (g.2.2.2.1, 8, .inl (fun _ => 0)), .inl (g.2.2.2.1, 8, .inl (fun _ => 0)), .inr (0, [.ref (ga g (k + 12)), .int 0, .int 0]), .inl (g.2.2.2.2.2, 14, .inr (.inr (.inr (.inr (fun j => some (ga g (k + 13 + 4 * j))))))), .inr (4, [.int 100, .int 200, .int 0, .int 0, .int 0, .int 0, .ref (ga g (k + 14)), .ref (ga g (k + 15)), .ref (ga g (k + 16)), .int 0, .int 0, .int 0]), .inl (g.2.2.2.1, 8, .inl (fun _ => 0)), .inl (g.2.2.2.1, 8, .inl (fun _ => 0)), .inl (g.2.2.2.1, 8, .inl (fun _ => 0)), .inr (4, [.int 100, .int 200, .int 0, .int 0, .int 0, .int 0, .ref (ga g (k + 18)), .ref (ga g (k + 19)), .ref (ga g (k + 20)), .int 0, .int 0, .int 0]), .inl (g.2.2.2.1, 8, .inl (fun _ => 0)), .inl (g.2.2.2.1, 8, .inl (fun _ => 0)), .inl (g.2.2.2.1, 8, .inl (fun _ => 0)), .inr (4, [.int 100, .int 200, .int 0, .int 0, .int 0, .int 0, .ref (ga g (k + 22)), .ref (ga g (k + 23)), .ref (ga g (k + 24)), .int 0, .int 0, .int 0]), .inl (g.2.2.2.1, 8, .inl (fun _ => 0)), .inl (g.2.2.2.1, 8, .inl (fun _ => 0)), .inl (g.2.2.2.1, 8, .inl (fun _ => 0)), .inr (4, [.int 100, .int 200, .int 0, .int 0, .int 0, .int 0, .ref (ga g (k + 26)), .ref (ga g (k + 27)), .ref (ga g (k + 28)), .int 0, .int 0, .int 0]), .inl (g.2.2.2.1, 8, .inl (fun _ => 0)), .inl (g.2.2.2.1, 8, .inl (fun _ => 0)), .inl (g.2.2.2.1, 8, .inl (fun _ => 0)), .inr (4, [.int 100, .int 200, .int 0, .int 0, .int 0, .int 0, .ref (ga g (k + 30)), .ref (ga g (k + 31)), .ref (ga g (k + 32)), .int 0, .int 0, .int 0]), .inl (g.2.2.2.1, 8, .inl (fun _ => 0)), .inl (g.2.2.2.1, 8, .inl (fun _ => 0)), .inl (g.2.2.2.1, 8, .inl (fun _ => 0)), .inr (4, [.int 100, .int 200, .int 0, .int 0, .int 0, .int 0, .ref (ga g (k + 34)), .ref (ga g (k + 35)), .ref (ga g (k + 36)), .int 0, .int 0, .int 0]), .inl (g.2.2.2.1, 8, .inl (fun _ => 0)), .inl (g.2.2.2.1, 8, .inl (fun _ => 0)), .inl (g.2.2.2.1, 8, .inl (fun _ => 0)), .inr (4, [.int 100, .int 200, .int 0, .int 0, .int 0, .int 0, .ref (ga g (k + 38)), .ref (ga g (k + 39)), .ref (ga g (k + 40)), .int 0, .int 0, .int 0]), .inl (g.2.2.2.1, 8, .inl (fun _ => 0)), .inl (g.2.2.2.1, 8, .inl (fun _ => 0)), .inl (g.2.2.2.1, 8, .inl (fun _ => 0)), .inr (4, [.int 100, .int 200, .int 0, .int 0, .int 0, .int 0, .ref (ga g (k + 42)), .ref (ga g (k + 43)), .ref (ga g (k + 44)), .int 0, .int 0, .int 0]), .inl (g.2.2.2.1, 8, .inl (fun _ => 0)), .inl (g.2.2.2.1, 8, .inl (fun _ => 0)), .inl (g.2.2.2.1, 8, .inl (fun _ => 0)), .inr (4, [.int 100, .int 200, .int 0, .int 0, .int 0, .int 0, .ref (ga g (k + 46)), .ref (ga g (k + 47)), .ref (ga g (k + 48)), .int 0, .int 0, .int 0]), .inl (g.2.2.2.1, 8, .inl (fun _ => 0)), .inl (g.2.2.2.1, 8, .inl (fun _ => 0)), .inl (g.2.2.2.1, 8, .inl (fun _ => 0)), .inr (4, [.int 100, .int 200, .int 0, .int 0, .int 0, .int 0, .ref (ga g (k + 50)), .ref (ga g (k + 51)), .ref (ga g (k + 52)), .int 0, .int 0, .int 0]), .inl (g.2.2.2.1, 8, .inl (fun _ => 0)), .inl (g.2.2.2.1, 8, .inl (fun _ => 0)), .inl (g.2.2.2.1, 8, .inl (fun _ => 0)), .inr (4, [.int 100, .int 200, .int 0, .int 0, .int 0, .int 0, .ref (ga g (k + 54)), .ref (ga g (k + 55)), .ref (ga g (k + 56)), .int 0, .int 0, .int 0]), .inl (g.2.2.2.1, 8, .inl (fun _ => 0)), .inl (g.2.2.2.1, 8, .inl (fun _ => 0)), .inl (g.2.2.2.1, 8, .inl (fun _ => 0)), .inr (4, [.int 100, .int 200, .int 0, .int 0, .int 0, .int 0, .ref (ga g (k + 58)), .ref (ga g (k + 59)), .ref (ga g (k + 60)), .int 0, .int 0, .int 0]), .inl (g.2.2.2.1, 8, .inl (fun _ => 0)), .inl (g.2.2.2.1, 8, .inl (fun _ => 0)), .inl (g.2.2.2.1, 8, .inl (fun _ => 0)), .inr (4, [.int 100, .int 200, .int 0, .int 0, .int 0, .int 0, .ref (ga g (k + 62)), .ref (ga g (k + 63)), .ref (ga g (k + 64)), .int 0, .int 0, .int 0]), .inl (g.2.2.2.1, 8, .inl (fun _ => 0)), .inl (g.2.2.2.1, 8, .inl (fun _ => 0)), .inl (g.2.2.2.1, 8, .inl (fun _ => 0)), .inr (4, [.int 100, .int 200, .int 0, .int 0, .int 0, .int 0, .ref (ga g (k + 66)), .ref (ga g (k + 67)), .ref (ga g (k + 68)), .int 0, .int 0, .int 0]), .inl (g.2.2.2.1, 8, .inl (fun _ => 0)), .inl (g.2.2.2.1, 8, .inl (fun _ => 0)), .inl (g.2.2.2.1, 8, .inl (fun _ => 0)), .inr (2, [.ref (ga g (k + 70)), .int 0]), .inr (4, [.int 100, .int 200, .int 0, .int 0, .int 0, .int 0, .ref (ga g (k + 71)), .ref (ga g (k + 72)), .ref (ga g (k + 73)), .int 0, .int 0, .int 0]), .inl (g.2.2.2.1, 8, .inl (fun _ => 0)), .inl (g.2.2.2.1, 8, .inl (fun _ => 0)), .inl (g.2.2.2.1, 8, .inl (fun _ => 0)), .inr (2, [.ref (ga g (k + 75)), .int 0]), .inr (4, [.int 100, .int 200, .int 0, .int 0, .int 0, .int 0, .ref (ga g (k + 76)), .ref (ga g (k + 77)), .ref (ga g (k + 78)), .int 0, .int 0, .int 0]), .inl (g.2.2.2.1, 8, .inl (fun _ => 0)), .inl (g.2.2.2.1, 8, .inl (fun _ => 0)), .inl (g.2.2.2.1, 8, .inl (fun _ => 0)), .inr (1, [.int 0, .int 0, .int 0, .int 0, .ref (ga g (k + 80))]), .inl (g.2.2.2.1, 1001, .inl (fun _ => 0))] H := hP
  replace hP := n_ring (i := 12) (f' := fun j => some (ga g (k + 13 + 4 * j))) hP rfl (Nat.le_of_ble_eq_true rfl) (fun j hj => by rcases (show j = 0 ∨ j = 1 ∨ j = 2 ∨ j = 3 ∨ j = 4 ∨ j = 5 ∨ j = 6 ∨ j = 7 ∨ j = 8 ∨ j = 9 ∨ j = 10 ∨ j = 11 ∨ j = 12 ∨ j = 13 by omega) with rfl | rfl | rfl | rfl | rfl | rfl | rfl | rfl | rfl | rfl | rfl | rfl | rfl | rfl <;> rfl)
  replace hP : Wz g c0 k [.inr (5, [.ref (ga g (k + 1)), .ref (ga g (k + 3)), .ref (ga g (k + 7)), .ref (ga g (k + 11)), .ref (ga g (k + 69)), .ref (ga g (k + 74)), .ref (ga g (k + 79))]), .inr (3, [.ref (ga g (k + 2)), .int 0, .int 0, .int 0]), .inl (g.2.2.2.1, 80, .inl (fun _ => 0)), .inr (4, [.int 100, .int 200, .int 0, .int 0, .int 0, .int 0, .ref (ga g (k + 4)), .ref (ga g (k + 5)), .ref (ga g (k + 6)), .int 0, .int 0, .int 0]), .inl (g.2.2.2.1, 8, .inl (fun _ => 0)), .inl (g.2.2.2.1, 8, .inl (fun _ => 0)), .inl (g.2.2.2.1, 8, .inl (fun _ => 0)), .inr (4, [.int 100, .int 200, .int 0, .int 0, .int 0, .int 0, .ref (ga g (k + 8)), .ref (ga g (k + 9)), .ref (ga g (k + 10)), .int 0, .int 0, .int 0]), .inl (g.2.2.2.1, 8, .inl (fun _ => 0)), .inl (g.2.2.2.1, 8, .inl (fun _ => 0)), .inl (g.2.2.2.1, 8, .inl (fun _ => 0)), .inr (0, [.ref (ga g (k + 12)), .int 0, .int 0]), .inl (g.2.2.2.2.2, 14, .inr (.inr (.inr (.inr (fun j => some (ga g (k + 13 + 4 * j))))))), .inr (4, [.int 100, .int 200, .int 0, .int 0, .int 0, .int 0, .ref (ga g (k + 14)), .ref (ga g (k + 15)), .ref (ga g (k + 16)), .int 0, .int 0, .int 0]), .inl (g.2.2.2.1, 8, .inl (fun _ => 0)), .inl (g.2.2.2.1, 8, .inl (fun _ => 0)), .inl (g.2.2.2.1, 8, .inl (fun _ => 0)), .inr (4, [.int 100, .int 200, .int 0, .int 0, .int 0, .int 0, .ref (ga g (k + 18)), .ref (ga g (k + 19)), .ref (ga g (k + 20)), .int 0, .int 0, .int 0]), .inl (g.2.2.2.1, 8, .inl (fun _ => 0)), .inl (g.2.2.2.1, 8, .inl (fun _ => 0)), .inl (g.2.2.2.1, 8, .inl (fun _ => 0)), .inr (4, [.int 100, .int 200, .int 0, .int 0, .int 0, .int 0, .ref (ga g (k + 22)), .ref (ga g (k + 23)), .ref (ga g (k + 24)), .int 0, .int 0, .int 0]), .inl (g.2.2.2.1, 8, .inl (fun _ => 0)), .inl (g.2.2.2.1, 8, .inl (fun _ => 0)), .inl (g.2.2.2.1, 8, .inl (fun _ => 0)), .inr (4, [.int 100, .int 200, .int 0, .int 0, .int 0, .int 0, .ref (ga g (k + 26)), .ref (ga g (k + 27)), .ref (ga g (k + 28)), .int 0, .int 0, .int 0]), .inl (g.2.2.2.1, 8, .inl (fun _ => 0)), .inl (g.2.2.2.1, 8, .inl (fun _ => 0)), .inl (g.2.2.2.1, 8, .inl (fun _ => 0)), .inr (4, [.int 100, .int 200, .int 0, .int 0, .int 0, .int 0, .ref (ga g (k + 30)), .ref (ga g (k + 31)), .ref (ga g (k + 32)), .int 0, .int 0, .int 0]), .inl (g.2.2.2.1, 8, .inl (fun _ => 0)), .inl (g.2.2.2.1, 8, .inl (fun _ => 0)), .inl (g.2.2.2.1, 8, .inl (fun _ => 0)), .inr (4, [.int 100, .int 200, .int 0, .int 0, .int 0, .int 0, .ref (ga g (k + 34)), .ref (ga g (k + 35)), .ref (ga g (k + 36)), .int 0, .int 0, .int 0]), .inl (g.2.2.2.1, 8, .inl (fun _ => 0)), .inl (g.2.2.2.1, 8, .inl (fun _ => 0)), .inl (g.2.2.2.1, 8, .inl (fun _ => 0)), .inr (4, [.int 100, .int 200, .int 0, .int 0, .int 0, .int 0, .ref (ga g (k + 38)), .ref (ga g (k + 39)), .ref (ga g (k + 40)), .int 0, .int 0, .int 0]), .inl (g.2.2.2.1, 8, .inl (fun _ => 0)), .inl (g.2.2.2.1, 8, .inl (fun _ => 0)), .inl (g.2.2.2.1, 8, .inl (fun _ => 0)), .inr (4, [.int 100, .int 200, .int 0, .int 0, .int 0, .int 0, .ref (ga g (k + 42)), .ref (ga g (k + 43)), .ref (ga g (k + 44)), .int 0, .int 0, .int 0]), .inl (g.2.2.2.1, 8, .inl (fun _ => 0)), .inl (g.2.2.2.1, 8, .inl (fun _ => 0)), .inl (g.2.2.2.1, 8, .inl (fun _ => 0)), .inr (4, [.int 100, .int 200, .int 0, .int 0, .int 0, .int 0, .ref (ga g (k + 46)), .ref (ga g (k + 47)), .ref (ga g (k + 48)), .int 0, .int 0, .int 0]), .inl (g.2.2.2.1, 8, .inl (fun _ => 0)), .inl (g.2.2.2.1, 8, .inl (fun _ => 0)), .inl (g.2.2.2.1, 8, .inl (fun _ => 0)), .inr (4, [.int 100, .int 200, .int 0, .int 0, .int 0, .int 0, .ref (ga g (k + 50)), .ref (ga g (k + 51)), .ref (ga g (k + 52)), .int 0, .int 0, .int 0]), .inl (g.2.2.2.1, 8, .inl (fun _ => 0)), .inl (g.2.2.2.1, 8, .inl (fun _ => 0)), .inl (g.2.2.2.1, 8, .inl (fun _ => 0)), .inr (4, [.int 100, .int 200, .int 0, .int 0, .int 0, .int 0, .ref (ga g (k + 54)), .ref (ga g (k + 55)), .ref (ga g (k + 56)), .int 0, .int 0, .int 0]), .inl (g.2.2.2.1, 8, .inl (fun _ => 0)), .inl (g.2.2.2.1, 8, .inl (fun _ => 0)), .inl (g.2.2.2.1, 8, .inl (fun _ => 0)), .inr (4, [.int 100, .int 200, .int 0, .int 0, .int 0, .int 0, .ref (ga g (k + 58)), .ref (ga g (k + 59)), .ref (ga g (k + 60)), .int 0, .int 0, .int 0]), .inl (g.2.2.2.1, 8, .inl (fun _ => 0)), .inl (g.2.2.2.1, 8, .inl (fun _ => 0)), .inl (g.2.2.2.1, 8, .inl (fun _ => 0)), .inr (4, [.int 100, .int 200, .int 0, .int 0, .int 0, .int 0, .ref (ga g (k + 62)), .ref (ga g (k + 63)), .ref (ga g (k + 64)), .int 0, .int 0, .int 0]), .inl (g.2.2.2.1, 8, .inl (fun _ => 0)), .inl (g.2.2.2.1, 8, .inl (fun _ => 0)), .inl (g.2.2.2.1, 8, .inl (fun _ => 0)), .inr (4, [.int 100, .int 200, .int 0, .int 0, .int 0, .int 0, .ref (ga g (k + 66)), .ref (ga g (k + 67)), .ref (ga g (k + 68)), .int 0, .int 0, .int 0]), .inl (g.2.2.2.1, 8, .inl (fun _ => 0)), .inl (g.2.2.2.1, 8, .inl (fun _ => 0)), .inl (g.2.2.2.1, 8, .inl (fun _ => 0)), .inr (2, [.ref (ga g (k + 70)), .int 0]), .inr (4, [.int 100, .int 200, .int 0, .int 0, .int 0, .int 0, .ref (ga g (k + 71)), .ref (ga g (k + 72)), .ref (ga g (k + 73)), .int 0, .int 0, .int 0]), .inl (g.2.2.2.1, 8, .inl (fun _ => 0)), .inl (g.2.2.2.1, 8, .inl (fun _ => 0)), .inl (g.2.2.2.1, 8, .inl (fun _ => 0)), .inr (2, [.ref (ga g (k + 75)), .int 0]), .inr (4, [.int 100, .int 200, .int 0, .int 0, .int 0, .int 0, .ref (ga g (k + 76)), .ref (ga g (k + 77)), .ref (ga g (k + 78)), .int 0, .int 0, .int 0]), .inl (g.2.2.2.1, 8, .inl (fun _ => 0)), .inl (g.2.2.2.1, 8, .inl (fun _ => 0)), .inl (g.2.2.2.1, 8, .inl (fun _ => 0)), .inr (1, [.int 0, .int 0, .int 0, .int 0, .ref (ga g (k + 80))]), .inl (g.2.2.2.1, 1001, .inl (fun _ => 0))] H := hP
  exact n_vret X hr hlk hP hS dX6_init_81
abbrev rm7_init : Room := { frames := 1, cells := 8, slots := 1710, locals := 14 }
set_option maxHeartbeats 4000000 in
set_option maxRecDepth 100000 in
theorem c7_init (l : Launch) (g : GG) (hg : Lin g) (c0 : Nat → va_E) (k : Nat) : Mn l g yX7_init cX7_init 1 rm7_init c0 k [.inr (6, [.null, .int 0, .int 0, .null, .null, .null, .null, .int 0, .int 0, .null, .null, .null, .int 0, .int 0, .int 0, .int 0, .int 0])] [.inr (6, [.ref (ga g (k + 1)), .int 0, .int 0, .ref (ga g (k + 2)), .ref (ga g (k + 3)), .ref (ga g (k + 4)), .ref (ga g (k + 5)), .int 0, .int 0, .ref (ga g (k + 6)), .ref (ga g (k + 7)), .ref (ga g (k + 8)), .int 0, .int 0, .int 0, .int 0, .int 0]), .inl (g.2.2.2.1, 80, .inl (fun _ => 0)), .inl (g.2.2.2.1, 33, .inl (upd (upd (upd (fun _ => 0) 0 (100)) 1 (200)) 7 (-9))), .inl (g.2.2.2.1, 33, .inl (fun _ => 0)), .inl (g.2.2.2.1, 33, .inl (fun _ => 0)), .inl (g.2.2.2.1, 462, .inl (fun _ => 0)), .inl (g.2.2.2.1, 66, .inl (fun _ => 0)), .inl (g.2.2.2.2.1, 2, .inl (fun _ => 0)), .inl (g.2.2.2.1, 1001, .inl (fun _ => 0))] 8 1710 := by
  refine Mn.of hg (by decide +kernel) (by decide) ?_
  intro p e s m args below meth c ls X hr hlk hin hP hS hl
  replace X : Cy g p s m args c cX7_init RX7 1 (k + 1) := X
  have hx := X.hx
  have hb := X.hb
  replace hin : meth.name = "<init>" := hin
  obtain ⟨H, hHs⟩ : ∃ H, H = s.heap := ⟨_, rfl⟩
  rw [← hHs] at hP
  rw [show va_S (gA g) s.heap s.heap [] = va_S (gA g) s.heap H [] from by rw [hHs]] at hS
  rw [← hHs]
  refine lv_aload_n hx hb dX7_init_0 rfl (lv_at hl 0 rfl) ?_
  refine n_obj X hl.1 kx_550 kx_16 kx_17 dX7_init_1 (Nat.le_of_ble_eq_true rfl) (Nat.le_of_ble_eq_true rfl) ?_
  refine lv_aload_n hx hb dX7_init_4 rfl (lv_at hl 0 rfl) ?_
  refine lv_bipush (v := (80 : Int32)) hx hb dX7_init_5 (by decide +kernel) ?_
  refine n_newI (N' := 80) X hP hS (by show k + 1 + 0 = k + 1; omega) kx_38 (by decide) (by decide +kernel) (Nat.le_of_ble_eq_true rfl) (Nat.le_of_ble_eq_true rfl) (Nat.le_of_ble_eq_true rfl) dX7_init_7 (fun H hP hS => ?_)
  replace hP : Wz g c0 k [.inr (6, [.null, .int 0, .int 0, .null, .null, .null, .null, .int 0, .int 0, .null, .null, .null, .int 0, .int 0, .int 0, .int 0, .int 0]), .inl (g.2.2.2.1, 80, .inl (fun _ => 0))] H := hP
  show W p l e rm7_init s m args below meth c H _ 1 80 _ (F0 m 9 ls [.ref (ga g (k + 1)), .ref (ga g k)])
  refine n_putF (i := 0) (j := 0) (ty := (.array .int)) X hP hS rfl (Nat.le_of_ble_eq_true rfl) rfl inX7 tyX7 tyX7_ok nmX7 (by decide) k_551 rfl hin rfl (by decide +kernel) rfl rfl (Nat.le_of_ble_eq_true rfl) dX7_init_9 (fun H locs hP hS => ?_)
  replace hP : Wz g c0 k [.inr (6, [.ref (ga g (k + 1)), .int 0, .int 0, .null, .null, .null, .null, .int 0, .int 0, .null, .null, .null, .int 0, .int 0, .int 0, .int 0, .int 0]), .inl (g.2.2.2.1, 80, .inl (fun _ => 0))] H := hP
  refine lv_aload_n hx hb dX7_init_12 rfl (lv_at hl 0 rfl) ?_
  refine lv_bipush (v := (33 : Int32)) hx hb dX7_init_13 (by decide +kernel) ?_
  refine n_newI (N' := 33) X hP hS (by show k + 1 + 1 = k + 2; omega) kx_38 (by decide) (by decide +kernel) (Nat.le_of_ble_eq_true rfl) (Nat.le_of_ble_eq_true rfl) (Nat.le_of_ble_eq_true rfl) dX7_init_15 (fun H hP hS => ?_)
  replace hP : Wz g c0 k [.inr (6, [.ref (ga g (k + 1)), .int 0, .int 0, .null, .null, .null, .null, .int 0, .int 0, .null, .null, .null, .int 0, .int 0, .int 0, .int 0, .int 0]), .inl (g.2.2.2.1, 80, .inl (fun _ => 0)), .inl (g.2.2.2.1, 33, .inl (fun _ => 0))] H := hP
  show W p l e rm7_init s m args below meth c H _ 2 113 _ (F0 m 17 ls [.ref (ga g (k + 2)), .ref (ga g k)])
  refine n_putF (i := 0) (j := 3) (ty := (.array .int)) X hP hS rfl (Nat.le_of_ble_eq_true rfl) rfl inX7 tyX7 tyX7_ok nmX7 (by decide) k_554 rfl hin rfl (by decide +kernel) rfl rfl (Nat.le_of_ble_eq_true rfl) dX7_init_17 (fun H locs hP hS => ?_)
  replace hP : Wz g c0 k [.inr (6, [.ref (ga g (k + 1)), .int 0, .int 0, .ref (ga g (k + 2)), .null, .null, .null, .int 0, .int 0, .null, .null, .null, .int 0, .int 0, .int 0, .int 0, .int 0]), .inl (g.2.2.2.1, 80, .inl (fun _ => 0)), .inl (g.2.2.2.1, 33, .inl (fun _ => 0))] H := hP
  refine lv_aload_n hx hb dX7_init_20 rfl (lv_at hl 0 rfl) ?_
  refine lv_bipush (v := (33 : Int32)) hx hb dX7_init_21 (by decide +kernel) ?_
  refine n_newI (N' := 33) X hP hS (by show k + 1 + 2 = k + 3; omega) kx_38 (by decide) (by decide +kernel) (Nat.le_of_ble_eq_true rfl) (Nat.le_of_ble_eq_true rfl) (Nat.le_of_ble_eq_true rfl) dX7_init_23 (fun H hP hS => ?_)
  replace hP : Wz g c0 k [.inr (6, [.ref (ga g (k + 1)), .int 0, .int 0, .ref (ga g (k + 2)), .null, .null, .null, .int 0, .int 0, .null, .null, .null, .int 0, .int 0, .int 0, .int 0, .int 0]), .inl (g.2.2.2.1, 80, .inl (fun _ => 0)), .inl (g.2.2.2.1, 33, .inl (fun _ => 0)), .inl (g.2.2.2.1, 33, .inl (fun _ => 0))] H := hP
  show W p l e rm7_init s m args below meth c H _ 3 146 _ (F0 m 25 ls [.ref (ga g (k + 3)), .ref (ga g k)])
  refine n_putF (i := 0) (j := 4) (ty := (.array .int)) X hP hS rfl (Nat.le_of_ble_eq_true rfl) rfl inX7 tyX7 tyX7_ok nmX7 (by decide) k_555 rfl hin rfl (by decide +kernel) rfl rfl (Nat.le_of_ble_eq_true rfl) dX7_init_25 (fun H locs hP hS => ?_)
  replace hP : Wz g c0 k [.inr (6, [.ref (ga g (k + 1)), .int 0, .int 0, .ref (ga g (k + 2)), .ref (ga g (k + 3)), .null, .null, .int 0, .int 0, .null, .null, .null, .int 0, .int 0, .int 0, .int 0, .int 0]), .inl (g.2.2.2.1, 80, .inl (fun _ => 0)), .inl (g.2.2.2.1, 33, .inl (fun _ => 0)), .inl (g.2.2.2.1, 33, .inl (fun _ => 0))] H := hP
  refine lv_aload_n hx hb dX7_init_28 rfl (lv_at hl 0 rfl) ?_
  refine lv_bipush (v := (33 : Int32)) hx hb dX7_init_29 (by decide +kernel) ?_
  refine n_newI (N' := 33) X hP hS (by show k + 1 + 3 = k + 4; omega) kx_38 (by decide) (by decide +kernel) (Nat.le_of_ble_eq_true rfl) (Nat.le_of_ble_eq_true rfl) (Nat.le_of_ble_eq_true rfl) dX7_init_31 (fun H hP hS => ?_)
  replace hP : Wz g c0 k [.inr (6, [.ref (ga g (k + 1)), .int 0, .int 0, .ref (ga g (k + 2)), .ref (ga g (k + 3)), .null, .null, .int 0, .int 0, .null, .null, .null, .int 0, .int 0, .int 0, .int 0, .int 0]), .inl (g.2.2.2.1, 80, .inl (fun _ => 0)), .inl (g.2.2.2.1, 33, .inl (fun _ => 0)), .inl (g.2.2.2.1, 33, .inl (fun _ => 0)), .inl (g.2.2.2.1, 33, .inl (fun _ => 0))] H := hP
  show W p l e rm7_init s m args below meth c H _ 4 179 _ (F0 m 33 ls [.ref (ga g (k + 4)), .ref (ga g k)])
  refine n_putF (i := 0) (j := 5) (ty := (.array .int)) X hP hS rfl (Nat.le_of_ble_eq_true rfl) rfl inX7 tyX7 tyX7_ok nmX7 (by decide) k_556 rfl hin rfl (by decide +kernel) rfl rfl (Nat.le_of_ble_eq_true rfl) dX7_init_33 (fun H locs hP hS => ?_)
  replace hP : Wz g c0 k [.inr (6, [.ref (ga g (k + 1)), .int 0, .int 0, .ref (ga g (k + 2)), .ref (ga g (k + 3)), .ref (ga g (k + 4)), .null, .int 0, .int 0, .null, .null, .null, .int 0, .int 0, .int 0, .int 0, .int 0]), .inl (g.2.2.2.1, 80, .inl (fun _ => 0)), .inl (g.2.2.2.1, 33, .inl (fun _ => 0)), .inl (g.2.2.2.1, 33, .inl (fun _ => 0)), .inl (g.2.2.2.1, 33, .inl (fun _ => 0))] H := hP
  refine lv_aload_n hx hb dX7_init_36 rfl (lv_at hl 0 rfl) ?_
  refine lv_sipush (v := (462 : Int32)) hx hb dX7_init_37 (by decide +kernel) ?_
  refine n_newI (N' := 462) X hP hS (by show k + 1 + 4 = k + 5; omega) kx_38 (by decide) (by decide +kernel) (Nat.le_of_ble_eq_true rfl) (Nat.le_of_ble_eq_true rfl) (Nat.le_of_ble_eq_true rfl) dX7_init_40 (fun H hP hS => ?_)
  replace hP : Wz g c0 k [.inr (6, [.ref (ga g (k + 1)), .int 0, .int 0, .ref (ga g (k + 2)), .ref (ga g (k + 3)), .ref (ga g (k + 4)), .null, .int 0, .int 0, .null, .null, .null, .int 0, .int 0, .int 0, .int 0, .int 0]), .inl (g.2.2.2.1, 80, .inl (fun _ => 0)), .inl (g.2.2.2.1, 33, .inl (fun _ => 0)), .inl (g.2.2.2.1, 33, .inl (fun _ => 0)), .inl (g.2.2.2.1, 33, .inl (fun _ => 0)), .inl (g.2.2.2.1, 462, .inl (fun _ => 0))] H := hP
  show W p l e rm7_init s m args below meth c H _ 5 641 _ (F0 m 42 ls [.ref (ga g (k + 5)), .ref (ga g k)])
  refine n_putF (i := 0) (j := 6) (ty := (.array .int)) X hP hS rfl (Nat.le_of_ble_eq_true rfl) rfl inX7 tyX7 tyX7_ok nmX7 (by decide) k_557 rfl hin rfl (by decide +kernel) rfl rfl (Nat.le_of_ble_eq_true rfl) dX7_init_42 (fun H locs hP hS => ?_)
  replace hP : Wz g c0 k [.inr (6, [.ref (ga g (k + 1)), .int 0, .int 0, .ref (ga g (k + 2)), .ref (ga g (k + 3)), .ref (ga g (k + 4)), .ref (ga g (k + 5)), .int 0, .int 0, .null, .null, .null, .int 0, .int 0, .int 0, .int 0, .int 0]), .inl (g.2.2.2.1, 80, .inl (fun _ => 0)), .inl (g.2.2.2.1, 33, .inl (fun _ => 0)), .inl (g.2.2.2.1, 33, .inl (fun _ => 0)), .inl (g.2.2.2.1, 33, .inl (fun _ => 0)), .inl (g.2.2.2.1, 462, .inl (fun _ => 0))] H := hP
  refine lv_aload_n hx hb dX7_init_45 rfl (lv_at hl 0 rfl) ?_
  refine lv_bipush (v := (66 : Int32)) hx hb dX7_init_46 (by decide +kernel) ?_
  refine n_newI (N' := 66) X hP hS (by show k + 1 + 5 = k + 6; omega) kx_38 (by decide) (by decide +kernel) (Nat.le_of_ble_eq_true rfl) (Nat.le_of_ble_eq_true rfl) (Nat.le_of_ble_eq_true rfl) dX7_init_48 (fun H hP hS => ?_)
  replace hP : Wz g c0 k [.inr (6, [.ref (ga g (k + 1)), .int 0, .int 0, .ref (ga g (k + 2)), .ref (ga g (k + 3)), .ref (ga g (k + 4)), .ref (ga g (k + 5)), .int 0, .int 0, .null, .null, .null, .int 0, .int 0, .int 0, .int 0, .int 0]), .inl (g.2.2.2.1, 80, .inl (fun _ => 0)), .inl (g.2.2.2.1, 33, .inl (fun _ => 0)), .inl (g.2.2.2.1, 33, .inl (fun _ => 0)), .inl (g.2.2.2.1, 33, .inl (fun _ => 0)), .inl (g.2.2.2.1, 462, .inl (fun _ => 0)), .inl (g.2.2.2.1, 66, .inl (fun _ => 0))] H := hP
  show W p l e rm7_init s m args below meth c H _ 6 707 _ (F0 m 50 ls [.ref (ga g (k + 6)), .ref (ga g k)])
  refine n_putF (i := 0) (j := 9) (ty := (.array .int)) X hP hS rfl (Nat.le_of_ble_eq_true rfl) rfl inX7 tyX7 tyX7_ok nmX7 (by decide) k_560 rfl hin rfl (by decide +kernel) rfl rfl (Nat.le_of_ble_eq_true rfl) dX7_init_50 (fun H locs hP hS => ?_)
  replace hP : Wz g c0 k [.inr (6, [.ref (ga g (k + 1)), .int 0, .int 0, .ref (ga g (k + 2)), .ref (ga g (k + 3)), .ref (ga g (k + 4)), .ref (ga g (k + 5)), .int 0, .int 0, .ref (ga g (k + 6)), .null, .null, .int 0, .int 0, .int 0, .int 0, .int 0]), .inl (g.2.2.2.1, 80, .inl (fun _ => 0)), .inl (g.2.2.2.1, 33, .inl (fun _ => 0)), .inl (g.2.2.2.1, 33, .inl (fun _ => 0)), .inl (g.2.2.2.1, 33, .inl (fun _ => 0)), .inl (g.2.2.2.1, 462, .inl (fun _ => 0)), .inl (g.2.2.2.1, 66, .inl (fun _ => 0))] H := hP
  refine lv_aload_n hx hb dX7_init_53 rfl (lv_at hl 0 rfl) ?_
  refine lv_iconst (v := (2 : Int32)) hx hb dX7_init_54 (by decide +kernel) ?_
  refine n_newZ (N' := 2) X hP hS (by show k + 1 + 6 = k + 7; omega) kx_603 (by decide) (by decide +kernel) (Nat.le_of_ble_eq_true rfl) (Nat.le_of_ble_eq_true rfl) (Nat.le_of_ble_eq_true rfl) dX7_init_55 (fun H hP hS => ?_)
  replace hP : Wz g c0 k [.inr (6, [.ref (ga g (k + 1)), .int 0, .int 0, .ref (ga g (k + 2)), .ref (ga g (k + 3)), .ref (ga g (k + 4)), .ref (ga g (k + 5)), .int 0, .int 0, .ref (ga g (k + 6)), .null, .null, .int 0, .int 0, .int 0, .int 0, .int 0]), .inl (g.2.2.2.1, 80, .inl (fun _ => 0)), .inl (g.2.2.2.1, 33, .inl (fun _ => 0)), .inl (g.2.2.2.1, 33, .inl (fun _ => 0)), .inl (g.2.2.2.1, 33, .inl (fun _ => 0)), .inl (g.2.2.2.1, 462, .inl (fun _ => 0)), .inl (g.2.2.2.1, 66, .inl (fun _ => 0)), .inl (g.2.2.2.2.1, 2, .inl (fun _ => 0))] H := hP
  show W p l e rm7_init s m args below meth c H _ 7 709 _ (F0 m 57 ls [.ref (ga g (k + 7)), .ref (ga g k)])
  refine n_putF (i := 0) (j := 10) (ty := (.array .boolean)) X hP hS rfl (Nat.le_of_ble_eq_true rfl) rfl inX7 tyX7 tyX7_ok nmX7 (by decide) k_561 rfl hin rfl (by decide +kernel) rfl rfl (Nat.le_of_ble_eq_true rfl) dX7_init_57 (fun H locs hP hS => ?_)
  replace hP : Wz g c0 k [.inr (6, [.ref (ga g (k + 1)), .int 0, .int 0, .ref (ga g (k + 2)), .ref (ga g (k + 3)), .ref (ga g (k + 4)), .ref (ga g (k + 5)), .int 0, .int 0, .ref (ga g (k + 6)), .ref (ga g (k + 7)), .null, .int 0, .int 0, .int 0, .int 0, .int 0]), .inl (g.2.2.2.1, 80, .inl (fun _ => 0)), .inl (g.2.2.2.1, 33, .inl (fun _ => 0)), .inl (g.2.2.2.1, 33, .inl (fun _ => 0)), .inl (g.2.2.2.1, 33, .inl (fun _ => 0)), .inl (g.2.2.2.1, 462, .inl (fun _ => 0)), .inl (g.2.2.2.1, 66, .inl (fun _ => 0)), .inl (g.2.2.2.2.1, 2, .inl (fun _ => 0))] H := hP
  refine lv_aload_n hx hb dX7_init_60 rfl (lv_at hl 0 rfl) ?_
  refine lv_sipush (v := (1001 : Int32)) hx hb dX7_init_61 (by decide +kernel) ?_
  refine n_newI (N' := 1001) X hP hS (by show k + 1 + 7 = k + 8; omega) kx_38 (by decide) (by decide +kernel) (Nat.le_of_ble_eq_true rfl) (Nat.le_of_ble_eq_true rfl) (Nat.le_of_ble_eq_true rfl) dX7_init_64 (fun H hP hS => ?_)
  replace hP : Wz g c0 k [.inr (6, [.ref (ga g (k + 1)), .int 0, .int 0, .ref (ga g (k + 2)), .ref (ga g (k + 3)), .ref (ga g (k + 4)), .ref (ga g (k + 5)), .int 0, .int 0, .ref (ga g (k + 6)), .ref (ga g (k + 7)), .null, .int 0, .int 0, .int 0, .int 0, .int 0]), .inl (g.2.2.2.1, 80, .inl (fun _ => 0)), .inl (g.2.2.2.1, 33, .inl (fun _ => 0)), .inl (g.2.2.2.1, 33, .inl (fun _ => 0)), .inl (g.2.2.2.1, 33, .inl (fun _ => 0)), .inl (g.2.2.2.1, 462, .inl (fun _ => 0)), .inl (g.2.2.2.1, 66, .inl (fun _ => 0)), .inl (g.2.2.2.2.1, 2, .inl (fun _ => 0)), .inl (g.2.2.2.1, 1001, .inl (fun _ => 0))] H := hP
  show W p l e rm7_init s m args below meth c H _ 8 1710 _ (F0 m 66 ls [.ref (ga g (k + 8)), .ref (ga g k)])
  refine n_putF (i := 0) (j := 11) (ty := (.array .int)) X hP hS rfl (Nat.le_of_ble_eq_true rfl) rfl inX7 tyX7 tyX7_ok nmX7 (by decide) k_562 rfl hin rfl (by decide +kernel) rfl rfl (Nat.le_of_ble_eq_true rfl) dX7_init_66 (fun H locs hP hS => ?_)
  replace hP : Wz g c0 k [.inr (6, [.ref (ga g (k + 1)), .int 0, .int 0, .ref (ga g (k + 2)), .ref (ga g (k + 3)), .ref (ga g (k + 4)), .ref (ga g (k + 5)), .int 0, .int 0, .ref (ga g (k + 6)), .ref (ga g (k + 7)), .ref (ga g (k + 8)), .int 0, .int 0, .int 0, .int 0, .int 0]), .inl (g.2.2.2.1, 80, .inl (fun _ => 0)), .inl (g.2.2.2.1, 33, .inl (fun _ => 0)), .inl (g.2.2.2.1, 33, .inl (fun _ => 0)), .inl (g.2.2.2.1, 33, .inl (fun _ => 0)), .inl (g.2.2.2.1, 462, .inl (fun _ => 0)), .inl (g.2.2.2.1, 66, .inl (fun _ => 0)), .inl (g.2.2.2.2.1, 2, .inl (fun _ => 0)), .inl (g.2.2.2.1, 1001, .inl (fun _ => 0))] H := hP
  refine lv_aload_n hx hb dX7_init_69 rfl (lv_at hl 0 rfl) ?_
  refine n_get (i := 0) (j := 3) X hP rfl (Nat.le_of_ble_eq_true rfl) rfl inX7 (by decide) k_554 rfl dX7_init_70 ?_
  refine lv_iconst (v := (0 : Int32)) hx hb dX7_init_73 (by decide +kernel) ?_
  refine lv_bipush (v := (100 : Int32)) hx hb dX7_init_74 (by decide +kernel) ?_
  refine n_iast (i := 2) (j := 0) X hP hS rfl (Nat.le_of_ble_eq_true rfl) (by decide +kernel) (by decide +kernel) dX7_init_76 (fun H locs hP hS => ?_)
  replace hP : Wz g c0 k [.inr (6, [.ref (ga g (k + 1)), .int 0, .int 0, .ref (ga g (k + 2)), .ref (ga g (k + 3)), .ref (ga g (k + 4)), .ref (ga g (k + 5)), .int 0, .int 0, .ref (ga g (k + 6)), .ref (ga g (k + 7)), .ref (ga g (k + 8)), .int 0, .int 0, .int 0, .int 0, .int 0]), .inl (g.2.2.2.1, 80, .inl (fun _ => 0)), .inl (g.2.2.2.1, 33, .inl (upd (fun _ => 0) 0 (100))), .inl (g.2.2.2.1, 33, .inl (fun _ => 0)), .inl (g.2.2.2.1, 33, .inl (fun _ => 0)), .inl (g.2.2.2.1, 462, .inl (fun _ => 0)), .inl (g.2.2.2.1, 66, .inl (fun _ => 0)), .inl (g.2.2.2.2.1, 2, .inl (fun _ => 0)), .inl (g.2.2.2.1, 1001, .inl (fun _ => 0))] H := hP
  refine lv_aload_n hx hb dX7_init_77 rfl (lv_at hl 0 rfl) ?_
  refine n_get (i := 0) (j := 3) X hP rfl (Nat.le_of_ble_eq_true rfl) rfl inX7 (by decide) k_554 rfl dX7_init_78 ?_
  refine lv_iconst (v := (1 : Int32)) hx hb dX7_init_81 (by decide +kernel) ?_
  refine lv_sipush (v := (200 : Int32)) hx hb dX7_init_82 (by decide +kernel) ?_
  refine n_iast (i := 2) (j := 1) X hP hS rfl (Nat.le_of_ble_eq_true rfl) (by decide +kernel) (by decide +kernel) dX7_init_85 (fun H locs hP hS => ?_)
  replace hP : Wz g c0 k [.inr (6, [.ref (ga g (k + 1)), .int 0, .int 0, .ref (ga g (k + 2)), .ref (ga g (k + 3)), .ref (ga g (k + 4)), .ref (ga g (k + 5)), .int 0, .int 0, .ref (ga g (k + 6)), .ref (ga g (k + 7)), .ref (ga g (k + 8)), .int 0, .int 0, .int 0, .int 0, .int 0]), .inl (g.2.2.2.1, 80, .inl (fun _ => 0)), .inl (g.2.2.2.1, 33, .inl (upd (upd (fun _ => 0) 0 (100)) 1 (200))), .inl (g.2.2.2.1, 33, .inl (fun _ => 0)), .inl (g.2.2.2.1, 33, .inl (fun _ => 0)), .inl (g.2.2.2.1, 462, .inl (fun _ => 0)), .inl (g.2.2.2.1, 66, .inl (fun _ => 0)), .inl (g.2.2.2.2.1, 2, .inl (fun _ => 0)), .inl (g.2.2.2.1, 1001, .inl (fun _ => 0))] H := hP
  refine lv_aload_n hx hb dX7_init_86 rfl (lv_at hl 0 rfl) ?_
  refine n_get (i := 0) (j := 3) X hP rfl (Nat.le_of_ble_eq_true rfl) rfl inX7 (by decide) k_554 rfl dX7_init_87 ?_
  refine lv_bipush (v := (7 : Int32)) hx hb dX7_init_90 (by decide +kernel) ?_
  refine lv_bipush (v := (-9 : Int32)) hx hb dX7_init_92 (by decide +kernel) ?_
  refine n_iast (i := 2) (j := 7) X hP hS rfl (Nat.le_of_ble_eq_true rfl) (by decide +kernel) (by decide +kernel) dX7_init_94 (fun H locs hP hS => ?_)
  replace hP : Wz g c0 k [.inr (6, [.ref (ga g (k + 1)), .int 0, .int 0, .ref (ga g (k + 2)), .ref (ga g (k + 3)), .ref (ga g (k + 4)), .ref (ga g (k + 5)), .int 0, .int 0, .ref (ga g (k + 6)), .ref (ga g (k + 7)), .ref (ga g (k + 8)), .int 0, .int 0, .int 0, .int 0, .int 0]), .inl (g.2.2.2.1, 80, .inl (fun _ => 0)), .inl (g.2.2.2.1, 33, .inl (upd (upd (upd (fun _ => 0) 0 (100)) 1 (200)) 7 (-9))), .inl (g.2.2.2.1, 33, .inl (fun _ => 0)), .inl (g.2.2.2.1, 33, .inl (fun _ => 0)), .inl (g.2.2.2.1, 462, .inl (fun _ => 0)), .inl (g.2.2.2.1, 66, .inl (fun _ => 0)), .inl (g.2.2.2.2.1, 2, .inl (fun _ => 0)), .inl (g.2.2.2.1, 1001, .inl (fun _ => 0))] H := hP
  exact n_vret X hr hlk hP hS dX7_init_95
end CTORS
end
