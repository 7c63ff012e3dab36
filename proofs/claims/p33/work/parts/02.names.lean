def RX0 : String := "StepperPlanner$History"
def TX0 : u_T := fun k => match k with
  | 0 => ("StepperPlanner$History", "ring", "[LStepperPlanner$State;", true)
  | 1 => ("StepperPlanner$History", "end", "I", false)
  | _ => ("StepperPlanner$History", "count", "I", false)
def tyX0 : Nat → FieldType := fun k => match k with
  | 0 => .array (.object "StepperPlanner$State")
  | 1 => .int
  | _ => .int
theorem nmX0 : ∀ a, a < 3 → ∀ b, b < 3 → a ≠ b → (TX0 a).2.1 ≠ (TX0 b).2.1 := by decide +kernel
theorem tyX0_ok : ∀ k, k < 3 → parseFieldDescriptor (TX0 k).2.2.1 = some (tyX0 k) := by decide +kernel
abbrev cX0_init : ByteArray := prog_2_method_1_code
def yX0_init : MethodName := ⟨RX0, "<init>", "()V"⟩
abbrev cX0_at : ByteArray := prog_2_method_2_code
def yX0_at : MethodName := ⟨RX0, "at", "(I)LStepperPlanner$State;"⟩
abbrev cX0_remember : ByteArray := prog_2_method_3_code
def yX0_remember : MethodName := ⟨RX0, "remember", "(LStepperPlanner$State;)V"⟩
abbrev cX0_takeBack : ByteArray := prog_2_method_4_code
def yX0_takeBack : MethodName := ⟨RX0, "takeBack", "(LStepperPlanner$State;)Z"⟩
abbrev cX0_forget : ByteArray := prog_2_method_5_code
def yX0_forget : MethodName := ⟨RX0, "forget", "()V"⟩
def RX1 : String := "StepperPlanner$Profile"
def TX1 : u_T := fun k => match k with
  | _ => ("", "", "", false)
def tyX1 : Nat → FieldType := fun k => match k with
  | _ => .int
theorem nmX1 : ∀ a, a < 0 → ∀ b, b < 0 → a ≠ b → (TX1 a).2.1 ≠ (TX1 b).2.1 := by decide +kernel
theorem tyX1_ok : ∀ k, k < 0 → parseFieldDescriptor (TX1 k).2.2.1 = some (tyX1 k) := by decide +kernel
abbrev cX1_root : ByteArray := prog_3_method_2_code
def yX1_root : MethodName := ⟨RX1, "root", "(III)I"⟩
abbrev cX1_rootAfter : ByteArray := prog_3_method_3_code
def yX1_rootAfter : MethodName := ⟨RX1, "rootAfter", "(III)I"⟩
abbrev cX1_cruiseInterval : ByteArray := prog_3_method_4_code
def yX1_cruiseInterval : MethodName := ⟨RX1, "cruiseInterval", "(I)I"⟩
abbrev cX1_rampAtLeast : ByteArray := prog_3_method_5_code
def yX1_rampAtLeast : MethodName := ⟨RX1, "rampAtLeast", "(III)I"⟩
abbrev cX1_ticksOfMove : ByteArray := prog_3_method_6_code
def yX1_ticksOfMove : MethodName := ⟨RX1, "ticksOfMove", "(III)I"⟩
abbrev cX1_leastCandidate : ByteArray := prog_3_method_7_code
def yX1_leastCandidate : MethodName := ⟨RX1, "leastCandidate", "(III)I"⟩
def RX2 : String := "StepperPlanner$Ramp"
def TX2 : u_T := fun k => match k with
  | 0 => ("StepperPlanner$Ramp", "acceleration", "I", false)
  | 1 => ("StepperPlanner$Ramp", "speedLimit", "I", false)
  | 2 => ("StepperPlanner$Ramp", "cruise", "I", false)
  | 3 => ("StepperPlanner$Ramp", "top", "I", false)
  | _ => ("StepperPlanner$Ramp", "roots", "[I", true)
def tyX2 : Nat → FieldType := fun k => match k with
  | 0 => .int
  | 1 => .int
  | 2 => .int
  | 3 => .int
  | _ => .array .int
theorem nmX2 : ∀ a, a < 5 → ∀ b, b < 5 → a ≠ b → (TX2 a).2.1 ≠ (TX2 b).2.1 := by decide +kernel
theorem tyX2_ok : ∀ k, k < 5 → parseFieldDescriptor (TX2 k).2.2.1 = some (tyX2 k) := by decide +kernel
abbrev cX2_init : ByteArray := prog_4_method_1_code
def yX2_init : MethodName := ⟨RX2, "<init>", "()V"⟩
abbrev cX2_prepare : ByteArray := prog_4_method_2_code
def yX2_prepare : MethodName := ⟨RX2, "prepare", "(II)V"⟩
abbrev cX2_fillRoots : ByteArray := prog_4_method_3_code
def yX2_fillRoots : MethodName := ⟨RX2, "fillRoots", "()V"⟩
abbrev cX2_findTop : ByteArray := prog_4_method_4_code
def yX2_findTop : MethodName := ⟨RX2, "findTop", "()I"⟩
abbrev cX2_rampInterval : ByteArray := prog_4_method_5_code
def yX2_rampInterval : MethodName := ⟨RX2, "rampInterval", "(I)I"⟩
abbrev cX2_intervalOf : ByteArray := prog_4_method_6_code
def yX2_intervalOf : MethodName := ⟨RX2, "intervalOf", "(I)I"⟩
abbrev cX2_ticksOfMove : ByteArray := prog_4_method_7_code
def yX2_ticksOfMove : MethodName := ⟨RX2, "ticksOfMove", "(I)I"⟩
abbrev cX2_approximation : ByteArray := prog_4_method_8_code
def yX2_approximation : MethodName := ⟨RX2, "approximation", "(I)I"⟩
def RX3 : String := "StepperPlanner$SaveSlot"
def TX3 : u_T := fun k => match k with
  | 0 => ("StepperPlanner$SaveSlot", "state", "LStepperPlanner$State;", true)
  | _ => ("StepperPlanner$SaveSlot", "filled", "Z", false)
def tyX3 : Nat → FieldType := fun k => match k with
  | 0 => .object "StepperPlanner$State"
  | _ => .boolean
theorem nmX3 : ∀ a, a < 2 → ∀ b, b < 2 → a ≠ b → (TX3 a).2.1 ≠ (TX3 b).2.1 := by decide +kernel
theorem tyX3_ok : ∀ k, k < 2 → parseFieldDescriptor (TX3 k).2.2.1 = some (tyX3 k) := by decide +kernel
abbrev cX3_init : ByteArray := prog_5_method_1_code
def yX3_init : MethodName := ⟨RX3, "<init>", "()V"⟩
def RX4 : String := "StepperPlanner$SetupText"
def TX4 : u_T := fun k => match k with
  | 0 => ("StepperPlanner$SetupText", "characters", "[I", true)
  | 1 => ("StepperPlanner$SetupText", "length", "I", false)
  | 2 => ("StepperPlanner$SetupText", "at", "I", false)
  | _ => ("StepperPlanner$SetupText", "fault", "I", false)
def tyX4 : Nat → FieldType := fun k => match k with
  | 0 => .array .int
  | 1 => .int
  | 2 => .int
  | _ => .int
theorem nmX4 : ∀ a, a < 4 → ∀ b, b < 4 → a ≠ b → (TX4 a).2.1 ≠ (TX4 b).2.1 := by decide +kernel
theorem tyX4_ok : ∀ k, k < 4 → parseFieldDescriptor (TX4 k).2.2.1 = some (tyX4 k) := by decide +kernel
abbrev cX4_init : ByteArray := prog_6_method_1_code
def yX4_init : MethodName := ⟨RX4, "<init>", "()V"⟩
abbrev cX4_add : ByteArray := prog_6_method_2_code
def yX4_add : MethodName := ⟨RX4, "add", "(I)Z"⟩
abbrev cX4_readInto : ByteArray := prog_6_method_3_code
def yX4_readInto : MethodName := ⟨RX4, "readInto", "(LStepperPlanner$State;)I"⟩
abbrev cX4_takeItem : ByteArray := prog_6_method_4_code
def yX4_takeItem : MethodName := ⟨RX4, "takeItem", "(LStepperPlanner$State;)V"⟩
abbrev cX4_present : ByteArray := prog_6_method_5_code
def yX4_present : MethodName := ⟨RX4, "present", "()I"⟩
abbrev cX4_failAt : ByteArray := prog_6_method_6_code
def yX4_failAt : MethodName := ⟨RX4, "failAt", "(I)V"⟩
abbrev cX4_takeLetter : ByteArray := prog_6_method_7_code
def yX4_takeLetter : MethodName := ⟨RX4, "takeLetter", "(I)V"⟩
abbrev cX4_takeDistance : ByteArray := prog_6_method_8_code
def yX4_takeDistance : MethodName := ⟨RX4, "takeDistance", "()I"⟩
abbrev cX4_takePositive : ByteArray := prog_6_method_9_code
def yX4_takePositive : MethodName := ⟨RX4, "takePositive", "(I)I"⟩
abbrev cX4_takeDigits : ByteArray := prog_6_method_10_code
def yX4_takeDigits : MethodName := ⟨RX4, "takeDigits", "(I)I"⟩
def RX5 : String := "StepperPlanner$State"
def TX5 : u_T := fun k => match k with
  | 0 => ("StepperPlanner$State", "acceleration", "I", false)
  | 1 => ("StepperPlanner$State", "speedLimit", "I", false)
  | 2 => ("StepperPlanner$State", "x", "I", false)
  | 3 => ("StepperPlanner$State", "y", "I", false)
  | 4 => ("StepperPlanner$State", "ticks", "I", false)
  | 5 => ("StepperPlanner$State", "count", "I", false)
  | 6 => ("StepperPlanner$State", "distancesX", "[I", true)
  | 7 => ("StepperPlanner$State", "distancesY", "[I", true)
  | 8 => ("StepperPlanner$State", "waits", "[I", true)
  | 9 => ("StepperPlanner$State", "made", "I", false)
  | 10 => ("StepperPlanner$State", "left", "I", false)
  | _ => ("StepperPlanner$State", "index", "I", false)
def tyX5 : Nat → FieldType := fun k => match k with
  | 0 => .int
  | 1 => .int
  | 2 => .int
  | 3 => .int
  | 4 => .int
  | 5 => .int
  | 6 => .array .int
  | 7 => .array .int
  | 8 => .array .int
  | 9 => .int
  | 10 => .int
  | _ => .int
theorem nmX5 : ∀ a, a < 12 → ∀ b, b < 12 → a ≠ b → (TX5 a).2.1 ≠ (TX5 b).2.1 := by decide +kernel
theorem tyX5_ok : ∀ k, k < 12 → parseFieldDescriptor (TX5 k).2.2.1 = some (tyX5 k) := by decide +kernel
abbrev cX5_init : ByteArray := prog_7_method_1_code
def yX5_init : MethodName := ⟨RX5, "<init>", "()V"⟩
abbrev cX5_become : ByteArray := prog_7_method_2_code
def yX5_become : MethodName := ⟨RX5, "become", "(LStepperPlanner$State;)V"⟩
abbrev cX5_clear : ByteArray := prog_7_method_3_code
def yX5_clear : MethodName := ⟨RX5, "clear", "()V"⟩
abbrev cX5_shownPosition : ByteArray := prog_7_method_4_code
def yX5_shownPosition : MethodName := ⟨RX5, "shownPosition", "(I)I"⟩
abbrev cX5_isFull : ByteArray := prog_7_method_5_code
def yX5_isFull : MethodName := ⟨RX5, "isFull", "()Z"⟩
abbrev cX5_isMoving : ByteArray := prog_7_method_6_code
def yX5_isMoving : MethodName := ⟨RX5, "isMoving", "()Z"⟩
abbrev cX5_hasItem : ByteArray := prog_7_method_7_code
def yX5_hasItem : MethodName := ⟨RX5, "hasItem", "(I)Z"⟩
abbrev cX5_isWait : ByteArray := prog_7_method_8_code
def yX5_isWait : MethodName := ⟨RX5, "isWait", "(I)Z"⟩
abbrev cX5_lengthOf : ByteArray := prog_7_method_9_code
def yX5_lengthOf : MethodName := ⟨RX5, "lengthOf", "(I)I"⟩
abbrev cX5_stepsLeftOf : ByteArray := prog_7_method_10_code
def yX5_stepsLeftOf : MethodName := ⟨RX5, "stepsLeftOf", "(I)I"⟩
abbrev cX5_addItem : ByteArray := prog_7_method_11_code
def yX5_addItem : MethodName := ⟨RX5, "addItem", "(III)V"⟩
abbrev cX5_dropItem : ByteArray := prog_7_method_12_code
def yX5_dropItem : MethodName := ⟨RX5, "dropItem", "(I)V"⟩
abbrev cX5_halt : ByteArray := prog_7_method_13_code
def yX5_halt : MethodName := ⟨RX5, "halt", "()I"⟩
abbrev cX5_advance : ByteArray := prog_7_method_14_code
def yX5_advance : MethodName := ⟨RX5, "advance", "(LStepperPlanner$Ramp;II)I"⟩
abbrev cX5_passWait : ByteArray := prog_7_method_15_code
def yX5_passWait : MethodName := ⟨RX5, "passWait", "(II)I"⟩
abbrev cX5_advanceMove : ByteArray := prog_7_method_16_code
def yX5_advanceMove : MethodName := ⟨RX5, "advanceMove", "(LStepperPlanner$Ramp;II)I"⟩
abbrev cX5_passWholeMove : ByteArray := prog_7_method_17_code
def yX5_passWholeMove : MethodName := ⟨RX5, "passWholeMove", "(I)V"⟩
abbrev cX5_makeSteps : ByteArray := prog_7_method_18_code
def yX5_makeSteps : MethodName := ⟨RX5, "makeSteps", "(LStepperPlanner$Ramp;II)V"⟩
abbrev cX5_nextIndex : ByteArray := prog_7_method_19_code
def yX5_nextIndex : MethodName := ⟨RX5, "nextIndex", "(I)I"⟩
abbrev cX5_moveAxes : ByteArray := prog_7_method_20_code
def yX5_moveAxes : MethodName := ⟨RX5, "moveAxes", "(I)V"⟩
abbrev cX5_way : ByteArray := prog_7_method_21_code
def yX5_way : MethodName := ⟨RX5, "way", "(III)I"⟩
def RX6 : String := "StepperPlanner"
def TX6 : u_T := fun k => match k with
  | 0 => ("StepperPlanner", "text", "LStepperPlanner$SetupText;", true)
  | 1 => ("StepperPlanner", "state", "LStepperPlanner$State;", true)
  | 2 => ("StepperPlanner", "copy", "LStepperPlanner$State;", true)
  | 3 => ("StepperPlanner", "history", "LStepperPlanner$History;", true)
  | 4 => ("StepperPlanner", "firstSlot", "LStepperPlanner$SaveSlot;", true)
  | 5 => ("StepperPlanner", "secondSlot", "LStepperPlanner$SaveSlot;", true)
  | _ => ("StepperPlanner", "ramp", "LStepperPlanner$Ramp;", true)
def tyX6 : Nat → FieldType := fun k => match k with
  | 0 => .object "StepperPlanner$SetupText"
  | 1 => .object "StepperPlanner$State"
  | 2 => .object "StepperPlanner$State"
  | 3 => .object "StepperPlanner$History"
  | 4 => .object "StepperPlanner$SaveSlot"
  | 5 => .object "StepperPlanner$SaveSlot"
  | _ => .object "StepperPlanner$Ramp"
theorem nmX6 : ∀ a, a < 7 → ∀ b, b < 7 → a ≠ b → (TX6 a).2.1 ≠ (TX6 b).2.1 := by decide +kernel
theorem tyX6_ok : ∀ k, k < 7 → parseFieldDescriptor (TX6 k).2.2.1 = some (tyX6 k) := by decide +kernel
abbrev cX6_init : ByteArray := prog_1_method_1_code
def yX6_init : MethodName := ⟨RX6, "<init>", "()V"⟩
abbrev cX6_append : ByteArray := prog_1_method_2_code
def yX6_append : MethodName := ⟨RX6, "append", "(I)I"⟩
abbrev cX6_clearText : ByteArray := prog_1_method_3_code
def yX6_clearText : MethodName := ⟨RX6, "clearText", "()I"⟩
abbrev cX6_errorPosition : ByteArray := prog_1_method_4_code
def yX6_errorPosition : MethodName := ⟨RX6, "errorPosition", "()I"⟩
abbrev cX6_load : ByteArray := prog_1_method_5_code
def yX6_load : MethodName := ⟨RX6, "load", "()I"⟩
abbrev cX6_position : ByteArray := prog_1_method_6_code
def yX6_position : MethodName := ⟨RX6, "position", "(I)I"⟩
abbrev cX6_clock : ByteArray := prog_1_method_7_code
def yX6_clock : MethodName := ⟨RX6, "clock", "()I"⟩
abbrev cX6_queueLength : ByteArray := prog_1_method_8_code
def yX6_queueLength : MethodName := ⟨RX6, "queueLength", "()I"⟩
abbrev cX6_itemAt : ByteArray := prog_1_method_9_code
def yX6_itemAt : MethodName := ⟨RX6, "itemAt", "(I)I"⟩
abbrev cX6_rampIndex : ByteArray := prog_1_method_10_code
def yX6_rampIndex : MethodName := ⟨RX6, "rampIndex", "()I"⟩
abbrev cX6_topIndex : ByteArray := prog_1_method_11_code
def yX6_topIndex : MethodName := ⟨RX6, "topIndex", "()I"⟩
abbrev cX6_interval : ByteArray := prog_1_method_12_code
def yX6_interval : MethodName := ⟨RX6, "interval", "(I)I"⟩
abbrev cX6_approximateInterval : ByteArray := prog_1_method_13_code
def yX6_approximateInterval : MethodName := ⟨RX6, "approximateInterval", "(I)I"⟩
abbrev cX6_setAcceleration : ByteArray := prog_1_method_14_code
def yX6_setAcceleration : MethodName := ⟨RX6, "setAcceleration", "(I)I"⟩
abbrev cX6_setSpeedLimit : ByteArray := prog_1_method_15_code
def yX6_setSpeedLimit : MethodName := ⟨RX6, "setSpeedLimit", "(I)I"⟩
abbrev cX6_addMove : ByteArray := prog_1_method_16_code
def yX6_addMove : MethodName := ⟨RX6, "addMove", "(II)I"⟩
abbrev cX6_addWait : ByteArray := prog_1_method_17_code
def yX6_addWait : MethodName := ⟨RX6, "addWait", "(I)I"⟩
abbrev cX6_step : ByteArray := prog_1_method_18_code
def yX6_step : MethodName := ⟨RX6, "step", "()I"⟩
abbrev cX6_run : ByteArray := prog_1_method_19_code
def yX6_run : MethodName := ⟨RX6, "run", "(I)I"⟩
abbrev cX6_stop : ByteArray := prog_1_method_20_code
def yX6_stop : MethodName := ⟨RX6, "stop", "()I"⟩
abbrev cX6_removeItem : ByteArray := prog_1_method_21_code
def yX6_removeItem : MethodName := ⟨RX6, "removeItem", "(I)I"⟩
abbrev cX6_undo : ByteArray := prog_1_method_22_code
def yX6_undo : MethodName := ⟨RX6, "undo", "()I"⟩
abbrev cX6_ticksLeft : ByteArray := prog_1_method_23_code
def yX6_ticksLeft : MethodName := ⟨RX6, "ticksLeft", "()I"⟩
abbrev cX6_moveTicks : ByteArray := prog_1_method_24_code
def yX6_moveTicks : MethodName := ⟨RX6, "moveTicks", "(I)I"⟩
abbrev cX6_positionAfter : ByteArray := prog_1_method_25_code
def yX6_positionAfter : MethodName := ⟨RX6, "positionAfter", "(II)I"⟩
abbrev cX6_leastAcceleration : ByteArray := prog_1_method_26_code
def yX6_leastAcceleration : MethodName := ⟨RX6, "leastAcceleration", "(II)I"⟩
abbrev cX6_greatestLength : ByteArray := prog_1_method_27_code
def yX6_greatestLength : MethodName := ⟨RX6, "greatestLength", "(I)I"⟩
abbrev cX6_runScript : ByteArray := prog_1_method_28_code
def yX6_runScript : MethodName := ⟨RX6, "runScript", "(IJ)I"⟩
abbrev cX6_randomSpeeds : ByteArray := prog_1_method_29_code
def yX6_randomSpeeds : MethodName := ⟨RX6, "randomSpeeds", "(JI)I"⟩
abbrev cX6_save : ByteArray := prog_1_method_30_code
def yX6_save : MethodName := ⟨RX6, "save", "(I)I"⟩
abbrev cX6_restore : ByteArray := prog_1_method_31_code
def yX6_restore : MethodName := ⟨RX6, "restore", "(I)I"⟩
abbrev cX6_isAxis : ByteArray := prog_1_method_32_code
def yX6_isAxis : MethodName := ⟨RX6, "isAxis", "(I)Z"⟩
abbrev cX6_isSlot : ByteArray := prog_1_method_33_code
def yX6_isSlot : MethodName := ⟨RX6, "isSlot", "(I)Z"⟩
abbrev cX6_isIndex : ByteArray := prog_1_method_34_code
def yX6_isIndex : MethodName := ⟨RX6, "isIndex", "(I)Z"⟩
abbrev cX6_isPositive : ByteArray := prog_1_method_35_code
def yX6_isPositive : MethodName := ⟨RX6, "isPositive", "(II)Z"⟩
abbrev cX6_isDistance : ByteArray := prog_1_method_36_code
def yX6_isDistance : MethodName := ⟨RX6, "isDistance", "(I)Z"⟩
abbrev cX6_slotAt : ByteArray := prog_1_method_37_code
def yX6_slotAt : MethodName := ⟨RX6, "slotAt", "(I)LStepperPlanner$SaveSlot;"⟩
abbrev cX6_presentRamp : ByteArray := prog_1_method_38_code
def yX6_presentRamp : MethodName := ⟨RX6, "presentRamp", "()LStepperPlanner$Ramp;"⟩
abbrev cX6_succeeds : ByteArray := prog_1_method_39_code
def yX6_succeeds : MethodName := ⟨RX6, "succeeds", "(I)Z"⟩
def RX7 : String := "StepperPlannerModel"
def TX7 : u_T := fun k => match k with
  | _ => ("", "", "", false)
def tyX7 : Nat → FieldType := fun k => match k with
  | _ => .int
theorem nmX7 : ∀ a, a < 0 → ∀ b, b < 0 → a ≠ b → (TX7 a).2.1 ≠ (TX7 b).2.1 := by decide +kernel
theorem tyX7_ok : ∀ k, k < 0 → parseFieldDescriptor (TX7 k).2.2.1 = some (tyX7 k) := by decide +kernel
def RJ9 : String := "java/lang/Math"
def TJ9 : u_T := fun k => match k with
  | _ => ("", "", "", false)
def tyJ9 : Nat → FieldType := fun k => match k with
  | _ => .int
theorem nmJ9 : ∀ a, a < 0 → ∀ b, b < 0 → a ≠ b → (TJ9 a).2.1 ≠ (TJ9 b).2.1 := by decide +kernel
theorem tyJ9_ok : ∀ k, k < 0 → parseFieldDescriptor (TJ9 k).2.2.1 = some (tyJ9 k) := by decide +kernel
abbrev cJ9_floorMod_7cf53 : ByteArray := prog_10_method_50_code
def yJ9_floorMod_7cf53 : MethodName := ⟨RJ9, "floorMod", "(II)I"⟩
abbrev cJ9_abs_0f7a4 : ByteArray := prog_10_method_59_code
def yJ9_abs_0f7a4 : MethodName := ⟨RJ9, "abs", "(I)I"⟩
abbrev cJ9_max_7cf53 : ByteArray := prog_10_method_65_code
def yJ9_max_7cf53 : MethodName := ⟨RJ9, "max", "(II)I"⟩
abbrev cJ9_max_f86c9 : ByteArray := prog_10_method_66_code
def yJ9_max_f86c9 : MethodName := ⟨RJ9, "max", "(JJ)J"⟩
abbrev cJ9_min_7cf53 : ByteArray := prog_10_method_69_code
def yJ9_min_7cf53 : MethodName := ⟨RJ9, "min", "(II)I"⟩
abbrev cJ9_min_f86c9 : ByteArray := prog_10_method_70_code
def yJ9_min_f86c9 : MethodName := ⟨RJ9, "min", "(JJ)J"⟩
def RJ0 : String := "java/lang/String"
def TJ0 : u_T := fun k => match k with
  | _ => ("", "", "", false)
def tyJ0 : Nat → FieldType := fun k => match k with
  | _ => .int
theorem nmJ0 : ∀ a, a < 0 → ∀ b, b < 0 → a ≠ b → (TJ0 a).2.1 ≠ (TJ0 b).2.1 := by decide +kernel
theorem tyJ0_ok : ∀ k, k < 0 → parseFieldDescriptor (TJ0 k).2.2.1 = some (tyJ0 k) := by decide +kernel
abbrev cJ0_charAt_5068e : ByteArray := prog_11_method_56_code
def yJ0_charAt_5068e : MethodName := ⟨RJ0, "charAt", "(I)C"⟩
abbrev cJ0_isLatin1_aae02 : ByteArray := prog_11_method_154_code
def yJ0_isLatin1_aae02 : MethodName := ⟨RJ0, "isLatin1", "()Z"⟩
abbrev cJ0_checkIndex_df160 : ByteArray := prog_11_method_155_code
def yJ0_checkIndex_df160 : MethodName := ⟨RJ0, "checkIndex", "(II)V"⟩
def RJ1 : String := "java/lang/StringLatin1"
def TJ1 : u_T := fun k => match k with
  | _ => ("", "", "", false)
def tyJ1 : Nat → FieldType := fun k => match k with
  | _ => .int
theorem nmJ1 : ∀ a, a < 0 → ∀ b, b < 0 → a ≠ b → (TJ1 a).2.1 ≠ (TJ1 b).2.1 := by decide +kernel
theorem tyJ1_ok : ∀ k, k < 0 → parseFieldDescriptor (TJ1 k).2.2.1 = some (tyJ1 k) := by decide +kernel
abbrev cJ1_charAt_3b067 : ByteArray := prog_12_method_2_code
def yJ1_charAt_3b067 : MethodName := ⟨RJ1, "charAt", "([BI)C"⟩
def RJ2 : String := "java/lang/StringUTF16"
def TJ2 : u_T := fun k => match k with
  | _ => ("", "", "", false)
def tyJ2 : Nat → FieldType := fun k => match k with
  | _ => .int
theorem nmJ2 : ∀ a, a < 0 → ∀ b, b < 0 → a ≠ b → (TJ2 a).2.1 ≠ (TJ2 b).2.1 := by decide +kernel
theorem tyJ2_ok : ∀ k, k < 0 → parseFieldDescriptor (TJ2 k).2.2.1 = some (tyJ2 k) := by decide +kernel
abbrev cJ2_getChar_3b067 : ByteArray := prog_13_method_5_code
def yJ2_getChar_3b067 : MethodName := ⟨RJ2, "getChar", "([BI)C"⟩
abbrev cJ2_length_9d52b : ByteArray := prog_13_method_6_code
def yJ2_length_9d52b : MethodName := ⟨RJ2, "length", "([B)I"⟩
abbrev cJ2_charAt_3b067 : ByteArray := prog_13_method_83_code
def yJ2_charAt_3b067 : MethodName := ⟨RJ2, "charAt", "([BI)C"⟩
abbrev cJ2_checkIndex_2214a : ByteArray := prog_13_method_91_code
def yJ2_checkIndex_2214a : MethodName := ⟨RJ2, "checkIndex", "(I[B)V"⟩
def RJ3 : String := "jdk/internal/util/Preconditions"
def TJ3 : u_T := fun k => match k with
  | _ => ("", "", "", false)
def tyJ3 : Nat → FieldType := fun k => match k with
  | _ => .int
theorem nmJ3 : ∀ a, a < 0 → ∀ b, b < 0 → a ≠ b → (TJ3 a).2.1 ≠ (TJ3 b).2.1 := by decide +kernel
theorem tyJ3_ok : ∀ k, k < 0 → parseFieldDescriptor (TJ3 k).2.2.1 = some (tyJ3 k) := by decide +kernel
abbrev cJ3_checkIndex_8e157 : ByteArray := prog_14_method_11_code
def yJ3_checkIndex_8e157 : MethodName := ⟨RJ3, "checkIndex", "(IILjava/util/function/BiFunction;)I"⟩
def RL : String := "StepperPlannerLaw"
abbrev cL_cell : ByteArray := method_2_code
def yL_cell : MethodName := ⟨RL, "cell", "([II)I"⟩
abbrev cL_errors : ByteArray := method_3_code
def yL_errors : MethodName := ⟨RL, "errors", "(LStepperPlanner;)Z"⟩
abbrev cL_digits : ByteArray := method_4_code
def yL_digits : MethodName := ⟨RL, "digits", "(LStepperPlanner;II)I"⟩
abbrev cL_load : ByteArray := method_5_code
def yL_load : MethodName := ⟨RL, "load", "(LStepperPlanner;II)I"⟩
abbrev cL_act : ByteArray := method_6_code
def yL_act : MethodName := ⟨RL, "act", "(LStepperPlanner;II)I"⟩
abbrev cL_now : ByteArray := method_7_code
def yL_now : MethodName := ⟨RL, "now", "(LStepperPlanner;)J"⟩
abbrev cL_alike : ByteArray := method_8_code
def yL_alike : MethodName := ⟨RL, "alike", "(LStepperPlanner;LStepperPlanner;)Z"⟩
abbrev cL_ramped : ByteArray := method_9_code
def yL_ramped : MethodName := ⟨RL, "ramped", "(LStepperPlanner;I)Z"⟩
abbrev cL_ahead : ByteArray := method_10_code
def yL_ahead : MethodName := ⟨RL, "ahead", "(LStepperPlanner;I)Z"⟩
abbrev cL_over : ByteArray := method_11_code
def yL_over : MethodName := ⟨RL, "over", "(LStepperPlanner;I)Z"⟩
abbrev cL_most : ByteArray := method_12_code
def yL_most : MethodName := ⟨RL, "most", "(II)I"⟩
abbrev cL_moved : ByteArray := method_13_code
def yL_moved : MethodName := ⟨RL, "moved", "(LStepperPlanner;I)Z"⟩
abbrev cL_law : ByteArray := code
def yL_law : MethodName := ⟨RL, "law", "([I)Z"⟩
abbrev vwCl : List vw_C := [(RX0, TX0, 3), (RX2, TX2, 5), (RX3, TX3, 2), (RX4, TX4, 4), (RX5, TX5, 12), (RX6, TX6, 7)]
