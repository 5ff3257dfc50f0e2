def RX0 : String := "Shellhouse$History"
def TX0 : u_T := fun k => match k with
  | 0 => ("Shellhouse$History", "commands", "[I", true)
  | _ => ("Shellhouse$History", "size", "I", false)
def tyX0 : Nat → FieldType := fun k => match k with
  | 0 => .array .int
  | _ => .int
abbrev wsX00 : List Cond := u_ws RX0 TX0 2
theorem nmX0 : ∀ a, a < 2 → ∀ b, b < 2 → a ≠ b → (TX0 a).2.1 ≠ (TX0 b).2.1 := by decide +kernel
theorem tyX0_ok : ∀ k, k < 2 → parseFieldDescriptor (TX0 k).2.2.1 = some (tyX0 k) := by decide +kernel
abbrev cX0_init : ByteArray := prog_2_method_1_code
def yX0_init : MethodName := ⟨RX0, "<init>", "(I)V"⟩
abbrev cX0_append : ByteArray := prog_2_method_2_code
def yX0_append : MethodName := ⟨RX0, "append", "(I)V"⟩
abbrev cX0_forget : ByteArray := prog_2_method_3_code
def yX0_forget : MethodName := ⟨RX0, "forget", "(I)V"⟩
abbrev cX0_takeOut : ByteArray := prog_2_method_4_code
def yX0_takeOut : MethodName := ⟨RX0, "takeOut", "(I)V"⟩
abbrev cX0_lastBetween : ByteArray := prog_2_method_5_code
def yX0_lastBetween : MethodName := ⟨RX0, "lastBetween", "(II)I"⟩
def RX1 : String := "Shellhouse$Job"
def TX1 : u_T := fun k => match k with
  | 0 => ("Shellhouse$Job", "number", "I", true)
  | 1 => ("Shellhouse$Job", "home", "LShellhouse$Session;", true)
  | 2 => ("Shellhouse$Job", "needed", "I", true)
  | 3 => ("Shellhouse$Job", "ticksLeft", "I", false)
  | 4 => ("Shellhouse$Job", "condition", "C", false)
  | 5 => ("Shellhouse$Job", "holding", "Z", false)
  | _ => ("Shellhouse$Job", "works", "Z", false)
def tyX1 : Nat → FieldType := fun k => match k with
  | 0 => .int
  | 1 => .object "Shellhouse$Session"
  | 2 => .int
  | 3 => .int
  | 4 => .char
  | 5 => .boolean
  | _ => .boolean
abbrev wsX10 : List Cond := u_ws RX1 TX1 7
theorem nmX1 : ∀ a, a < 7 → ∀ b, b < 7 → a ≠ b → (TX1 a).2.1 ≠ (TX1 b).2.1 := by decide +kernel
theorem tyX1_ok : ∀ k, k < 7 → parseFieldDescriptor (TX1 k).2.2.1 = some (tyX1 k) := by decide +kernel
abbrev cX1_init : ByteArray := prog_3_method_1_code
def yX1_init : MethodName := ⟨RX1, "<init>", "(ILShellhouse$Session;II)V"⟩
abbrev cX1_needs : ByteArray := prog_3_method_2_code
def yX1_needs : MethodName := ⟨RX1, "needs", "(I)Z"⟩
def RX2 : String := "Shellhouse$Journal"
def TX2 : u_T := fun k => match k with
  | 0 => ("Shellhouse$Journal", "jobNumbers", "[I", false)
  | 1 => ("Shellhouse$Journal", "conditions", "[I", false)
  | _ => ("Shellhouse$Journal", "size", "I", false)
def tyX2 : Nat → FieldType := fun k => match k with
  | 0 => .array .int
  | 1 => .array .int
  | _ => .int
abbrev wsX20 : List Cond := u_ws RX2 TX2 3
theorem nmX2 : ∀ a, a < 3 → ∀ b, b < 3 → a ≠ b → (TX2 a).2.1 ≠ (TX2 b).2.1 := by decide +kernel
theorem tyX2_ok : ∀ k, k < 3 → parseFieldDescriptor (TX2 k).2.2.1 = some (tyX2 k) := by decide +kernel
abbrev cX2_init : ByteArray := prog_4_method_1_code
def yX2_init : MethodName := ⟨RX2, "<init>", "()V"⟩
abbrev cX2_write : ByteArray := prog_4_method_2_code
def yX2_write : MethodName := ⟨RX2, "write", "(IC)V"⟩
abbrev cX2_conditionAt : ByteArray := prog_4_method_3_code
def yX2_conditionAt : MethodName := ⟨RX2, "conditionAt", "(I)C"⟩
abbrev cX2_lastStateOf : ByteArray := prog_4_method_4_code
def yX2_lastStateOf : MethodName := ⟨RX2, "lastStateOf", "(I)C"⟩
def RX3 : String := "Shellhouse$Session"
def TX3 : u_T := fun k => match k with
  | 0 => ("Shellhouse$Session", "number", "I", true)
  | 1 => ("Shellhouse$Session", "history", "LShellhouse$History;", true)
  | 2 => ("Shellhouse$Session", "hidden", "Z", false)
  | 3 => ("Shellhouse$Session", "attached", "Z", false)
  | 4 => ("Shellhouse$Session", "inFront", "LShellhouse$Job;", false)
  | _ => ("Shellhouse$Session", "pausedByDrop", "LShellhouse$Job;", false)
def tyX3 : Nat → FieldType := fun k => match k with
  | 0 => .int
  | 1 => .object "Shellhouse$History"
  | 2 => .boolean
  | 3 => .boolean
  | 4 => .object "Shellhouse$Job"
  | _ => .object "Shellhouse$Job"
abbrev wsX30 : List Cond := u_ws RX3 TX3 6
theorem nmX3 : ∀ a, a < 6 → ∀ b, b < 6 → a ≠ b → (TX3 a).2.1 ≠ (TX3 b).2.1 := by decide +kernel
theorem tyX3_ok : ∀ k, k < 6 → parseFieldDescriptor (TX3 k).2.2.1 = some (tyX3 k) := by decide +kernel
abbrev cX3_init : ByteArray := prog_5_method_1_code
def yX3_init : MethodName := ⟨RX3, "<init>", "(ZI)V"⟩
def RX4 : String := "Shellhouse"
def TX4 : u_T := fun k => match k with
  | 0 => ("Shellhouse", "sessions", "Ljava/util/ArrayList;", true)
  | 1 => ("Shellhouse", "jobs", "Ljava/util/ArrayList;", true)
  | 2 => ("Shellhouse", "order", "Ljava/util/ArrayList;", true)
  | 3 => ("Shellhouse", "holders", "[I", true)
  | 4 => ("Shellhouse", "commonHistory", "LShellhouse$History;", true)
  | 5 => ("Shellhouse", "journal", "LShellhouse$Journal;", true)
  | _ => ("Shellhouse", "ticksWorked", "J", false)
def tyX4 : Nat → FieldType := fun k => match k with
  | 0 => .object "java/util/ArrayList"
  | 1 => .object "java/util/ArrayList"
  | 2 => .object "java/util/ArrayList"
  | 3 => .array .int
  | 4 => .object "Shellhouse$History"
  | 5 => .object "Shellhouse$Journal"
  | _ => .long
abbrev wsX40 : List Cond := u_ws RX4 TX4 7
theorem nmX4 : ∀ a, a < 7 → ∀ b, b < 7 → a ≠ b → (TX4 a).2.1 ≠ (TX4 b).2.1 := by decide +kernel
theorem tyX4_ok : ∀ k, k < 7 → parseFieldDescriptor (TX4 k).2.2.1 = some (tyX4 k) := by decide +kernel
abbrev cX4_init : ByteArray := prog_1_method_1_code
def yX4_init : MethodName := ⟨RX4, "<init>", "()V"⟩
abbrev cX4_open : ByteArray := prog_1_method_2_code
def yX4_open : MethodName := ⟨RX4, "open", "(Z)I"⟩
abbrev cX4_drop : ByteArray := prog_1_method_4_code
def yX4_drop : MethodName := ⟨RX4, "drop", "(I)I"⟩
abbrev cX4_takeUp : ByteArray := prog_1_method_5_code
def yX4_takeUp : MethodName := ⟨RX4, "takeUp", "(I)I"⟩
abbrev cX4_isAttached : ByteArray := prog_1_method_6_code
def yX4_isAttached : MethodName := ⟨RX4, "isAttached", "(I)Z"⟩
abbrev cX4_kept : ByteArray := prog_1_method_7_code
def yX4_kept : MethodName := ⟨RX4, "kept", "(I)I"⟩
abbrev cX4_commandAt : ByteArray := prog_1_method_8_code
def yX4_commandAt : MethodName := ⟨RX4, "commandAt", "(II)I"⟩
abbrev cX4_common : ByteArray := prog_1_method_9_code
def yX4_common : MethodName := ⟨RX4, "common", "()I"⟩
abbrev cX4_commonAt : ByteArray := prog_1_method_10_code
def yX4_commonAt : MethodName := ⟨RX4, "commonAt", "(I)I"⟩
abbrev cX4_search : ByteArray := prog_1_method_11_code
def yX4_search : MethodName := ⟨RX4, "search", "(III)I"⟩
abbrev cX4_start : ByteArray := prog_1_method_12_code
def yX4_start : MethodName := ⟨RX4, "start", "(IIIIZ)I"⟩
abbrev cX4_state : ByteArray := prog_1_method_13_code
def yX4_state : MethodName := ⟨RX4, "state", "(I)C"⟩
abbrev cX4_stateByJournal : ByteArray := prog_1_method_14_code
def yX4_stateByJournal : MethodName := ⟨RX4, "stateByJournal", "(I)C"⟩
abbrev cX4_toDo : ByteArray := prog_1_method_15_code
def yX4_toDo : MethodName := ⟨RX4, "toDo", "(I)I"⟩
abbrev cX4_sessionOf : ByteArray := prog_1_method_16_code
def yX4_sessionOf : MethodName := ⟨RX4, "sessionOf", "(I)I"⟩
abbrev cX4_front : ByteArray := prog_1_method_17_code
def yX4_front : MethodName := ⟨RX4, "front", "(I)I"⟩
abbrev cX4_toFront : ByteArray := prog_1_method_18_code
def yX4_toFront : MethodName := ⟨RX4, "toFront", "(I)Z"⟩
abbrev cX4_toBack : ByteArray := prog_1_method_19_code
def yX4_toBack : MethodName := ⟨RX4, "toBack", "(I)I"⟩
abbrev cX4_count : ByteArray := prog_1_method_20_code
def yX4_count : MethodName := ⟨RX4, "count", "(IC)I"⟩
abbrev cX4_holder : ByteArray := prog_1_method_21_code
def yX4_holder : MethodName := ⟨RX4, "holder", "(I)I"⟩
abbrev cX4_holderByJobs : ByteArray := prog_1_method_22_code
def yX4_holderByJobs : MethodName := ⟨RX4, "holderByJobs", "(I)I"⟩
abbrev cX4_holds : ByteArray := prog_1_method_23_code
def yX4_holds : MethodName := ⟨RX4, "holds", "(I)Z"⟩
abbrev cX4_waiting : ByteArray := prog_1_method_24_code
def yX4_waiting : MethodName := ⟨RX4, "waiting", "()I"⟩
abbrev cX4_waitingAt : ByteArray := prog_1_method_25_code
def yX4_waitingAt : MethodName := ⟨RX4, "waitingAt", "(I)I"⟩
abbrev cX4_blockers : ByteArray := prog_1_method_26_code
def yX4_blockers : MethodName := ⟨RX4, "blockers", "(I)I"⟩
abbrev cX4_stop : ByteArray := prog_1_method_27_code
def yX4_stop : MethodName := ⟨RX4, "stop", "(I)I"⟩
abbrev cX4_goOn : ByteArray := prog_1_method_28_code
def yX4_goOn : MethodName := ⟨RX4, "goOn", "(I)I"⟩
abbrev cX4_end : ByteArray := prog_1_method_29_code
def yX4_end : MethodName := ⟨RX4, "end", "(I)I"⟩
abbrev cX4_signal : ByteArray := prog_1_method_30_code
def yX4_signal : MethodName := ⟨RX4, "signal", "(IC)I"⟩
abbrev cX4_tick : ByteArray := prog_1_method_31_code
def yX4_tick : MethodName := ⟨RX4, "tick", "(I)I"⟩
abbrev cX4_entries : ByteArray := prog_1_method_32_code
def yX4_entries : MethodName := ⟨RX4, "entries", "()I"⟩
abbrev cX4_entryJob : ByteArray := prog_1_method_33_code
def yX4_entryJob : MethodName := ⟨RX4, "entryJob", "(I)I"⟩
abbrev cX4_entryState : ByteArray := prog_1_method_34_code
def yX4_entryState : MethodName := ⟨RX4, "entryState", "(I)C"⟩
abbrev cX4_worked : ByteArray := prog_1_method_35_code
def yX4_worked : MethodName := ⟨RX4, "worked", "()J"⟩
abbrev cX4_doneShare : ByteArray := prog_1_method_36_code
def yX4_doneShare : MethodName := ⟨RX4, "doneShare", "()F"⟩
abbrev cX4_sessionNumbered : ByteArray := prog_1_method_37_code
def yX4_sessionNumbered : MethodName := ⟨RX4, "sessionNumbered", "(I)LShellhouse$Session;"⟩
abbrev cX4_jobNumbered : ByteArray := prog_1_method_38_code
def yX4_jobNumbered : MethodName := ⟨RX4, "jobNumbered", "(I)LShellhouse$Job;"⟩
abbrev cX4_jobInFrontOf : ByteArray := prog_1_method_39_code
def yX4_jobInFrontOf : MethodName := ⟨RX4, "jobInFrontOf", "(LShellhouse$Session;)LShellhouse$Job;"⟩
abbrev cX4_commandOf : ByteArray := prog_1_method_40_code
def yX4_commandOf : MethodName := ⟨RX4, "commandOf", "(LShellhouse$History;I)I"⟩
abbrev cX4_refuseNoLock : ByteArray := prog_1_method_41_code
def yX4_refuseNoLock : MethodName := ⟨RX4, "refuseNoLock", "(I)V"⟩
abbrev cX4_refuseNoEntry : ByteArray := prog_1_method_42_code
def yX4_refuseNoEntry : MethodName := ⟨RX4, "refuseNoEntry", "(I)V"⟩
abbrev cX4_isCommand : ByteArray := prog_1_method_43_code
def yX4_isCommand : MethodName := ⟨RX4, "isCommand", "(I)Z"⟩
abbrev cX4_isWork : ByteArray := prog_1_method_44_code
def yX4_isWork : MethodName := ⟨RX4, "isWork", "(I)Z"⟩
abbrev cX4_areLocks : ByteArray := prog_1_method_45_code
def yX4_areLocks : MethodName := ⟨RX4, "areLocks", "(I)Z"⟩
abbrev cX4_isState : ByteArray := prog_1_method_46_code
def yX4_isState : MethodName := ⟨RX4, "isState", "(C)Z"⟩
abbrev cX4_canBeStopped : ByteArray := prog_1_method_47_code
def yX4_canBeStopped : MethodName := ⟨RX4, "canBeStopped", "(LShellhouse$Job;)Z"⟩
abbrev cX4_canGoOn : ByteArray := prog_1_method_48_code
def yX4_canGoOn : MethodName := ⟨RX4, "canGoOn", "(LShellhouse$Job;)Z"⟩
abbrev cX4_isOver : ByteArray := prog_1_method_49_code
def yX4_isOver : MethodName := ⟨RX4, "isOver", "(LShellhouse$Job;)Z"⟩
abbrev cX4_remember : ByteArray := prog_1_method_50_code
def yX4_remember : MethodName := ⟨RX4, "remember", "(LShellhouse$Session;I)V"⟩
abbrev cX4_comeInto : ByteArray := prog_1_method_51_code
def yX4_comeInto : MethodName := ⟨RX4, "comeInto", "(LShellhouse$Job;C)V"⟩
abbrev cX4_waitForLocks : ByteArray := prog_1_method_52_code
def yX4_waitForLocks : MethodName := ⟨RX4, "waitForLocks", "(LShellhouse$Job;)V"⟩
abbrev cX4_pause : ByteArray := prog_1_method_53_code
def yX4_pause : MethodName := ⟨RX4, "pause", "(LShellhouse$Job;)V"⟩
abbrev cX4_resume : ByteArray := prog_1_method_54_code
def yX4_resume : MethodName := ⟨RX4, "resume", "(LShellhouse$Job;)V"⟩
abbrev cX4_finish : ByteArray := prog_1_method_55_code
def yX4_finish : MethodName := ⟨RX4, "finish", "(LShellhouse$Job;C)V"⟩
abbrev cX4_obeys : ByteArray := prog_1_method_56_code
def yX4_obeys : MethodName := ⟨RX4, "obeys", "(LShellhouse$Job;C)Z"⟩
abbrev cX4_passOneTick : ByteArray := prog_1_method_57_code
def yX4_passOneTick : MethodName := ⟨RX4, "passOneTick", "()I"⟩
abbrev cX4_workIsDone : ByteArray := prog_1_method_58_code
def yX4_workIsDone : MethodName := ⟨RX4, "workIsDone", "(LShellhouse$Job;)Z"⟩
abbrev cX4_leaveOrder : ByteArray := prog_1_method_59_code
def yX4_leaveOrder : MethodName := ⟨RX4, "leaveOrder", "(LShellhouse$Job;)V"⟩
abbrev cX4_lookAtOrder : ByteArray := prog_1_method_60_code
def yX4_lookAtOrder : MethodName := ⟨RX4, "lookAtOrder", "()V"⟩
abbrev cX4_locksAreFreeFor : ByteArray := prog_1_method_61_code
def yX4_locksAreFreeFor : MethodName := ⟨RX4, "locksAreFreeFor", "(LShellhouse$Job;)Z"⟩
abbrev cX4_setHolder : ByteArray := prog_1_method_62_code
def yX4_setHolder : MethodName := ⟨RX4, "setHolder", "(LShellhouse$Job;I)V"⟩
def RX5 : String := "ShellhouseModel"
def TX5 : u_T := fun k => match k with
  | _ => ("", "", "", false)
def tyX5 : Nat → FieldType := fun k => match k with
  | _ => .int
abbrev wsX50 : List Cond := u_ws RX5 TX5 0
theorem nmX5 : ∀ a, a < 0 → ∀ b, b < 0 → a ≠ b → (TX5 a).2.1 ≠ (TX5 b).2.1 := by decide +kernel
theorem tyX5_ok : ∀ k, k < 0 → parseFieldDescriptor (TX5 k).2.2.1 = some (tyX5 k) := by decide +kernel
def RJx145de : String := "java/io/Serializable"
def TJx145de : u_T := fun k => match k with
  | _ => ("", "", "", false)
def tyJx145de : Nat → FieldType := fun k => match k with
  | _ => .int
abbrev wsJx145de0 : List Cond := u_ws RJx145de TJx145de 0
theorem nmJx145de : ∀ a, a < 0 → ∀ b, b < 0 → a ≠ b → (TJx145de a).2.1 ≠ (TJx145de b).2.1 := by decide +kernel
theorem tyJx145de_ok : ∀ k, k < 0 → parseFieldDescriptor (TJx145de k).2.2.1 = some (tyJx145de k) := by decide +kernel
def RJx8e188 : String := "java/lang/Cloneable"
def TJx8e188 : u_T := fun k => match k with
  | _ => ("", "", "", false)
def tyJx8e188 : Nat → FieldType := fun k => match k with
  | _ => .int
abbrev wsJx8e1880 : List Cond := u_ws RJx8e188 TJx8e188 0
theorem nmJx8e188 : ∀ a, a < 0 → ∀ b, b < 0 → a ≠ b → (TJx8e188 a).2.1 ≠ (TJx8e188 b).2.1 := by decide +kernel
theorem tyJx8e188_ok : ∀ k, k < 0 → parseFieldDescriptor (TJx8e188 k).2.2.1 = some (tyJx8e188 k) := by decide +kernel
def RJxab1ab : String := "java/lang/Iterable"
def TJxab1ab : u_T := fun k => match k with
  | _ => ("", "", "", false)
def tyJxab1ab : Nat → FieldType := fun k => match k with
  | _ => .int
abbrev wsJxab1ab0 : List Cond := u_ws RJxab1ab TJxab1ab 0
theorem nmJxab1ab : ∀ a, a < 0 → ∀ b, b < 0 → a ≠ b → (TJxab1ab a).2.1 ≠ (TJxab1ab b).2.1 := by decide +kernel
theorem tyJxab1ab_ok : ∀ k, k < 0 → parseFieldDescriptor (TJxab1ab k).2.2.1 = some (tyJxab1ab k) := by decide +kernel
def RJ9 : String := "java/lang/Math"
def TJ9 : u_T := fun k => match k with
  | _ => ("", "", "", false)
def tyJ9 : Nat → FieldType := fun k => match k with
  | _ => .int
abbrev wsJ90 : List Cond := u_ws RJ9 TJ9 0
theorem nmJ9 : ∀ a, a < 0 → ∀ b, b < 0 → a ≠ b → (TJ9 a).2.1 ≠ (TJ9 b).2.1 := by decide +kernel
theorem tyJ9_ok : ∀ k, k < 0 → parseFieldDescriptor (TJ9 k).2.2.1 = some (tyJ9 k) := by decide +kernel
abbrev cJ9_max_7cf53 : ByteArray := prog_15_method_65_code
def yJ9_max_7cf53 : MethodName := ⟨RJ9, "max", "(II)I"⟩
abbrev cJ9_min_7cf53 : ByteArray := prog_15_method_69_code
def yJ9_min_7cf53 : MethodName := ⟨RJ9, "min", "(II)I"⟩
def RJ0 : String := "java/lang/String"
def TJ0 : u_T := fun k => match k with
  | _ => ("", "", "", false)
def tyJ0 : Nat → FieldType := fun k => match k with
  | _ => .int
abbrev wsJ00 : List Cond := u_ws RJ0 TJ0 0
theorem nmJ0 : ∀ a, a < 0 → ∀ b, b < 0 → a ≠ b → (TJ0 a).2.1 ≠ (TJ0 b).2.1 := by decide +kernel
theorem tyJ0_ok : ∀ k, k < 0 → parseFieldDescriptor (TJ0 k).2.2.1 = some (tyJ0 k) := by decide +kernel
def RJ10 : String := "java/lang/System"
def TJ10 : u_T := fun k => match k with
  | _ => ("", "", "", false)
def tyJ10 : Nat → FieldType := fun k => match k with
  | _ => .int
abbrev wsJ100 : List Cond := u_ws RJ10 TJ10 0
theorem nmJ10 : ∀ a, a < 0 → ∀ b, b < 0 → a ≠ b → (TJ10 a).2.1 ≠ (TJ10 b).2.1 := by decide +kernel
theorem tyJ10_ok : ∀ k, k < 0 → parseFieldDescriptor (TJ10 k).2.2.1 = some (tyJ10 k) := by decide +kernel
def RJxa1e45 : String := "java/util/AbstractCollection"
def TJxa1e45 : u_T := fun k => match k with
  | _ => ("", "", "", false)
def tyJxa1e45 : Nat → FieldType := fun k => match k with
  | _ => .int
abbrev wsJxa1e450 : List Cond := u_ws RJxa1e45 TJxa1e45 0
theorem nmJxa1e45 : ∀ a, a < 0 → ∀ b, b < 0 → a ≠ b → (TJxa1e45 a).2.1 ≠ (TJxa1e45 b).2.1 := by decide +kernel
theorem tyJxa1e45_ok : ∀ k, k < 0 → parseFieldDescriptor (TJxa1e45 k).2.2.1 = some (tyJxa1e45 k) := by decide +kernel
abbrev cJxa1e45_init_da8c8 : ByteArray := prog_21_method_1_code
def yJxa1e45_init_da8c8 : MethodName := ⟨RJxa1e45, "<init>", "()V"⟩
def RJxc12de : String := "java/util/AbstractList"
def TJxc12de : u_T := fun k => match k with
  | _ => ("", "", "", false)
def tyJxc12de : Nat → FieldType := fun k => match k with
  | _ => .int
abbrev wsJxc12de0 : List Cond := u_ws RJxc12de TJxc12de 0
theorem nmJxc12de : ∀ a, a < 0 → ∀ b, b < 0 → a ≠ b → (TJxc12de a).2.1 ≠ (TJxc12de b).2.1 := by decide +kernel
theorem tyJxc12de_ok : ∀ k, k < 0 → parseFieldDescriptor (TJxc12de k).2.2.1 = some (tyJxc12de k) := by decide +kernel
abbrev cJxc12de_init_da8c8 : ByteArray := prog_22_method_1_code
def yJxc12de_init_da8c8 : MethodName := ⟨RJxc12de, "<init>", "()V"⟩
def RJx4a65c : String := "java/util/ArrayList"
def TJx4a65c : u_T := fun k => match k with
  | 0 => ("java/util/AbstractList", "modCount", "I", false)
  | 1 => ("java/util/ArrayList", "elementData", "[Ljava/lang/Object;", false)
  | _ => ("java/util/ArrayList", "size", "I", false)
def tyJx4a65c : Nat → FieldType := fun k => match k with
  | 0 => .int
  | 1 => .array (.object "java/lang/Object")
  | _ => .int
abbrev wsJx4a65c0 : List Cond := u_ws RJx4a65c TJx4a65c 3
theorem nmJx4a65c : ∀ a, a < 3 → ∀ b, b < 3 → a ≠ b → (TJx4a65c a).2.1 ≠ (TJx4a65c b).2.1 := by decide +kernel
theorem tyJx4a65c_ok : ∀ k, k < 3 → parseFieldDescriptor (TJx4a65c k).2.2.1 = some (tyJx4a65c k) := by decide +kernel
abbrev cJx4a65c_init_da8c8 : ByteArray := prog_23_method_2_code
def yJx4a65c_init_da8c8 : MethodName := ⟨RJx4a65c, "<init>", "()V"⟩
abbrev cJx4a65c_grow_92f84 : ByteArray := prog_23_method_6_code
def yJx4a65c_grow_92f84 : MethodName := ⟨RJx4a65c, "grow", "(I)[Ljava/lang/Object;"⟩
abbrev cJx4a65c_grow_d5877 : ByteArray := prog_23_method_7_code
def yJx4a65c_grow_d5877 : MethodName := ⟨RJx4a65c, "grow", "()[Ljava/lang/Object;"⟩
abbrev cJx4a65c_size_8abf5 : ByteArray := prog_23_method_8_code
def yJx4a65c_size_8abf5 : MethodName := ⟨RJx4a65c, "size", "()I"⟩
abbrev cJx4a65c_elementData_915e3 : ByteArray := prog_23_method_18_code
def yJx4a65c_elementData_915e3 : MethodName := ⟨RJx4a65c, "elementData", "(I)Ljava/lang/Object;"⟩
abbrev cJx4a65c_get_915e3 : ByteArray := prog_23_method_20_code
def yJx4a65c_get_915e3 : MethodName := ⟨RJx4a65c, "get", "(I)Ljava/lang/Object;"⟩
abbrev cJx4a65c_add_72be8 : ByteArray := prog_23_method_24_code
def yJx4a65c_add_72be8 : MethodName := ⟨RJx4a65c, "add", "(Ljava/lang/Object;[Ljava/lang/Object;I)V"⟩
abbrev cJx4a65c_add_9ea2d : ByteArray := prog_23_method_25_code
def yJx4a65c_add_9ea2d : MethodName := ⟨RJx4a65c, "add", "(Ljava/lang/Object;)Z"⟩
abbrev cJx4a65c_remove_915e3 : ByteArray := prog_23_method_29_code
def yJx4a65c_remove_915e3 : MethodName := ⟨RJx4a65c, "remove", "(I)Ljava/lang/Object;"⟩
abbrev cJx4a65c_fastRemove_b59b0 : ByteArray := prog_23_method_39_code
def yJx4a65c_fastRemove_b59b0 : MethodName := ⟨RJx4a65c, "fastRemove", "([Ljava/lang/Object;I)V"⟩
def RJ7 : String := "java/util/Arrays"
def TJ7 : u_T := fun k => match k with
  | _ => ("", "", "", false)
def tyJ7 : Nat → FieldType := fun k => match k with
  | _ => .int
abbrev wsJ70 : List Cond := u_ws RJ7 TJ7 0
theorem nmJ7 : ∀ a, a < 0 → ∀ b, b < 0 → a ≠ b → (TJ7 a).2.1 ≠ (TJ7 b).2.1 := by decide +kernel
theorem tyJ7_ok : ∀ k, k < 0 → parseFieldDescriptor (TJ7 k).2.2.1 = some (tyJ7 k) := by decide +kernel
abbrev cJ7_fill_53178 : ByteArray := prog_24_method_103_code
def yJ7_fill_53178 : MethodName := ⟨RJ7, "fill", "([II)V"⟩
abbrev cJ7_copyOf_1904c : ByteArray := prog_24_method_119_code
def yJ7_copyOf_1904c : MethodName := ⟨RJ7, "copyOf", "([Ljava/lang/Object;I)[Ljava/lang/Object;"⟩
abbrev cJ7_copyOf_6403c : ByteArray := prog_24_method_120_code
def yJ7_copyOf_6403c : MethodName := ⟨RJ7, "copyOf", "([Ljava/lang/Object;ILjava/lang/Class;)[Ljava/lang/Object;"⟩
abbrev cJ7_copyOf_59c91 : ByteArray := prog_24_method_123_code
def yJ7_copyOf_59c91 : MethodName := ⟨RJ7, "copyOf", "([II)[I"⟩
def RJx5ef63 : String := "java/util/Collection"
def TJx5ef63 : u_T := fun k => match k with
  | _ => ("", "", "", false)
def tyJx5ef63 : Nat → FieldType := fun k => match k with
  | _ => .int
abbrev wsJx5ef630 : List Cond := u_ws RJx5ef63 TJx5ef63 0
theorem nmJx5ef63 : ∀ a, a < 0 → ∀ b, b < 0 → a ≠ b → (TJx5ef63 a).2.1 ≠ (TJx5ef63 b).2.1 := by decide +kernel
theorem tyJx5ef63_ok : ∀ k, k < 0 → parseFieldDescriptor (TJx5ef63 k).2.2.1 = some (tyJx5ef63 k) := by decide +kernel
def RJxbd725 : String := "java/util/List"
def TJxbd725 : u_T := fun k => match k with
  | _ => ("", "", "", false)
def tyJxbd725 : Nat → FieldType := fun k => match k with
  | _ => .int
abbrev wsJxbd7250 : List Cond := u_ws RJxbd725 TJxbd725 0
theorem nmJxbd725 : ∀ a, a < 0 → ∀ b, b < 0 → a ≠ b → (TJxbd725 a).2.1 ≠ (TJxbd725 b).2.1 := by decide +kernel
theorem tyJxbd725_ok : ∀ k, k < 0 → parseFieldDescriptor (TJxbd725 k).2.2.1 = some (tyJxbd725 k) := by decide +kernel
def RJ15 : String := "java/util/Objects"
def TJ15 : u_T := fun k => match k with
  | _ => ("", "", "", false)
def tyJ15 : Nat → FieldType := fun k => match k with
  | _ => .int
abbrev wsJ150 : List Cond := u_ws RJ15 TJ15 0
theorem nmJ15 : ∀ a, a < 0 → ∀ b, b < 0 → a ≠ b → (TJ15 a).2.1 ≠ (TJ15 b).2.1 := by decide +kernel
theorem tyJ15_ok : ∀ k, k < 0 → parseFieldDescriptor (TJ15 k).2.2.1 = some (tyJ15 k) := by decide +kernel
abbrev cJ15_checkIndex_7cf53 : ByteArray := prog_28_method_17_code
def yJ15_checkIndex_7cf53 : MethodName := ⟨RJ15, "checkIndex", "(II)I"⟩
def RJxf0a74 : String := "java/util/RandomAccess"
def TJxf0a74 : u_T := fun k => match k with
  | _ => ("", "", "", false)
def tyJxf0a74 : Nat → FieldType := fun k => match k with
  | _ => .int
abbrev wsJxf0a740 : List Cond := u_ws RJxf0a74 TJxf0a74 0
theorem nmJxf0a74 : ∀ a, a < 0 → ∀ b, b < 0 → a ≠ b → (TJxf0a74 a).2.1 ≠ (TJxf0a74 b).2.1 := by decide +kernel
theorem tyJxf0a74_ok : ∀ k, k < 0 → parseFieldDescriptor (TJxf0a74 k).2.2.1 = some (tyJxf0a74 k) := by decide +kernel
def RJxa66e6 : String := "java/util/SequencedCollection"
def TJxa66e6 : u_T := fun k => match k with
  | _ => ("", "", "", false)
def tyJxa66e6 : Nat → FieldType := fun k => match k with
  | _ => .int
abbrev wsJxa66e60 : List Cond := u_ws RJxa66e6 TJxa66e6 0
theorem nmJxa66e6 : ∀ a, a < 0 → ∀ b, b < 0 → a ≠ b → (TJxa66e6 a).2.1 ≠ (TJxa66e6 b).2.1 := by decide +kernel
theorem tyJxa66e6_ok : ∀ k, k < 0 → parseFieldDescriptor (TJxa66e6 k).2.2.1 = some (tyJxa66e6 k) := by decide +kernel
def RJ8 : String := "jdk/internal/util/ArraysSupport"
def TJ8 : u_T := fun k => match k with
  | _ => ("", "", "", false)
def tyJ8 : Nat → FieldType := fun k => match k with
  | _ => .int
abbrev wsJ80 : List Cond := u_ws RJ8 TJ8 0
theorem nmJ8 : ∀ a, a < 0 → ∀ b, b < 0 → a ≠ b → (TJ8 a).2.1 ≠ (TJ8 b).2.1 := by decide +kernel
theorem tyJ8_ok : ∀ k, k < 0 → parseFieldDescriptor (TJ8 k).2.2.1 = some (tyJ8 k) := by decide +kernel
abbrev cJ8_newLength_cabcc : ByteArray := prog_31_method_27_code
def yJ8_newLength_cabcc : MethodName := ⟨RJ8, "newLength", "(III)I"⟩
abbrev cJ8_hugeLength_7cf53 : ByteArray := prog_31_method_28_code
def yJ8_hugeLength_7cf53 : MethodName := ⟨RJ8, "hugeLength", "(II)I"⟩
def RJ3 : String := "jdk/internal/util/Preconditions"
def TJ3 : u_T := fun k => match k with
  | _ => ("", "", "", false)
def tyJ3 : Nat → FieldType := fun k => match k with
  | _ => .int
abbrev wsJ30 : List Cond := u_ws RJ3 TJ3 0
theorem nmJ3 : ∀ a, a < 0 → ∀ b, b < 0 → a ≠ b → (TJ3 a).2.1 ≠ (TJ3 b).2.1 := by decide +kernel
theorem tyJ3_ok : ∀ k, k < 0 → parseFieldDescriptor (TJ3 k).2.2.1 = some (tyJ3 k) := by decide +kernel
abbrev cJ3_checkIndex_8e157 : ByteArray := prog_32_method_11_code
def yJ3_checkIndex_8e157 : MethodName := ⟨RJ3, "checkIndex", "(IILjava/util/function/BiFunction;)I"⟩
def RL : String := "ShellhouseLaw"
abbrev cL_cell : ByteArray := method_2_code
def yL_cell : MethodName := ⟨RL, "cell", "([II)I"⟩
abbrev cL_pick : ByteArray := method_3_code
def yL_pick : MethodName := ⟨RL, "pick", "([III)I"⟩
abbrev cL_open : ByteArray := method_4_code
def yL_open : MethodName := ⟨RL, "open", "(LShellhouse;Z)I"⟩
abbrev cL_drop : ByteArray := method_5_code
def yL_drop : MethodName := ⟨RL, "drop", "(LShellhouse;I)I"⟩
abbrev cL_takeUp : ByteArray := method_6_code
def yL_takeUp : MethodName := ⟨RL, "takeUp", "(LShellhouse;I)I"⟩
abbrev cL_isAttached : ByteArray := method_7_code
def yL_isAttached : MethodName := ⟨RL, "isAttached", "(LShellhouse;I)I"⟩
abbrev cL_kept : ByteArray := method_8_code
def yL_kept : MethodName := ⟨RL, "kept", "(LShellhouse;I)I"⟩
abbrev cL_commandAt : ByteArray := method_9_code
def yL_commandAt : MethodName := ⟨RL, "commandAt", "(LShellhouse;II)I"⟩
abbrev cL_commonAt : ByteArray := method_10_code
def yL_commonAt : MethodName := ⟨RL, "commonAt", "(LShellhouse;I)I"⟩
abbrev cL_search : ByteArray := method_11_code
def yL_search : MethodName := ⟨RL, "search", "(LShellhouse;III)I"⟩
abbrev cL_start : ByteArray := method_12_code
def yL_start : MethodName := ⟨RL, "start", "(LShellhouse;IIIIZ)I"⟩
abbrev cL_state : ByteArray := method_13_code
def yL_state : MethodName := ⟨RL, "state", "(LShellhouse;I)I"⟩
abbrev cL_stateByJournal : ByteArray := method_14_code
def yL_stateByJournal : MethodName := ⟨RL, "stateByJournal", "(LShellhouse;I)I"⟩
abbrev cL_toDo : ByteArray := method_15_code
def yL_toDo : MethodName := ⟨RL, "toDo", "(LShellhouse;I)I"⟩
abbrev cL_sessionOf : ByteArray := method_16_code
def yL_sessionOf : MethodName := ⟨RL, "sessionOf", "(LShellhouse;I)I"⟩
abbrev cL_front : ByteArray := method_17_code
def yL_front : MethodName := ⟨RL, "front", "(LShellhouse;I)I"⟩
abbrev cL_toFront : ByteArray := method_18_code
def yL_toFront : MethodName := ⟨RL, "toFront", "(LShellhouse;I)I"⟩
abbrev cL_toBack : ByteArray := method_19_code
def yL_toBack : MethodName := ⟨RL, "toBack", "(LShellhouse;I)I"⟩
abbrev cL_count : ByteArray := method_20_code
def yL_count : MethodName := ⟨RL, "count", "(LShellhouse;IC)I"⟩
abbrev cL_holder : ByteArray := method_21_code
def yL_holder : MethodName := ⟨RL, "holder", "(LShellhouse;I)I"⟩
abbrev cL_holderByJobs : ByteArray := method_22_code
def yL_holderByJobs : MethodName := ⟨RL, "holderByJobs", "(LShellhouse;I)I"⟩
abbrev cL_holds : ByteArray := method_23_code
def yL_holds : MethodName := ⟨RL, "holds", "(LShellhouse;I)I"⟩
abbrev cL_waitingAt : ByteArray := method_24_code
def yL_waitingAt : MethodName := ⟨RL, "waitingAt", "(LShellhouse;I)I"⟩
abbrev cL_blockers : ByteArray := method_25_code
def yL_blockers : MethodName := ⟨RL, "blockers", "(LShellhouse;I)I"⟩
abbrev cL_stop : ByteArray := method_26_code
def yL_stop : MethodName := ⟨RL, "stop", "(LShellhouse;I)I"⟩
abbrev cL_goOn : ByteArray := method_27_code
def yL_goOn : MethodName := ⟨RL, "goOn", "(LShellhouse;I)I"⟩
abbrev cL_end : ByteArray := method_28_code
def yL_end : MethodName := ⟨RL, "end", "(LShellhouse;I)I"⟩
abbrev cL_signal : ByteArray := method_29_code
def yL_signal : MethodName := ⟨RL, "signal", "(LShellhouse;IC)I"⟩
abbrev cL_tick : ByteArray := method_30_code
def yL_tick : MethodName := ⟨RL, "tick", "(LShellhouse;I)I"⟩
abbrev cL_entryJob : ByteArray := method_31_code
def yL_entryJob : MethodName := ⟨RL, "entryJob", "(LShellhouse;I)I"⟩
abbrev cL_entryState : ByteArray := method_32_code
def yL_entryState : MethodName := ⟨RL, "entryState", "(LShellhouse;I)I"⟩
abbrev cL_doneShare : ByteArray := method_33_code
def yL_doneShare : MethodName := ⟨RL, "doneShare", "(LShellhouse;)F"⟩
abbrev cL_law : ByteArray := code
def yL_law : MethodName := ⟨RL, "law", "([I)Z"⟩
abbrev cL_ofSession : ByteArray := method_35_code
def yL_ofSession : MethodName := ⟨RL, "ofSession", "([III)I"⟩
abbrev cL_done : ByteArray := method_36_code
def yL_done : MethodName := ⟨RL, "done", "(LShellhouse;I)I"⟩
abbrev cL_sum : ByteArray := method_37_code
def yL_sum : MethodName := ⟨RL, "sum", "(LShellhouse;I)J"⟩
abbrev cL_areJobs : ByteArray := method_38_code
def yL_areJobs : MethodName := ⟨RL, "areJobs", "(LShellhouse;I[I[I)Z"⟩
abbrev cL_areFronts : ByteArray := method_39_code
def yL_areFronts : MethodName := ⟨RL, "areFronts", "(LShellhouse;II[I)Z"⟩
abbrev cL_isJournal : ByteArray := method_40_code
def yL_isJournal : MethodName := ⟨RL, "isJournal", "(LShellhouse;I)Z"⟩
abbrev vwCl : List vw_C := [(RJx4a65c, TJx4a65c, 3), (RX0, TX0, 2), (RX1, TX1, 7), (RX2, TX2, 3), (RX3, TX3, 6), (RX4, TX4, 7)]
