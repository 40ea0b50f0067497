-- ===== PART A: goes FIRST, ahead of the names: the tables' words, and 'selects' of the private methods out of them =====
/-- a private method of a class that the tables say can be made, by its rows of tables_1 -/
def lw_okq (q : MethodName × Nat) : Prop := (q.1.cls ≠ "java/lang/invoke/MethodHandle" ∧ q.1.cls ≠ "java/lang/invoke/VarHandle") ∧ Cond.instantiable q.1.cls q.2 ∈ tables_1 ∧ Cond.privateMethod q.1 ∈ tables_1 ∧ Cond.instanceMethod q.1 ∈ tables_1
theorem lw_p0 : lw_okq (⟨"InterlockBoard", "remember", "()V"⟩, 6) := ⟨⟨by decide +kernel, by decide +kernel⟩, List.mem_of_getElem? (i := 10) (by decide +kernel), List.mem_of_getElem? (i := 178) (by decide +kernel), List.mem_of_getElem? (i := 179) (by decide +kernel)⟩
theorem lw_p1 : lw_okq (⟨"InterlockBoard", "forgetOldest", "()V"⟩, 6) := ⟨⟨by decide +kernel, by decide +kernel⟩, List.mem_of_getElem? (i := 10) (by decide +kernel), List.mem_of_getElem? (i := 182) (by decide +kernel), List.mem_of_getElem? (i := 183) (by decide +kernel)⟩
theorem lw_p2 : lw_okq (⟨"InterlockBoard", "isInput", "(I)Z"⟩, 6) := ⟨⟨by decide +kernel, by decide +kernel⟩, List.mem_of_getElem? (i := 10) (by decide +kernel), List.mem_of_getElem? (i := 219) (by decide +kernel), List.mem_of_getElem? (i := 220) (by decide +kernel)⟩
theorem lw_p3 : lw_okq (⟨"InterlockBoard", "lookAtMotions", "(I)I"⟩, 6) := ⟨⟨by decide +kernel, by decide +kernel⟩, List.mem_of_getElem? (i := 10) (by decide +kernel), List.mem_of_getElem? (i := 257) (by decide +kernel), List.mem_of_getElem? (i := 258) (by decide +kernel)⟩
theorem lw_p4 : lw_okq (⟨"InterlockBoard", "reasonAgainstStart", "(I)I"⟩, 6) := ⟨⟨by decide +kernel, by decide +kernel⟩, List.mem_of_getElem? (i := 10) (by decide +kernel), List.mem_of_getElem? (i := 344) (by decide +kernel), List.mem_of_getElem? (i := 345) (by decide +kernel)⟩
theorem lw_p5 : lw_okq (⟨"InterlockBoard", "isPermitted", "(I)Z"⟩, 6) := ⟨⟨by decide +kernel, by decide +kernel⟩, List.mem_of_getElem? (i := 10) (by decide +kernel), List.mem_of_getElem? (i := 348) (by decide +kernel), List.mem_of_getElem? (i := 349) (by decide +kernel)⟩
theorem lw_p6 : lw_okq (⟨"InterlockBoard", "rowOrNotFound", "(II)I"⟩, 6) := ⟨⟨by decide +kernel, by decide +kernel⟩, List.mem_of_getElem? (i := 10) (by decide +kernel), List.mem_of_getElem? (i := 454) (by decide +kernel), List.mem_of_getElem? (i := 455) (by decide +kernel)⟩
theorem lw_p7 : lw_okq (⟨"InterlockBoard", "placeOfFault", "()I"⟩, 6) := ⟨⟨by decide +kernel, by decide +kernel⟩, List.mem_of_getElem? (i := 10) (by decide +kernel), List.mem_of_getElem? (i := 515) (by decide +kernel), List.mem_of_getElem? (i := 516) (by decide +kernel)⟩
theorem lw_p8 : lw_okq (⟨"InterlockBoard", "faultOfRow", "(II)I"⟩, 6) := ⟨⟨by decide +kernel, by decide +kernel⟩, List.mem_of_getElem? (i := 10) (by decide +kernel), List.mem_of_getElem? (i := 519) (by decide +kernel), List.mem_of_getElem? (i := 520) (by decide +kernel)⟩
def lw_privs_1 : List (MethodName × Nat) := [(⟨"InterlockBoard", "remember", "()V"⟩, 6), (⟨"InterlockBoard", "forgetOldest", "()V"⟩, 6), (⟨"InterlockBoard", "isInput", "(I)Z"⟩, 6), (⟨"InterlockBoard", "lookAtMotions", "(I)I"⟩, 6), (⟨"InterlockBoard", "reasonAgainstStart", "(I)I"⟩, 6), (⟨"InterlockBoard", "isPermitted", "(I)Z"⟩, 6), (⟨"InterlockBoard", "rowOrNotFound", "(II)I"⟩, 6), (⟨"InterlockBoard", "placeOfFault", "()I"⟩, 6), (⟨"InterlockBoard", "faultOfRow", "(II)I"⟩, 6)]
theorem lw_r1 : ∀ q ∈ lw_privs_1, lw_okq q := List.forall_mem_cons.mpr ⟨lw_p0, List.forall_mem_cons.mpr ⟨lw_p1, List.forall_mem_cons.mpr ⟨lw_p2, List.forall_mem_cons.mpr ⟨lw_p3, List.forall_mem_cons.mpr ⟨lw_p4, List.forall_mem_cons.mpr ⟨lw_p5, List.forall_mem_cons.mpr ⟨lw_p6, List.forall_mem_cons.mpr ⟨lw_p7, List.forall_mem_cons.mpr ⟨lw_p8, fun _ h => absurd h List.not_mem_nil⟩⟩⟩⟩⟩⟩⟩⟩⟩
def lw_privs : List (MethodName × Nat) := lw_privs_1
def lw_tbl : List Cond := k2_sels lw_privs ++ tables_1
theorem lw_privs_ok : ∀ q ∈ lw_privs, lw_okq q := lw_r1
/-! ===== BEGIN words of one list among another's, by their places ===== -/
theorem goodIn_r {big : List Cond} (ws : List Cond) (ps : List Nat) (hp : ws = ps.filterMap (fun i => big[i]?)) (h : ws.all goodWord = true) : GoodIn big ws := by
  intro w hw
  have h1 := List.all_eq_true.mp h w hw
  rw [hp] at hw
  obtain ⟨i, -, hi⟩ := List.mem_filterMap.mp hw
  have hm : w ∈ big := by first | exact List.mem_of_getElem? hi | exact List.getElem?_mem hi
  exact ⟨hm, good_of_word h1⟩
theorem goodIn_app {big a b : List Cond} (ha : GoodIn big a) (hb : GoodIn big b) : GoodIn big (a ++ b) := fun w h => (List.mem_append.mp h).elim (ha w) (hb w)
theorem goodIn_ca {big a b : List Cond} {c : Cond} (ha : GoodIn big (c :: a)) (hb : GoodIn big b) : GoodIn big (c :: (a ++ b)) := fun w h => (List.mem_cons.mp h).elim (fun e => ha w (List.mem_cons.mpr (Or.inl e))) (fun h => (List.mem_append.mp h).elim (fun h => ha w (List.mem_cons.mpr (Or.inr h))) (hb w))
theorem goodIn_sub {big ws : List Cond} (hm : ∀ w ∈ ws, w ∈ big) (h : ws.all goodWord = true) : GoodIn big ws := fun w hw => ⟨hm w hw, good_of_word (List.all_eq_true.mp h w hw)⟩
/-! ===== END ===== -/

/-! ===== BEGIN printed: names, fields, word lists, decode rows ===== -/
def RX0 : String := "InterlockBoard$Inputs"
def TX0 : u_T := fun k => match k with
  | 0 => ("InterlockBoard$Inputs", "size", "I", false)
  | 1 => ("InterlockBoard$Inputs", "ticks", "I", false)
  | 2 => ("InterlockBoard$Inputs", "testsDone", "I", false)
  | 3 => ("InterlockBoard$Inputs", "closedOnes", "I", false)
  | 4 => ("InterlockBoard$Inputs", "essentialOnes", "I", false)
  | 5 => ("InterlockBoard$Inputs", "keyOf", "[I", true)
  | 6 => ("InterlockBoard$Inputs", "guard", "[I", true)
  | 7 => ("InterlockBoard$Inputs", "interval", "[I", true)
  | 8 => ("InterlockBoard$Inputs", "tested", "[I", true)
  | 9 => ("InterlockBoard$Inputs", "bridgeLeft", "[I", true)
  | 10 => ("InterlockBoard$Inputs", "bridgedTicks", "[I", true)
  | 11 => ("InterlockBoard$Inputs", "testPhase", "[I", true)
  | _ => ("InterlockBoard$Inputs", "lastTickOfTest", "[I", true)
def tyX0 : Nat → FieldType := fun k => match k with
  | 0 => .int
  | 1 => .int
  | 2 => .int
  | 3 => .int
  | 4 => .int
  | 5 => .array .int
  | 6 => .array .int
  | 7 => .array .int
  | 8 => .array .int
  | 9 => .array .int
  | 10 => .array .int
  | 11 => .array .int
  | _ => .array .int
abbrev wsX00 : List Cond := u_ws RX0 TX0 13
theorem nmX0 : ∀ a, a < 13 → ∀ b, b < 13 → a ≠ b → (TX0 a).2.1 ≠ (TX0 b).2.1 := by decide +kernel
theorem tyX0_ok : ∀ k, k < 13 → parseFieldDescriptor (TX0 k).2.2.1 = some (tyX0 k) := by decide +kernel
abbrev cX0_init : ByteArray := prog_2_method_1_code
def yX0_init : MethodName := ⟨RX0, "<init>", "()V"⟩
abbrev cX0_copyFrom : ByteArray := prog_2_method_2_code
def yX0_copyFrom : MethodName := ⟨RX0, "copyFrom", "(LInterlockBoard$Inputs;)V"⟩
abbrev cX0_add : ByteArray := prog_2_method_3_code
def yX0_add : MethodName := ⟨RX0, "add", "(III)I"⟩
abbrev cX0_all : ByteArray := prog_2_method_4_code
def yX0_all : MethodName := ⟨RX0, "all", "()I"⟩
abbrev cX0_isLock : ByteArray := prog_2_method_5_code
def yX0_isLock : MethodName := ⟨RX0, "isLock", "(I)Z"⟩
abbrev cX0_overdueOnes : ByteArray := prog_2_method_6_code
def yX0_overdueOnes : MethodName := ⟨RX0, "overdueOnes", "()I"⟩
abbrev cX0_bridgedOnes : ByteArray := prog_2_method_7_code
def yX0_bridgedOnes : MethodName := ⟨RX0, "bridgedOnes", "()I"⟩
abbrev cX0_countingAsClosed : ByteArray := prog_2_method_8_code
def yX0_countingAsClosed : MethodName := ⟨RX0, "countingAsClosed", "()I"⟩
abbrev cX0_endsFirst : ByteArray := prog_2_method_9_code
def yX0_endsFirst : MethodName := ⟨RX0, "endsFirst", "(I)I"⟩
abbrev cX0_placeOfKey : ByteArray := prog_2_method_10_code
def yX0_placeOfKey : MethodName := ⟨RX0, "placeOfKey", "(I)I"⟩
abbrev cX0_keysInLocks : ByteArray := prog_2_method_11_code
def yX0_keysInLocks : MethodName := ⟨RX0, "keysInLocks", "()I"⟩
abbrev cX0_guardAllows : ByteArray := prog_2_method_12_code
def yX0_guardAllows : MethodName := ⟨RX0, "guardAllows", "(I)Z"⟩
abbrev cX0_canBeTested : ByteArray := prog_2_method_13_code
def yX0_canBeTested : MethodName := ⟨RX0, "canBeTested", "(I)Z"⟩
abbrev cX0_beginTest : ByteArray := prog_2_method_14_code
def yX0_beginTest : MethodName := ⟨RX0, "beginTest", "(I)I"⟩
abbrev cX0_openSensor : ByteArray := prog_2_method_15_code
def yX0_openSensor : MethodName := ⟨RX0, "openSensor", "(I)V"⟩
abbrev cX0_closeSensor : ByteArray := prog_2_method_16_code
def yX0_closeSensor : MethodName := ⟨RX0, "closeSensor", "(I)V"⟩
abbrev cX0_tick : ByteArray := prog_2_method_17_code
def yX0_tick : MethodName := ⟨RX0, "tick", "()V"⟩
def RX1 : String := "InterlockBoard$Motions"
def TX1 : u_T := fun k => match k with
  | 0 => ("InterlockBoard$Motions", "running", "I", false)
  | 1 => ("InterlockBoard$Motions", "rows", "[I", true)
  | 2 => ("InterlockBoard$Motions", "rowCount", "[I", true)
  | 3 => ("InterlockBoard$Motions", "excluders", "[I", true)
  | 4 => ("InterlockBoard$Motions", "firstOut", "[I", true)
  | 5 => ("InterlockBoard$Motions", "tickOfStop", "[I", true)
  | 6 => ("InterlockBoard$Motions", "stopsByInput", "[I", true)
  | 7 => ("InterlockBoard$Motions", "starts", "[I", true)
  | 8 => ("InterlockBoard$Motions", "ticksSinceStart", "[I", true)
  | _ => ("InterlockBoard$Motions", "ticksInAll", "[I", true)
def tyX1 : Nat → FieldType := fun k => match k with
  | 0 => .int
  | 1 => .array .int
  | 2 => .array .int
  | 3 => .array .int
  | 4 => .array .int
  | 5 => .array .int
  | 6 => .array .int
  | 7 => .array .int
  | 8 => .array .int
  | _ => .array .int
abbrev wsX10 : List Cond := u_ws RX1 TX1 10
theorem nmX1 : ∀ a, a < 10 → ∀ b, b < 10 → a ≠ b → (TX1 a).2.1 ≠ (TX1 b).2.1 := by decide +kernel
theorem tyX1_ok : ∀ k, k < 10 → parseFieldDescriptor (TX1 k).2.2.1 = some (tyX1 k) := by decide +kernel
abbrev cX1_init : ByteArray := prog_3_method_1_code
def yX1_init : MethodName := ⟨RX1, "<init>", "()V"⟩
abbrev cX1_copyFrom : ByteArray := prog_3_method_2_code
def yX1_copyFrom : MethodName := ⟨RX1, "copyFrom", "(LInterlockBoard$Motions;)V"⟩
abbrev cX1_rowAt : ByteArray := prog_3_method_3_code
def yX1_rowAt : MethodName := ⟨RX1, "rowAt", "(II)I"⟩
abbrev cX1_addRow : ByteArray := prog_3_method_4_code
def yX1_addRow : MethodName := ⟨RX1, "addRow", "(II)I"⟩
abbrev cX1_inputsOf : ByteArray := prog_3_method_5_code
def yX1_inputsOf : MethodName := ⟨RX1, "inputsOf", "(I)I"⟩
abbrev cX1_inputsOfRows : ByteArray := prog_3_method_6_code
def yX1_inputsOfRows : MethodName := ⟨RX1, "inputsOfRows", "(II)I"⟩
abbrev cX1_isPermitted : ByteArray := prog_3_method_7_code
def yX1_isPermitted : MethodName := ⟨RX1, "isPermitted", "(II)Z"⟩
abbrev cX1_permittedOnes : ByteArray := prog_3_method_8_code
def yX1_permittedOnes : MethodName := ⟨RX1, "permittedOnes", "(I)I"⟩
abbrev cX1_withFirstOut : ByteArray := prog_3_method_9_code
def yX1_withFirstOut : MethodName := ⟨RX1, "withFirstOut", "()I"⟩
abbrev cX1_fewestOpen : ByteArray := prog_3_method_10_code
def yX1_fewestOpen : MethodName := ⟨RX1, "fewestOpen", "(II)I"⟩
abbrev cX1_begin : ByteArray := prog_3_method_11_code
def yX1_begin : MethodName := ⟨RX1, "begin", "(I)V"⟩
abbrev cX1_stopUnpermitted : ByteArray := prog_3_method_12_code
def yX1_stopUnpermitted : MethodName := ⟨RX1, "stopUnpermitted", "(III)I"⟩
abbrev cX1_leastOpened : ByteArray := prog_3_method_13_code
def yX1_leastOpened : MethodName := ⟨RX1, "leastOpened", "(II)I"⟩
abbrev cX1_countTick : ByteArray := prog_3_method_14_code
def yX1_countTick : MethodName := ⟨RX1, "countTick", "()V"⟩
def RX2 : String := "InterlockBoard$State"
def TX2 : u_T := fun k => match k with
  | 0 => ("InterlockBoard$State", "inputs", "LInterlockBoard$Inputs;", true)
  | _ => ("InterlockBoard$State", "motions", "LInterlockBoard$Motions;", true)
def tyX2 : Nat → FieldType := fun k => match k with
  | 0 => .object "InterlockBoard$Inputs"
  | _ => .object "InterlockBoard$Motions"
abbrev wsX20 : List Cond := u_ws RX2 TX2 2
theorem nmX2 : ∀ a, a < 2 → ∀ b, b < 2 → a ≠ b → (TX2 a).2.1 ≠ (TX2 b).2.1 := by decide +kernel
theorem tyX2_ok : ∀ k, k < 2 → parseFieldDescriptor (TX2 k).2.2.1 = some (tyX2 k) := by decide +kernel
abbrev cX2_init : ByteArray := prog_4_method_1_code
def yX2_init : MethodName := ⟨RX2, "<init>", "()V"⟩
abbrev cX2_copyFrom : ByteArray := prog_4_method_2_code
def yX2_copyFrom : MethodName := ⟨RX2, "copyFrom", "(LInterlockBoard$State;)V"⟩
def RX3 : String := "InterlockBoard$Text"
def TX3 : u_T := fun k => match k with
  | 0 => ("InterlockBoard$Text", "signs", "[C", true)
  | _ => ("InterlockBoard$Text", "length", "I", false)
def tyX3 : Nat → FieldType := fun k => match k with
  | 0 => .array .char
  | _ => .int
abbrev wsX30 : List Cond := u_ws RX3 TX3 2
theorem nmX3 : ∀ a, a < 2 → ∀ b, b < 2 → a ≠ b → (TX3 a).2.1 ≠ (TX3 b).2.1 := by decide +kernel
theorem tyX3_ok : ∀ k, k < 2 → parseFieldDescriptor (TX3 k).2.2.1 = some (tyX3 k) := by decide +kernel
abbrev cX3_init : ByteArray := prog_5_method_1_code
def yX3_init : MethodName := ⟨RX3, "<init>", "()V"⟩
abbrev cX3_endOfRow : ByteArray := prog_5_method_2_code
def yX3_endOfRow : MethodName := ⟨RX3, "endOfRow", "(I)I"⟩
abbrev cX3_isRow : ByteArray := prog_5_method_3_code
def yX3_isRow : MethodName := ⟨RX3, "isRow", "(II)Z"⟩
abbrev cX3_isDigit : ByteArray := prog_5_method_4_code
def yX3_isDigit : MethodName := ⟨RX3, "isDigit", "(C)Z"⟩
abbrev cX3_motionOfRow : ByteArray := prog_5_method_5_code
def yX3_motionOfRow : MethodName := ⟨RX3, "motionOfRow", "(I)I"⟩
abbrev cX3_highestInputOfRow : ByteArray := prog_5_method_6_code
def yX3_highestInputOfRow : MethodName := ⟨RX3, "highestInputOfRow", "(II)I"⟩
abbrev cX3_inputsOfRow : ByteArray := prog_5_method_7_code
def yX3_inputsOfRow : MethodName := ⟨RX3, "inputsOfRow", "(II)I"⟩
abbrev cX3_rowsOfMotion : ByteArray := prog_5_method_8_code
def yX3_rowsOfMotion : MethodName := ⟨RX3, "rowsOfMotion", "(II)I"⟩
def RX4 : String := "InterlockBoard"
def TX4 : u_T := fun k => match k with
  | 0 => ("InterlockBoard", "now", "LInterlockBoard$State;", true)
  | 1 => ("InterlockBoard", "history", "[LInterlockBoard$State;", true)
  | 2 => ("InterlockBoard", "historySize", "I", false)
  | 3 => ("InterlockBoard", "snapshots", "[LInterlockBoard$State;", true)
  | 4 => ("InterlockBoard", "snapshotsTaken", "I", false)
  | _ => ("InterlockBoard", "text", "LInterlockBoard$Text;", true)
def tyX4 : Nat → FieldType := fun k => match k with
  | 0 => .object "InterlockBoard$State"
  | 1 => .array (.object "InterlockBoard$State")
  | 2 => .int
  | 3 => .array (.object "InterlockBoard$State")
  | 4 => .int
  | _ => .object "InterlockBoard$Text"
abbrev wsX40 : List Cond := u_ws RX4 TX4 6
theorem nmX4 : ∀ a, a < 6 → ∀ b, b < 6 → a ≠ b → (TX4 a).2.1 ≠ (TX4 b).2.1 := by decide +kernel
theorem tyX4_ok : ∀ k, k < 6 → parseFieldDescriptor (TX4 k).2.2.1 = some (tyX4 k) := by decide +kernel
abbrev cX4_init : ByteArray := prog_1_method_1_code
def yX4_init : MethodName := ⟨RX4, "<init>", "()V"⟩
abbrev cX4_sensor : ByteArray := prog_1_method_2_code
def yX4_sensor : MethodName := ⟨RX4, "sensor", "(I)I"⟩
abbrev cX4_lock : ByteArray := prog_1_method_3_code
def yX4_lock : MethodName := ⟨RX4, "lock", "(II)I"⟩
abbrev cX4_essential : ByteArray := prog_1_method_4_code
def yX4_essential : MethodName := ⟨RX4, "essential", "(II)I"⟩
abbrev cX4_input : ByteArray := prog_1_method_5_code
def yX4_input : MethodName := ⟨RX4, "input", "(II)I"⟩
abbrev cX4_inputInfo : ByteArray := prog_1_method_6_code
def yX4_inputInfo : MethodName := ⟨RX4, "inputInfo", "(II)I"⟩
abbrev cX4_keyIn : ByteArray := prog_1_method_7_code
def yX4_keyIn : MethodName := ⟨RX4, "keyIn", "(II)I"⟩
abbrev cX4_keyOut : ByteArray := prog_1_method_8_code
def yX4_keyOut : MethodName := ⟨RX4, "keyOut", "(I)I"⟩
abbrev cX4_key : ByteArray := prog_1_method_9_code
def yX4_key : MethodName := ⟨RX4, "key", "(I)I"⟩
abbrev cX4_bridge : ByteArray := prog_1_method_10_code
def yX4_bridge : MethodName := ⟨RX4, "bridge", "(II)I"⟩
abbrev cX4_unbridge : ByteArray := prog_1_method_11_code
def yX4_unbridge : MethodName := ⟨RX4, "unbridge", "(I)I"⟩
abbrev cX4_bridged : ByteArray := prog_1_method_12_code
def yX4_bridged : MethodName := ⟨RX4, "bridged", "(I)I"⟩
abbrev cX4_row : ByteArray := prog_1_method_13_code
def yX4_row : MethodName := ⟨RX4, "row", "(II)I"⟩
abbrev cX4_dropRows : ByteArray := prog_1_method_14_code
def yX4_dropRows : MethodName := ⟨RX4, "dropRows", "(I)I"⟩
abbrev cX4_exclude : ByteArray := prog_1_method_15_code
def yX4_exclude : MethodName := ⟨RX4, "exclude", "(III)I"⟩
abbrev cX4_start : ByteArray := prog_1_method_16_code
def yX4_start : MethodName := ⟨RX4, "start", "(I)I"⟩
abbrev cX4_why : ByteArray := prog_1_method_17_code
def yX4_why : MethodName := ⟨RX4, "why", "(I)I"⟩
abbrev cX4_stop : ByteArray := prog_1_method_18_code
def yX4_stop : MethodName := ⟨RX4, "stop", "(I)I"⟩
abbrev cX4_reset : ByteArray := prog_1_method_19_code
def yX4_reset : MethodName := ⟨RX4, "reset", "(I)I"⟩
abbrev cX4_motion : ByteArray := prog_1_method_20_code
def yX4_motion : MethodName := ⟨RX4, "motion", "(II)I"⟩
abbrev cX4_ways : ByteArray := prog_1_method_21_code
def yX4_ways : MethodName := ⟨RX4, "ways", "(I)I"⟩
abbrev cX4_waysAgain : ByteArray := prog_1_method_22_code
def yX4_waysAgain : MethodName := ⟨RX4, "waysAgain", "(I)I"⟩
abbrev cX4_needed : ByteArray := prog_1_method_23_code
def yX4_needed : MethodName := ⟨RX4, "needed", "(I)I"⟩
abbrev cX4_test : ByteArray := prog_1_method_24_code
def yX4_test : MethodName := ⟨RX4, "test", "(I)I"⟩
abbrev cX4_run : ByteArray := prog_1_method_25_code
def yX4_run : MethodName := ⟨RX4, "run", "(I)I"⟩
abbrev cX4_count : ByteArray := prog_1_method_26_code
def yX4_count : MethodName := ⟨RX4, "count", "(I)I"⟩
abbrev cX4_snapshot : ByteArray := prog_1_method_27_code
def yX4_snapshot : MethodName := ⟨RX4, "snapshot", "(I)I"⟩
abbrev cX4_restore : ByteArray := prog_1_method_28_code
def yX4_restore : MethodName := ⟨RX4, "restore", "(I)I"⟩
abbrev cX4_undo : ByteArray := prog_1_method_29_code
def yX4_undo : MethodName := ⟨RX4, "undo", "()I"⟩
abbrev cX4_type : ByteArray := prog_1_method_30_code
def yX4_type : MethodName := ⟨RX4, "type", "(I)I"⟩
abbrev cX4_clearText : ByteArray := prog_1_method_31_code
def yX4_clearText : MethodName := ⟨RX4, "clearText", "()I"⟩
abbrev cX4_fault : ByteArray := prog_1_method_32_code
def yX4_fault : MethodName := ⟨RX4, "fault", "(I)I"⟩
abbrev cX4_read : ByteArray := prog_1_method_33_code
def yX4_read : MethodName := ⟨RX4, "read", "()I"⟩
abbrev cX4_isInput : ByteArray := prog_1_method_34_code
def yX4_isInput : MethodName := ⟨RX4, "isInput", "(I)Z"⟩
abbrev cX4_isKey : ByteArray := prog_1_method_35_code
def yX4_isKey : MethodName := ⟨RX4, "isKey", "(I)Z"⟩
abbrev cX4_isMotion : ByteArray := prog_1_method_36_code
def yX4_isMotion : MethodName := ⟨RX4, "isMotion", "(I)Z"⟩
abbrev cX4_isSnapshotPlace : ByteArray := prog_1_method_37_code
def yX4_isSnapshotPlace : MethodName := ⟨RX4, "isSnapshotPlace", "(I)Z"⟩
abbrev cX4_isYesOrNo : ByteArray := prog_1_method_38_code
def yX4_isYesOrNo : MethodName := ⟨RX4, "isYesOrNo", "(I)Z"⟩
abbrev cX4_has : ByteArray := prog_1_method_39_code
def yX4_has : MethodName := ⟨RX4, "has", "(II)Z"⟩
abbrev cX4_bitOf : ByteArray := prog_1_method_40_code
def yX4_bitOf : MethodName := ⟨RX4, "bitOf", "(II)I"⟩
abbrev cX4_with : ByteArray := prog_1_method_41_code
def yX4_with : MethodName := ⟨RX4, "with", "(IIZ)I"⟩
abbrev cX4_least : ByteArray := prog_1_method_42_code
def yX4_least : MethodName := ⟨RX4, "least", "(I)I"⟩
abbrev cX4_sum : ByteArray := prog_1_method_43_code
def yX4_sum : MethodName := ⟨RX4, "sum", "([I)I"⟩
abbrev cX4_copyAll : ByteArray := prog_1_method_44_code
def yX4_copyAll : MethodName := ⟨RX4, "copyAll", "([I[I)V"⟩
abbrev cX4_orNotFound : ByteArray := prog_1_method_45_code
def yX4_orNotFound : MethodName := ⟨RX4, "orNotFound", "(I)I"⟩
abbrev cX4_rowOrNotFound : ByteArray := prog_1_method_46_code
def yX4_rowOrNotFound : MethodName := ⟨RX4, "rowOrNotFound", "(II)I"⟩
abbrev cX4_isPermitted : ByteArray := prog_1_method_47_code
def yX4_isPermitted : MethodName := ⟨RX4, "isPermitted", "(I)Z"⟩
abbrev cX4_reasonAgainstStart : ByteArray := prog_1_method_48_code
def yX4_reasonAgainstStart : MethodName := ⟨RX4, "reasonAgainstStart", "(I)I"⟩
abbrev cX4_remember : ByteArray := prog_1_method_49_code
def yX4_remember : MethodName := ⟨RX4, "remember", "()V"⟩
abbrev cX4_forgetOldest : ByteArray := prog_1_method_50_code
def yX4_forgetOldest : MethodName := ⟨RX4, "forgetOldest", "()V"⟩
abbrev cX4_lookAtMotions : ByteArray := prog_1_method_51_code
def yX4_lookAtMotions : MethodName := ⟨RX4, "lookAtMotions", "(I)I"⟩
abbrev cX4_placeOfFault : ByteArray := prog_1_method_52_code
def yX4_placeOfFault : MethodName := ⟨RX4, "placeOfFault", "()I"⟩
abbrev cX4_faultOfRow : ByteArray := prog_1_method_53_code
def yX4_faultOfRow : MethodName := ⟨RX4, "faultOfRow", "(II)I"⟩
def RX5 : String := "InterlockBoardModel"
def TX5 : u_T := fun k => match k with
  | _ => ("", "", "", false)
def tyX5 : Nat → FieldType := fun k => match k with
  | _ => .int
abbrev wsX50 : List Cond := u_ws RX5 TX5 0
theorem nmX5 : ∀ a, a < 0 → ∀ b, b < 0 → a ≠ b → (TX5 a).2.1 ≠ (TX5 b).2.1 := by decide +kernel
theorem tyX5_ok : ∀ k, k < 0 → parseFieldDescriptor (TX5 k).2.2.1 = some (tyX5 k) := by decide +kernel
def RJ6 : String := "java/lang/Integer"
def TJ6 : u_T := fun k => match k with
  | _ => ("", "", "", false)
def tyJ6 : Nat → FieldType := fun k => match k with
  | _ => .int
abbrev wsJ60 : List Cond := u_ws RJ6 TJ6 0
theorem nmJ6 : ∀ a, a < 0 → ∀ b, b < 0 → a ≠ b → (TJ6 a).2.1 ≠ (TJ6 b).2.1 := by decide +kernel
theorem tyJ6_ok : ∀ k, k < 0 → parseFieldDescriptor (TJ6 k).2.2.1 = some (tyJ6 k) := by decide +kernel
abbrev cJ6_bitCount_0f7a4 : ByteArray := prog_8_method_49_code
def yJ6_bitCount_0f7a4 : MethodName := ⟨RJ6, "bitCount", "(I)I"⟩
def RJ9 : String := "java/lang/Math"
def TJ9 : u_T := fun k => match k with
  | _ => ("", "", "", false)
def tyJ9 : Nat → FieldType := fun k => match k with
  | _ => .int
abbrev wsJ90 : List Cond := u_ws RJ9 TJ9 0
theorem nmJ9 : ∀ a, a < 0 → ∀ b, b < 0 → a ≠ b → (TJ9 a).2.1 ≠ (TJ9 b).2.1 := by decide +kernel
theorem tyJ9_ok : ∀ k, k < 0 → parseFieldDescriptor (TJ9 k).2.2.1 = some (tyJ9 k) := by decide +kernel
abbrev cJ9_max_7cf53 : ByteArray := prog_9_method_65_code
def yJ9_max_7cf53 : MethodName := ⟨RJ9, "max", "(II)I"⟩
abbrev cJ9_min_7cf53 : ByteArray := prog_9_method_69_code
def yJ9_min_7cf53 : MethodName := ⟨RJ9, "min", "(II)I"⟩
def RJ10 : String := "java/lang/System"
def TJ10 : u_T := fun k => match k with
  | _ => ("", "", "", false)
def tyJ10 : Nat → FieldType := fun k => match k with
  | _ => .int
abbrev wsJ100 : List Cond := u_ws RJ10 TJ10 0
theorem nmJ10 : ∀ a, a < 0 → ∀ b, b < 0 → a ≠ b → (TJ10 a).2.1 ≠ (TJ10 b).2.1 := by decide +kernel
theorem tyJ10_ok : ∀ k, k < 0 → parseFieldDescriptor (TJ10 k).2.2.1 = some (tyJ10 k) := by decide +kernel
def RL : String := "InterlockBoardLaw"
abbrev cL_part : ByteArray := method_2_code
def yL_part : MethodName := ⟨RL, "part", "(II)I"⟩
abbrev cL_take : ByteArray := method_3_code
def yL_take : MethodName := ⟨RL, "take", "([II)I"⟩
abbrev cL_mixed : ByteArray := method_4_code
def yL_mixed : MethodName := ⟨RL, "mixed", "(JJ)J"⟩
abbrev cL_state : ByteArray := method_5_code
def yL_state : MethodName := ⟨RL, "state", "(LInterlockBoard;)J"⟩
abbrev cL_refusesMotions : ByteArray := method_6_code
def yL_refusesMotions : MethodName := ⟨RL, "refusesMotions", "(LInterlockBoard;)Z"⟩
abbrev cL_refused : ByteArray := method_7_code
def yL_refused : MethodName := ⟨RL, "refused", "(LInterlockBoard;)Z"⟩
abbrev cL_types : ByteArray := method_8_code
def yL_types : MethodName := ⟨RL, "types", "(LInterlockBoard;J)V"⟩
abbrev cL_isFault : ByteArray := method_9_code
def yL_isFault : MethodName := ⟨RL, "isFault", "(LInterlockBoard;JJJII)Z"⟩
abbrev cL_texts : ByteArray := method_10_code
def yL_texts : MethodName := ⟨RL, "texts", "()Z"⟩
abbrev cL_known : ByteArray := method_11_code
def yL_known : MethodName := ⟨RL, "known", "()Z"⟩
abbrev cL_law : ByteArray := code
def yL_law : MethodName := ⟨RL, "law", "([I)Z"⟩
