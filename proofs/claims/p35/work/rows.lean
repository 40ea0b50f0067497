section
-- ===== PART A: goes FIRST, ahead of the names: the tables' words, and 'selects' of the private methods out of them =====
/-- a private method of a class that the tables say can be made, by its rows of tables_1 -/
def lw_okq (q : MethodName × Nat) : Prop := (q.1.cls ≠ "java/lang/invoke/MethodHandle" ∧ q.1.cls ≠ "java/lang/invoke/VarHandle") ∧ Cond.instantiable q.1.cls q.2 ∈ tables_1 ∧ Cond.privateMethod q.1 ∈ tables_1 ∧ Cond.instanceMethod q.1 ∈ tables_1
theorem lw_p0 : lw_okq (⟨"InterlockBoard", "remember", "()V"⟩, 6) := ⟨⟨by decide +kernel, by decide +kernel⟩, List.mem_of_getElem? (i := 10) (by decide +kernel), List.mem_of_getElem? (i := 178) (by decide +kernel), List.mem_of_getElem? (i := 179) (by decide +kernel)⟩
theorem lw_p1 : lw_okq (⟨"InterlockBoard", "forgetOldest", "()V"⟩, 6) := ⟨⟨by decide +kernel, by decide +kernel⟩, List.mem_of_getElem? (i := 10) (by decide +kernel), List.mem_of_getElem? (i := 182) (by decide +kernel), List.mem_of_getElem? (i := 183) (by decide +kernel)⟩
theorem lw_p2 : lw_okq (⟨"InterlockBoard", "isInput", "(I)Z"⟩, 6) := ⟨⟨by decide +kernel, by decide +kernel⟩, List.mem_of_getElem? (i := 10) (by decide +kernel), List.mem_of_getElem? (i := 219) (by decide +kernel), List.mem_of_getElem? (i := 220) (by decide +kernel)⟩
theorem lw_p3 : lw_okq (⟨"InterlockBoard", "lookAtMotions", "(I)I"⟩, 6) := ⟨⟨by decide +kernel, by decide +kernel⟩, List.mem_of_getElem? (i := 10) (by decide +kernel), List.mem_of_getElem? (i := 257) (by decide +kernel), List.mem_of_getElem? (i := 258) (by decide +kernel)⟩
theorem lw_p4 : lw_okq (⟨"InterlockBoard", "reasonAgainstStart", "(I)I"⟩, 6) := ⟨⟨by decide +kernel, by decide +kernel⟩, List.mem_of_getElem? (i := 10) (by decide +kernel), List.mem_of_getElem? (i := 344) (by decide +kernel), List.mem_of_getElem? (i := 345) (by decide +kernel)⟩
theorem lw_p5 : lw_okq (⟨"InterlockBoard", "isPermitted", "(I)Z"⟩, 6) := ⟨⟨by decide +kernel, by decide +kernel⟩, List.mem_of_getElem? (i := 10) (by decide +kernel), List.mem_of_getElem? (i := 348) (by decide +kernel), List.mem_of_getElem? (i := 349) (by decide +kernel)⟩
theorem lw_p6 : lw_okq (⟨"InterlockBoard", "rowOrNotFound", "(II)I"⟩, 6) := ⟨⟨by decide +kernel, by decide +kernel⟩, List.mem_of_getElem? (i := 10) (by decide +kernel), List.mem_of_getElem? (i := 454) (by decide +kernel), List.mem_of_getElem? (i := 455) (by decide +kernel)⟩
theorem lw_p7 : lw_okq (⟨"InterlockBoard", "placeOfFault", "()I"⟩, 6) := ⟨⟨by decide +kernel, by decide +kernel⟩, List.mem_of_getElem? (i := 10) (by decide +kernel), List.mem_of_getElem? (i := 515) (by decide +kernel), List.mem_of_getElem? (i := 516) (by decide +kernel)⟩
theorem lw_p8 : lw_okq (⟨"InterlockBoard", "faultOfRow", "(II)I"⟩, 6) := ⟨⟨by decide +kernel, by decide +kernel⟩, List.mem_of_getElem? (i := 10) (by decide +kernel), List.mem_of_getElem? (i := 519) (by decide +kernel), List.mem_of_getElem? (i := 520) (by decide +kernel)⟩
def lw_privs_1 : List (MethodName × Nat) := [(⟨"InterlockBoard", "remember", "()V"⟩, 6), (⟨"InterlockBoard", "forgetOldest", "()V"⟩, 6), (⟨"InterlockBoard", "isInput", "(I)Z"⟩, 6), (⟨"InterlockBoard", "lookAtMotions", "(I)I"⟩, 6), (⟨"InterlockBoard", "reasonAgainstStart", "(I)I"⟩, 6), (⟨"InterlockBoard", "isPermitted", "(I)Z"⟩, 6), (⟨"InterlockBoard", "rowOrNotFound", "(II)I"⟩, 6), (⟨"InterlockBoard", "placeOfFault", "()I"⟩, 6), (⟨"InterlockBoard", "faultOfRow", "(II)I"⟩, 6)]
theorem lw_r1 : ∀ q ∈ lw_privs_1, lw_okq q := List.forall_mem_cons.mpr ⟨lw_p0, List.forall_mem_cons.mpr ⟨lw_p1, List.forall_mem_cons.mpr ⟨lw_p2, List.forall_mem_cons.mpr ⟨lw_p3, List.forall_mem_cons.mpr ⟨lw_p4, List.forall_mem_cons.mpr ⟨lw_p5, List.forall_mem_cons.mpr ⟨lw_p6, List.forall_mem_cons.mpr ⟨lw_p7, List.forall_mem_cons.mpr ⟨lw_p8, fun _ h => absurd h List.not_mem_nil⟩⟩⟩⟩⟩⟩⟩⟩⟩
def lw_privs : List (MethodName × Nat) := lw_privs_1
def lw_tbl : List Cond := k2_sels lw_privs ++ tables_1
theorem lw_privs_ok : ∀ q ∈ lw_privs, lw_okq q := lw_r1
/-! ===== BEGIN words of one list among another's, by their places ===== -/
theorem goodIn_r {big : List Cond} (ws : List Cond) (ps : List Nat) (hp : ws = ps.filterMap (fun i => big[i]?)) (h : ws.all goodWord = true) : GoodIn big ws := by
  intro w hw
  have h1 := List.all_eq_true.mp h w hw
  rw [hp] at hw
  obtain ⟨i, -, hi⟩ := List.mem_filterMap.mp hw
  have hm : w ∈ big := by first | exact List.mem_of_getElem? hi | exact List.getElem?_mem hi
  exact ⟨hm, good_of_word h1⟩
theorem goodIn_app {big a b : List Cond} (ha : GoodIn big a) (hb : GoodIn big b) : GoodIn big (a ++ b) := fun w h => (List.mem_append.mp h).elim (ha w) (hb w)
theorem goodIn_ca {big a b : List Cond} {c : Cond} (ha : GoodIn big (c :: a)) (hb : GoodIn big b) : GoodIn big (c :: (a ++ b)) := fun w h => (List.mem_cons.mp h).elim (fun e => ha w (List.mem_cons.mpr (Or.inl e))) (fun h => (List.mem_append.mp h).elim (fun h => ha w (List.mem_cons.mpr (Or.inr h))) (hb w))
theorem goodIn_sub {big ws : List Cond} (hm : ∀ w ∈ ws, w ∈ big) (h : ws.all goodWord = true) : GoodIn big ws := fun w hw => ⟨hm w hw, good_of_word (List.all_eq_true.mp h w hw)⟩
/-! ===== END ===== -/

/-! ===== BEGIN printed: names, fields, word lists, decode rows ===== -/
def RX0 : String := "InterlockBoard$Inputs"
def TX0 : u_T := fun k => match k with
  | 0 => ("InterlockBoard$Inputs", "size", "I", false)
  | 1 => ("InterlockBoard$Inputs", "ticks", "I", false)
  | 2 => ("InterlockBoard$Inputs", "testsDone", "I", false)
  | 3 => ("InterlockBoard$Inputs", "closedOnes", "I", false)
  | 4 => ("InterlockBoard$Inputs", "essentialOnes", "I", false)
  | 5 => ("InterlockBoard$Inputs", "keyOf", "[I", true)
  | 6 => ("InterlockBoard$Inputs", "guard", "[I", true)
  | 7 => ("InterlockBoard$Inputs", "interval", "[I", true)
  | 8 => ("InterlockBoard$Inputs", "tested", "[I", true)
  | 9 => ("InterlockBoard$Inputs", "bridgeLeft", "[I", true)
  | 10 => ("InterlockBoard$Inputs", "bridgedTicks", "[I", true)
  | 11 => ("InterlockBoard$Inputs", "testPhase", "[I", true)
  | _ => ("InterlockBoard$Inputs", "lastTickOfTest", "[I", true)
def tyX0 : Nat → FieldType := fun k => match k with
  | 0 => .int
  | 1 => .int
  | 2 => .int
  | 3 => .int
  | 4 => .int
  | 5 => .array .int
  | 6 => .array .int
  | 7 => .array .int
  | 8 => .array .int
  | 9 => .array .int
  | 10 => .array .int
  | 11 => .array .int
  | _ => .array .int
abbrev wsX00 : List Cond := u_ws RX0 TX0 13
theorem nmX0 : ∀ a, a < 13 → ∀ b, b < 13 → a ≠ b → (TX0 a).2.1 ≠ (TX0 b).2.1 := by decide +kernel
theorem tyX0_ok : ∀ k, k < 13 → parseFieldDescriptor (TX0 k).2.2.1 = some (tyX0 k) := by decide +kernel
abbrev cX0_init : ByteArray := prog_2_method_1_code
def yX0_init : MethodName := ⟨RX0, "<init>", "()V"⟩
abbrev cX0_copyFrom : ByteArray := prog_2_method_2_code
def yX0_copyFrom : MethodName := ⟨RX0, "copyFrom", "(LInterlockBoard$Inputs;)V"⟩
abbrev cX0_add : ByteArray := prog_2_method_3_code
def yX0_add : MethodName := ⟨RX0, "add", "(III)I"⟩
abbrev cX0_all : ByteArray := prog_2_method_4_code
def yX0_all : MethodName := ⟨RX0, "all", "()I"⟩
abbrev cX0_isLock : ByteArray := prog_2_method_5_code
def yX0_isLock : MethodName := ⟨RX0, "isLock", "(I)Z"⟩
abbrev cX0_overdueOnes : ByteArray := prog_2_method_6_code
def yX0_overdueOnes : MethodName := ⟨RX0, "overdueOnes", "()I"⟩
abbrev cX0_bridgedOnes : ByteArray := prog_2_method_7_code
def yX0_bridgedOnes : MethodName := ⟨RX0, "bridgedOnes", "()I"⟩
abbrev cX0_countingAsClosed : ByteArray := prog_2_method_8_code
def yX0_countingAsClosed : MethodName := ⟨RX0, "countingAsClosed", "()I"⟩
abbrev cX0_endsFirst : ByteArray := prog_2_method_9_code
def yX0_endsFirst : MethodName := ⟨RX0, "endsFirst", "(I)I"⟩
abbrev cX0_placeOfKey : ByteArray := prog_2_method_10_code
def yX0_placeOfKey : MethodName := ⟨RX0, "placeOfKey", "(I)I"⟩
abbrev cX0_keysInLocks : ByteArray := prog_2_method_11_code
def yX0_keysInLocks : MethodName := ⟨RX0, "keysInLocks", "()I"⟩
abbrev cX0_guardAllows : ByteArray := prog_2_method_12_code
def yX0_guardAllows : MethodName := ⟨RX0, "guardAllows", "(I)Z"⟩
abbrev cX0_canBeTested : ByteArray := prog_2_method_13_code
def yX0_canBeTested : MethodName := ⟨RX0, "canBeTested", "(I)Z"⟩
abbrev cX0_beginTest : ByteArray := prog_2_method_14_code
def yX0_beginTest : MethodName := ⟨RX0, "beginTest", "(I)I"⟩
abbrev cX0_openSensor : ByteArray := prog_2_method_15_code
def yX0_openSensor : MethodName := ⟨RX0, "openSensor", "(I)V"⟩
abbrev cX0_closeSensor : ByteArray := prog_2_method_16_code
def yX0_closeSensor : MethodName := ⟨RX0, "closeSensor", "(I)V"⟩
abbrev cX0_tick : ByteArray := prog_2_method_17_code
def yX0_tick : MethodName := ⟨RX0, "tick", "()V"⟩
def RX1 : String := "InterlockBoard$Motions"
def TX1 : u_T := fun k => match k with
  | 0 => ("InterlockBoard$Motions", "running", "I", false)
  | 1 => ("InterlockBoard$Motions", "rows", "[I", true)
  | 2 => ("InterlockBoard$Motions", "rowCount", "[I", true)
  | 3 => ("InterlockBoard$Motions", "excluders", "[I", true)
  | 4 => ("InterlockBoard$Motions", "firstOut", "[I", true)
  | 5 => ("InterlockBoard$Motions", "tickOfStop", "[I", true)
  | 6 => ("InterlockBoard$Motions", "stopsByInput", "[I", true)
  | 7 => ("InterlockBoard$Motions", "starts", "[I", true)
  | 8 => ("InterlockBoard$Motions", "ticksSinceStart", "[I", true)
  | _ => ("InterlockBoard$Motions", "ticksInAll", "[I", true)
def tyX1 : Nat → FieldType := fun k => match k with
  | 0 => .int
  | 1 => .array .int
  | 2 => .array .int
  | 3 => .array .int
  | 4 => .array .int
  | 5 => .array .int
  | 6 => .array .int
  | 7 => .array .int
  | 8 => .array .int
  | _ => .array .int
abbrev wsX10 : List Cond := u_ws RX1 TX1 10
theorem nmX1 : ∀ a, a < 10 → ∀ b, b < 10 → a ≠ b → (TX1 a).2.1 ≠ (TX1 b).2.1 := by decide +kernel
theorem tyX1_ok : ∀ k, k < 10 → parseFieldDescriptor (TX1 k).2.2.1 = some (tyX1 k) := by decide +kernel
abbrev cX1_init : ByteArray := prog_3_method_1_code
def yX1_init : MethodName := ⟨RX1, "<init>", "()V"⟩
abbrev cX1_copyFrom : ByteArray := prog_3_method_2_code
def yX1_copyFrom : MethodName := ⟨RX1, "copyFrom", "(LInterlockBoard$Motions;)V"⟩
abbrev cX1_rowAt : ByteArray := prog_3_method_3_code
def yX1_rowAt : MethodName := ⟨RX1, "rowAt", "(II)I"⟩
abbrev cX1_addRow : ByteArray := prog_3_method_4_code
def yX1_addRow : MethodName := ⟨RX1, "addRow", "(II)I"⟩
abbrev cX1_inputsOf : ByteArray := prog_3_method_5_code
def yX1_inputsOf : MethodName := ⟨RX1, "inputsOf", "(I)I"⟩
abbrev cX1_inputsOfRows : ByteArray := prog_3_method_6_code
def yX1_inputsOfRows : MethodName := ⟨RX1, "inputsOfRows", "(II)I"⟩
abbrev cX1_isPermitted : ByteArray := prog_3_method_7_code
def yX1_isPermitted : MethodName := ⟨RX1, "isPermitted", "(II)Z"⟩
abbrev cX1_permittedOnes : ByteArray := prog_3_method_8_code
def yX1_permittedOnes : MethodName := ⟨RX1, "permittedOnes", "(I)I"⟩
abbrev cX1_withFirstOut : ByteArray := prog_3_method_9_code
def yX1_withFirstOut : MethodName := ⟨RX1, "withFirstOut", "()I"⟩
abbrev cX1_fewestOpen : ByteArray := prog_3_method_10_code
def yX1_fewestOpen : MethodName := ⟨RX1, "fewestOpen", "(II)I"⟩
abbrev cX1_begin : ByteArray := prog_3_method_11_code
def yX1_begin : MethodName := ⟨RX1, "begin", "(I)V"⟩
abbrev cX1_stopUnpermitted : ByteArray := prog_3_method_12_code
def yX1_stopUnpermitted : MethodName := ⟨RX1, "stopUnpermitted", "(III)I"⟩
abbrev cX1_leastOpened : ByteArray := prog_3_method_13_code
def yX1_leastOpened : MethodName := ⟨RX1, "leastOpened", "(II)I"⟩
abbrev cX1_countTick : ByteArray := prog_3_method_14_code
def yX1_countTick : MethodName := ⟨RX1, "countTick", "()V"⟩
def RX2 : String := "InterlockBoard$State"
def TX2 : u_T := fun k => match k with
  | 0 => ("InterlockBoard$State", "inputs", "LInterlockBoard$Inputs;", true)
  | _ => ("InterlockBoard$State", "motions", "LInterlockBoard$Motions;", true)
def tyX2 : Nat → FieldType := fun k => match k with
  | 0 => .object "InterlockBoard$Inputs"
  | _ => .object "InterlockBoard$Motions"
abbrev wsX20 : List Cond := u_ws RX2 TX2 2
theorem nmX2 : ∀ a, a < 2 → ∀ b, b < 2 → a ≠ b → (TX2 a).2.1 ≠ (TX2 b).2.1 := by decide +kernel
theorem tyX2_ok : ∀ k, k < 2 → parseFieldDescriptor (TX2 k).2.2.1 = some (tyX2 k) := by decide +kernel
abbrev cX2_init : ByteArray := prog_4_method_1_code
def yX2_init : MethodName := ⟨RX2, "<init>", "()V"⟩
abbrev cX2_copyFrom : ByteArray := prog_4_method_2_code
def yX2_copyFrom : MethodName := ⟨RX2, "copyFrom", "(LInterlockBoard$State;)V"⟩
def RX3 : String := "InterlockBoard$Text"
def TX3 : u_T := fun k => match k with
  | 0 => ("InterlockBoard$Text", "signs", "[C", true)
  | _ => ("InterlockBoard$Text", "length", "I", false)
def tyX3 : Nat → FieldType := fun k => match k with
  | 0 => .array .char
  | _ => .int
abbrev wsX30 : List Cond := u_ws RX3 TX3 2
theorem nmX3 : ∀ a, a < 2 → ∀ b, b < 2 → a ≠ b → (TX3 a).2.1 ≠ (TX3 b).2.1 := by decide +kernel
theorem tyX3_ok : ∀ k, k < 2 → parseFieldDescriptor (TX3 k).2.2.1 = some (tyX3 k) := by decide +kernel
abbrev cX3_init : ByteArray := prog_5_method_1_code
def yX3_init : MethodName := ⟨RX3, "<init>", "()V"⟩
abbrev cX3_endOfRow : ByteArray := prog_5_method_2_code
def yX3_endOfRow : MethodName := ⟨RX3, "endOfRow", "(I)I"⟩
abbrev cX3_isRow : ByteArray := prog_5_method_3_code
def yX3_isRow : MethodName := ⟨RX3, "isRow", "(II)Z"⟩
abbrev cX3_isDigit : ByteArray := prog_5_method_4_code
def yX3_isDigit : MethodName := ⟨RX3, "isDigit", "(C)Z"⟩
abbrev cX3_motionOfRow : ByteArray := prog_5_method_5_code
def yX3_motionOfRow : MethodName := ⟨RX3, "motionOfRow", "(I)I"⟩
abbrev cX3_highestInputOfRow : ByteArray := prog_5_method_6_code
def yX3_highestInputOfRow : MethodName := ⟨RX3, "highestInputOfRow", "(II)I"⟩
abbrev cX3_inputsOfRow : ByteArray := prog_5_method_7_code
def yX3_inputsOfRow : MethodName := ⟨RX3, "inputsOfRow", "(II)I"⟩
abbrev cX3_rowsOfMotion : ByteArray := prog_5_method_8_code
def yX3_rowsOfMotion : MethodName := ⟨RX3, "rowsOfMotion", "(II)I"⟩
def RX4 : String := "InterlockBoard"
def TX4 : u_T := fun k => match k with
  | 0 => ("InterlockBoard", "now", "LInterlockBoard$State;", true)
  | 1 => ("InterlockBoard", "history", "[LInterlockBoard$State;", true)
  | 2 => ("InterlockBoard", "historySize", "I", false)
  | 3 => ("InterlockBoard", "snapshots", "[LInterlockBoard$State;", true)
  | 4 => ("InterlockBoard", "snapshotsTaken", "I", false)
  | _ => ("InterlockBoard", "text", "LInterlockBoard$Text;", true)
def tyX4 : Nat → FieldType := fun k => match k with
  | 0 => .object "InterlockBoard$State"
  | 1 => .array (.object "InterlockBoard$State")
  | 2 => .int
  | 3 => .array (.object "InterlockBoard$State")
  | 4 => .int
  | _ => .object "InterlockBoard$Text"
abbrev wsX40 : List Cond := u_ws RX4 TX4 6
theorem nmX4 : ∀ a, a < 6 → ∀ b, b < 6 → a ≠ b → (TX4 a).2.1 ≠ (TX4 b).2.1 := by decide +kernel
theorem tyX4_ok : ∀ k, k < 6 → parseFieldDescriptor (TX4 k).2.2.1 = some (tyX4 k) := by decide +kernel
abbrev cX4_init : ByteArray := prog_1_method_1_code
def yX4_init : MethodName := ⟨RX4, "<init>", "()V"⟩
abbrev cX4_sensor : ByteArray := prog_1_method_2_code
def yX4_sensor : MethodName := ⟨RX4, "sensor", "(I)I"⟩
abbrev cX4_lock : ByteArray := prog_1_method_3_code
def yX4_lock : MethodName := ⟨RX4, "lock", "(II)I"⟩
abbrev cX4_essential : ByteArray := prog_1_method_4_code
def yX4_essential : MethodName := ⟨RX4, "essential", "(II)I"⟩
abbrev cX4_input : ByteArray := prog_1_method_5_code
def yX4_input : MethodName := ⟨RX4, "input", "(II)I"⟩
abbrev cX4_inputInfo : ByteArray := prog_1_method_6_code
def yX4_inputInfo : MethodName := ⟨RX4, "inputInfo", "(II)I"⟩
abbrev cX4_keyIn : ByteArray := prog_1_method_7_code
def yX4_keyIn : MethodName := ⟨RX4, "keyIn", "(II)I"⟩
abbrev cX4_keyOut : ByteArray := prog_1_method_8_code
def yX4_keyOut : MethodName := ⟨RX4, "keyOut", "(I)I"⟩
abbrev cX4_key : ByteArray := prog_1_method_9_code
def yX4_key : MethodName := ⟨RX4, "key", "(I)I"⟩
abbrev cX4_bridge : ByteArray := prog_1_method_10_code
def yX4_bridge : MethodName := ⟨RX4, "bridge", "(II)I"⟩
abbrev cX4_unbridge : ByteArray := prog_1_method_11_code
def yX4_unbridge : MethodName := ⟨RX4, "unbridge", "(I)I"⟩
abbrev cX4_bridged : ByteArray := prog_1_method_12_code
def yX4_bridged : MethodName := ⟨RX4, "bridged", "(I)I"⟩
abbrev cX4_row : ByteArray := prog_1_method_13_code
def yX4_row : MethodName := ⟨RX4, "row", "(II)I"⟩
abbrev cX4_dropRows : ByteArray := prog_1_method_14_code
def yX4_dropRows : MethodName := ⟨RX4, "dropRows", "(I)I"⟩
abbrev cX4_exclude : ByteArray := prog_1_method_15_code
def yX4_exclude : MethodName := ⟨RX4, "exclude", "(III)I"⟩
abbrev cX4_start : ByteArray := prog_1_method_16_code
def yX4_start : MethodName := ⟨RX4, "start", "(I)I"⟩
abbrev cX4_why : ByteArray := prog_1_method_17_code
def yX4_why : MethodName := ⟨RX4, "why", "(I)I"⟩
abbrev cX4_stop : ByteArray := prog_1_method_18_code
def yX4_stop : MethodName := ⟨RX4, "stop", "(I)I"⟩
abbrev cX4_reset : ByteArray := prog_1_method_19_code
def yX4_reset : MethodName := ⟨RX4, "reset", "(I)I"⟩
abbrev cX4_motion : ByteArray := prog_1_method_20_code
def yX4_motion : MethodName := ⟨RX4, "motion", "(II)I"⟩
abbrev cX4_ways : ByteArray := prog_1_method_21_code
def yX4_ways : MethodName := ⟨RX4, "ways", "(I)I"⟩
abbrev cX4_waysAgain : ByteArray := prog_1_method_22_code
def yX4_waysAgain : MethodName := ⟨RX4, "waysAgain", "(I)I"⟩
abbrev cX4_needed : ByteArray := prog_1_method_23_code
def yX4_needed : MethodName := ⟨RX4, "needed", "(I)I"⟩
abbrev cX4_test : ByteArray := prog_1_method_24_code
def yX4_test : MethodName := ⟨RX4, "test", "(I)I"⟩
abbrev cX4_run : ByteArray := prog_1_method_25_code
def yX4_run : MethodName := ⟨RX4, "run", "(I)I"⟩
abbrev cX4_count : ByteArray := prog_1_method_26_code
def yX4_count : MethodName := ⟨RX4, "count", "(I)I"⟩
abbrev cX4_snapshot : ByteArray := prog_1_method_27_code
def yX4_snapshot : MethodName := ⟨RX4, "snapshot", "(I)I"⟩
abbrev cX4_restore : ByteArray := prog_1_method_28_code
def yX4_restore : MethodName := ⟨RX4, "restore", "(I)I"⟩
abbrev cX4_undo : ByteArray := prog_1_method_29_code
def yX4_undo : MethodName := ⟨RX4, "undo", "()I"⟩
abbrev cX4_type : ByteArray := prog_1_method_30_code
def yX4_type : MethodName := ⟨RX4, "type", "(I)I"⟩
abbrev cX4_clearText : ByteArray := prog_1_method_31_code
def yX4_clearText : MethodName := ⟨RX4, "clearText", "()I"⟩
abbrev cX4_fault : ByteArray := prog_1_method_32_code
def yX4_fault : MethodName := ⟨RX4, "fault", "(I)I"⟩
abbrev cX4_read : ByteArray := prog_1_method_33_code
def yX4_read : MethodName := ⟨RX4, "read", "()I"⟩
abbrev cX4_isInput : ByteArray := prog_1_method_34_code
def yX4_isInput : MethodName := ⟨RX4, "isInput", "(I)Z"⟩
abbrev cX4_isKey : ByteArray := prog_1_method_35_code
def yX4_isKey : MethodName := ⟨RX4, "isKey", "(I)Z"⟩
abbrev cX4_isMotion : ByteArray := prog_1_method_36_code
def yX4_isMotion : MethodName := ⟨RX4, "isMotion", "(I)Z"⟩
abbrev cX4_isSnapshotPlace : ByteArray := prog_1_method_37_code
def yX4_isSnapshotPlace : MethodName := ⟨RX4, "isSnapshotPlace", "(I)Z"⟩
abbrev cX4_isYesOrNo : ByteArray := prog_1_method_38_code
def yX4_isYesOrNo : MethodName := ⟨RX4, "isYesOrNo", "(I)Z"⟩
abbrev cX4_has : ByteArray := prog_1_method_39_code
def yX4_has : MethodName := ⟨RX4, "has", "(II)Z"⟩
abbrev cX4_bitOf : ByteArray := prog_1_method_40_code
def yX4_bitOf : MethodName := ⟨RX4, "bitOf", "(II)I"⟩
abbrev cX4_with : ByteArray := prog_1_method_41_code
def yX4_with : MethodName := ⟨RX4, "with", "(IIZ)I"⟩
abbrev cX4_least : ByteArray := prog_1_method_42_code
def yX4_least : MethodName := ⟨RX4, "least", "(I)I"⟩
abbrev cX4_sum : ByteArray := prog_1_method_43_code
def yX4_sum : MethodName := ⟨RX4, "sum", "([I)I"⟩
abbrev cX4_copyAll : ByteArray := prog_1_method_44_code
def yX4_copyAll : MethodName := ⟨RX4, "copyAll", "([I[I)V"⟩
abbrev cX4_orNotFound : ByteArray := prog_1_method_45_code
def yX4_orNotFound : MethodName := ⟨RX4, "orNotFound", "(I)I"⟩
abbrev cX4_rowOrNotFound : ByteArray := prog_1_method_46_code
def yX4_rowOrNotFound : MethodName := ⟨RX4, "rowOrNotFound", "(II)I"⟩
abbrev cX4_isPermitted : ByteArray := prog_1_method_47_code
def yX4_isPermitted : MethodName := ⟨RX4, "isPermitted", "(I)Z"⟩
abbrev cX4_reasonAgainstStart : ByteArray := prog_1_method_48_code
def yX4_reasonAgainstStart : MethodName := ⟨RX4, "reasonAgainstStart", "(I)I"⟩
abbrev cX4_remember : ByteArray := prog_1_method_49_code
def yX4_remember : MethodName := ⟨RX4, "remember", "()V"⟩
abbrev cX4_forgetOldest : ByteArray := prog_1_method_50_code
def yX4_forgetOldest : MethodName := ⟨RX4, "forgetOldest", "()V"⟩
abbrev cX4_lookAtMotions : ByteArray := prog_1_method_51_code
def yX4_lookAtMotions : MethodName := ⟨RX4, "lookAtMotions", "(I)I"⟩
abbrev cX4_placeOfFault : ByteArray := prog_1_method_52_code
def yX4_placeOfFault : MethodName := ⟨RX4, "placeOfFault", "()I"⟩
abbrev cX4_faultOfRow : ByteArray := prog_1_method_53_code
def yX4_faultOfRow : MethodName := ⟨RX4, "faultOfRow", "(II)I"⟩
def RX5 : String := "InterlockBoardModel"
def TX5 : u_T := fun k => match k with
  | _ => ("", "", "", false)
def tyX5 : Nat → FieldType := fun k => match k with
  | _ => .int
abbrev wsX50 : List Cond := u_ws RX5 TX5 0
theorem nmX5 : ∀ a, a < 0 → ∀ b, b < 0 → a ≠ b → (TX5 a).2.1 ≠ (TX5 b).2.1 := by decide +kernel
theorem tyX5_ok : ∀ k, k < 0 → parseFieldDescriptor (TX5 k).2.2.1 = some (tyX5 k) := by decide +kernel
def RJ6 : String := "java/lang/Integer"
def TJ6 : u_T := fun k => match k with
  | _ => ("", "", "", false)
def tyJ6 : Nat → FieldType := fun k => match k with
  | _ => .int
abbrev wsJ60 : List Cond := u_ws RJ6 TJ6 0
theorem nmJ6 : ∀ a, a < 0 → ∀ b, b < 0 → a ≠ b → (TJ6 a).2.1 ≠ (TJ6 b).2.1 := by decide +kernel
theorem tyJ6_ok : ∀ k, k < 0 → parseFieldDescriptor (TJ6 k).2.2.1 = some (tyJ6 k) := by decide +kernel
abbrev cJ6_bitCount_0f7a4 : ByteArray := prog_8_method_49_code
def yJ6_bitCount_0f7a4 : MethodName := ⟨RJ6, "bitCount", "(I)I"⟩
def RJ9 : String := "java/lang/Math"
def TJ9 : u_T := fun k => match k with
  | _ => ("", "", "", false)
def tyJ9 : Nat → FieldType := fun k => match k with
  | _ => .int
abbrev wsJ90 : List Cond := u_ws RJ9 TJ9 0
theorem nmJ9 : ∀ a, a < 0 → ∀ b, b < 0 → a ≠ b → (TJ9 a).2.1 ≠ (TJ9 b).2.1 := by decide +kernel
theorem tyJ9_ok : ∀ k, k < 0 → parseFieldDescriptor (TJ9 k).2.2.1 = some (tyJ9 k) := by decide +kernel
abbrev cJ9_max_7cf53 : ByteArray := prog_9_method_65_code
def yJ9_max_7cf53 : MethodName := ⟨RJ9, "max", "(II)I"⟩
abbrev cJ9_min_7cf53 : ByteArray := prog_9_method_69_code
def yJ9_min_7cf53 : MethodName := ⟨RJ9, "min", "(II)I"⟩
def RJ10 : String := "java/lang/System"
def TJ10 : u_T := fun k => match k with
  | _ => ("", "", "", false)
def tyJ10 : Nat → FieldType := fun k => match k with
  | _ => .int
abbrev wsJ100 : List Cond := u_ws RJ10 TJ10 0
theorem nmJ10 : ∀ a, a < 0 → ∀ b, b < 0 → a ≠ b → (TJ10 a).2.1 ≠ (TJ10 b).2.1 := by decide +kernel
theorem tyJ10_ok : ∀ k, k < 0 → parseFieldDescriptor (TJ10 k).2.2.1 = some (tyJ10 k) := by decide +kernel
def RL : String := "InterlockBoardLaw"
abbrev cL_part : ByteArray := method_2_code
def yL_part : MethodName := ⟨RL, "part", "(II)I"⟩
abbrev cL_take : ByteArray := method_3_code
def yL_take : MethodName := ⟨RL, "take", "([II)I"⟩
abbrev cL_mixed : ByteArray := method_4_code
def yL_mixed : MethodName := ⟨RL, "mixed", "(JJ)J"⟩
abbrev cL_state : ByteArray := method_5_code
def yL_state : MethodName := ⟨RL, "state", "(LInterlockBoard;)J"⟩
abbrev cL_refusesMotions : ByteArray := method_6_code
def yL_refusesMotions : MethodName := ⟨RL, "refusesMotions", "(LInterlockBoard;)Z"⟩
abbrev cL_refused : ByteArray := method_7_code
def yL_refused : MethodName := ⟨RL, "refused", "(LInterlockBoard;)Z"⟩
abbrev cL_types : ByteArray := method_8_code
def yL_types : MethodName := ⟨RL, "types", "(LInterlockBoard;J)V"⟩
abbrev cL_isFault : ByteArray := method_9_code
def yL_isFault : MethodName := ⟨RL, "isFault", "(LInterlockBoard;JJJII)Z"⟩
abbrev cL_texts : ByteArray := method_10_code
def yL_texts : MethodName := ⟨RL, "texts", "()Z"⟩
abbrev cL_known : ByteArray := method_11_code
def yL_known : MethodName := ⟨RL, "known", "()Z"⟩
abbrev cL_law : ByteArray := code
def yL_law : MethodName := ⟨RL, "law", "([I)Z"⟩
end
section
/-! the methods as lists of resolved instructions, and the tables of their links: written by wip/whole/gen/tab.py out of the printed listing -/
abbrev pI : Type := Nat × Nat × Nat × Int32 × List Nat
/-- InterlockBoard$Inputs.<init>()V -/
def p_c_X0_init : List pI := [(2, 0, 0, 0, []), (24, 0, 0, 0, [3]), (2, 0, 0, 0, []), (0, 0, 0, 0, []), (19, 0, 0, 0, [9]), (2, 0, 0, 0, []), (0, 0, 0, 0, []), (19, 0, 1, 0, [15]), (2, 0, 0, 0, []), (0, 0, 0, 0, []), (19, 0, 2, 0, [18]), (2, 0, 0, 0, []), (0, 0, 0, 0, []), (19, 0, 3, 0, [21]), (2, 0, 0, 0, []), (0, 0, 0, 0, []), (19, 0, 4, 0, [24]), (2, 0, 0, 0, []), (0, 1, 0, 16, []), (22, 10, 0, 0, []), (20, 0, 5, 0, [27]), (2, 0, 0, 0, []), (0, 1, 0, 16, []), (22, 10, 0, 0, []), (20, 0, 6, 0, [31]), (2, 0, 0, 0, []), (0, 1, 0, 16, []), (22, 10, 0, 0, []), (20, 0, 7, 0, [34]), (2, 0, 0, 0, []), (0, 1, 0, 16, []), (22, 10, 0, 0, []), (20, 0, 8, 0, [37]), (2, 0, 0, 0, []), (0, 1, 0, 16, []), (22, 10, 0, 0, []), (20, 0, 9, 0, [40]), (2, 0, 0, 0, []), (0, 1, 0, 16, []), (22, 10, 0, 0, []), (20, 0, 10, 0, [43]), (2, 0, 0, 0, []), (0, 1, 0, 16, []), (22, 10, 0, 0, []), (20, 0, 11, 0, [46]), (2, 0, 0, 0, []), (0, 1, 0, 16, []), (22, 10, 0, 0, []), (20, 0, 12, 0, [49]), (50, 0, 0, 0, [])]
/-- InterlockBoard$Inputs.copyFrom(LInterlockBoard$Inputs;)V -/
def p_c_X0_copyFrom : List pI := [(2, 0, 0, 0, []), (2, 1, 0, 0, []), (18, 0, 0, 0, [9]), (19, 0, 0, 0, [9]), (2, 0, 0, 0, []), (2, 1, 0, 0, []), (18, 0, 1, 0, [15]), (19, 0, 1, 0, [15]), (2, 0, 0, 0, []), (2, 1, 0, 0, []), (18, 0, 2, 0, [18]), (19, 0, 2, 0, [18]), (2, 0, 0, 0, []), (2, 1, 0, 0, []), (18, 0, 3, 0, [21]), (19, 0, 3, 0, [21]), (2, 0, 0, 0, []), (2, 1, 0, 0, []), (18, 0, 4, 0, [24]), (19, 0, 4, 0, [24]), (2, 1, 0, 0, []), (18, 0, 5, 0, [27]), (2, 0, 0, 0, []), (18, 0, 5, 0, [27]), (40, 84, 2, 0, [52]), (2, 1, 0, 0, []), (18, 0, 6, 0, [31]), (2, 0, 0, 0, []), (18, 0, 6, 0, [31]), (40, 84, 2, 0, [52]), (2, 1, 0, 0, []), (18, 0, 7, 0, [34]), (2, 0, 0, 0, []), (18, 0, 7, 0, [34]), (40, 84, 2, 0, [52]), (2, 1, 0, 0, []), (18, 0, 8, 0, [37]), (2, 0, 0, 0, []), (18, 0, 8, 0, [37]), (40, 84, 2, 0, [52]), (2, 1, 0, 0, []), (18, 0, 9, 0, [40]), (2, 0, 0, 0, []), (18, 0, 9, 0, [40]), (40, 84, 2, 0, [52]), (2, 1, 0, 0, []), (18, 0, 10, 0, [43]), (2, 0, 0, 0, []), (18, 0, 10, 0, [43]), (40, 84, 2, 0, [52]), (2, 1, 0, 0, []), (18, 0, 11, 0, [46]), (2, 0, 0, 0, []), (18, 0, 11, 0, [46]), (40, 84, 2, 0, [52]), (2, 1, 0, 0, []), (18, 0, 12, 0, [49]), (2, 0, 0, 0, []), (18, 0, 12, 0, [49]), (40, 84, 2, 0, [52]), (50, 0, 0, 0, [])]
/-- InterlockBoard$Inputs.add(III)I -/
def p_c_X0_add : List pI := [(2, 0, 0, 0, []), (18, 0, 0, 0, [9]), (3, 4, 1, 0, []), (2, 0, 0, 0, []), (18, 0, 5, 0, [27]), (1, 4, 1, 0, []), (1, 1, 0, 0, []), (15, 0, 10, 0, []), (2, 0, 0, 0, []), (18, 0, 6, 0, [31]), (1, 4, 1, 0, []), (1, 2, 0, 0, []), (15, 0, 10, 0, []), (2, 0, 0, 0, []), (18, 0, 7, 0, [34]), (1, 4, 1, 0, []), (1, 3, 0, 0, []), (15, 0, 10, 0, []), (2, 0, 0, 0, []), (18, 0, 8, 0, [37]), (1, 4, 1, 0, []), (2, 0, 0, 0, []), (18, 0, 1, 0, [15]), (15, 0, 10, 0, []), (2, 0, 0, 0, []), (10, 0, 0, 0, []), (18, 0, 0, 0, [9]), (0, 0, 0, 1, []), (6, 0, 0, 0, []), (19, 0, 0, 0, [9]), (1, 4, 1, 0, []), (51, 0, 0, 0, [])]
/-- InterlockBoard$Inputs.all()I -/
def p_c_X0_all : List pI := [(0, 0, 0, 1, []), (2, 0, 0, 0, []), (18, 0, 0, 0, [9]), (6, 6, 0, 0, []), (0, 0, 0, 1, []), (6, 1, 0, 0, []), (51, 0, 0, 0, [])]
/-- InterlockBoard$Inputs.isLock(I)Z -/
def p_c_X0_isLock : List pI := [(2, 0, 0, 0, []), (18, 0, 5, 0, [27]), (1, 1, 0, 0, []), (13, 0, 10, 0, []), (0, 0, 0, (-1), []), (31, 0, 8, 0, []), (0, 0, 0, 1, []), (30, 0, 9, 0, []), (0, 0, 0, 0, []), (52, 0, 0, 0, [])]
/-- InterlockBoard$Inputs.overdueOnes()I -/
def p_c_X0_overdueOnes : List pI := [(0, 0, 0, 0, []), (3, 1, 0, 0, []), (0, 0, 0, 0, []), (3, 2, 0, 0, []), (1, 2, 0, 0, []), (2, 0, 0, 0, []), (18, 0, 0, 0, [9]), (31, 3, 36, 0, []), (2, 0, 0, 0, []), (18, 0, 7, 0, [34]), (1, 2, 0, 0, []), (13, 0, 10, 0, []), (32, 5, 27, 0, []), (2, 0, 0, 0, []), (18, 0, 1, 0, [15]), (2, 0, 0, 0, []), (18, 0, 8, 0, [37]), (1, 2, 0, 0, []), (13, 0, 10, 0, []), (6, 1, 0, 0, []), (2, 0, 0, 0, []), (18, 0, 7, 0, [34]), (1, 2, 0, 0, []), (13, 0, 10, 0, []), (31, 5, 27, 0, []), (0, 0, 0, 1, []), (30, 0, 28, 0, []), (0, 0, 0, 0, []), (3, 3, 0, 0, []), (1, 1, 0, 0, []), (1, 2, 0, 0, []), (1, 3, 0, 0, []), (40, 81, 3, 0, [56]), (3, 1, 0, 0, []), (5, 2, 0, 1, []), (30, 0, 4, 0, []), (1, 1, 0, 0, []), (51, 0, 0, 0, [])]
/-- InterlockBoard$Inputs.bridgedOnes()I -/
def p_c_X0_bridgedOnes : List pI := [(0, 0, 0, 0, []), (3, 1, 0, 0, []), (0, 0, 0, 0, []), (3, 2, 0, 0, []), (1, 2, 0, 0, []), (2, 0, 0, 0, []), (18, 0, 0, 0, [9]), (31, 3, 22, 0, []), (1, 1, 0, 0, []), (1, 2, 0, 0, []), (2, 0, 0, 0, []), (18, 0, 9, 0, [40]), (1, 2, 0, 0, []), (13, 0, 10, 0, []), (32, 5, 17, 0, []), (0, 0, 0, 1, []), (30, 0, 18, 0, []), (0, 0, 0, 0, []), (40, 81, 3, 0, [56]), (3, 1, 0, 0, []), (5, 2, 0, 1, []), (30, 0, 4, 0, []), (1, 1, 0, 0, []), (51, 0, 0, 0, [])]
/-- InterlockBoard$Inputs.countingAsClosed()I -/
def p_c_X0_countingAsClosed : List pI := [(2, 0, 0, 0, []), (41, 6, 1, 0, [60]), (2, 0, 0, 0, []), (18, 0, 3, 0, [21]), (2, 0, 0, 0, []), (41, 5, 1, 0, [64]), (0, 0, 0, (-1), []), (6, 5, 0, 0, []), (6, 3, 0, 0, []), (6, 4, 0, 0, []), (51, 0, 0, 0, [])]
/-- InterlockBoard$Inputs.endsFirst(I)I -/
def p_c_X0_endsFirst : List pI := [(0, 0, 0, (-1), []), (3, 2, 0, 0, []), (0, 0, 0, 0, []), (3, 3, 0, 0, []), (1, 3, 0, 0, []), (2, 0, 0, 0, []), (18, 0, 0, 0, [9]), (31, 3, 28, 0, []), (1, 1, 0, 0, []), (1, 3, 0, 0, []), (40, 79, 2, 0, [67]), (32, 0, 26, 0, []), (1, 2, 0, 0, []), (0, 0, 0, (-1), []), (31, 0, 24, 0, []), (2, 0, 0, 0, []), (18, 0, 9, 0, [40]), (1, 3, 0, 0, []), (13, 0, 10, 0, []), (2, 0, 0, 0, []), (18, 0, 9, 0, [40]), (1, 2, 0, 0, []), (13, 0, 10, 0, []), (31, 3, 26, 0, []), (1, 3, 0, 0, []), (3, 2, 0, 0, []), (5, 3, 0, 1, []), (30, 0, 4, 0, []), (1, 2, 0, 0, []), (51, 0, 0, 0, [])]
/-- InterlockBoard$Inputs.placeOfKey(I)I -/
def p_c_X0_placeOfKey : List pI := [(0, 0, 0, 0, []), (3, 2, 0, 0, []), (1, 2, 0, 0, []), (2, 0, 0, 0, []), (18, 0, 0, 0, [9]), (31, 3, 21, 0, []), (2, 0, 0, 0, []), (18, 0, 5, 0, [27]), (1, 2, 0, 0, []), (13, 0, 10, 0, []), (1, 1, 0, 0, []), (31, 1, 19, 0, []), (2, 0, 0, 0, []), (18, 0, 3, 0, [21]), (1, 2, 0, 0, []), (40, 79, 2, 0, [67]), (32, 0, 19, 0, []), (1, 2, 0, 0, []), (51, 0, 0, 0, []), (5, 2, 0, 1, []), (30, 0, 2, 0, []), (0, 0, 0, (-1), []), (51, 0, 0, 0, [])]
/-- InterlockBoard$Inputs.keysInLocks()I -/
def p_c_X0_keysInLocks : List pI := [(0, 0, 0, 0, []), (3, 1, 0, 0, []), (0, 0, 0, 0, []), (3, 2, 0, 0, []), (1, 2, 0, 0, []), (2, 0, 0, 0, []), (18, 0, 0, 0, [9]), (31, 3, 20, 0, []), (2, 0, 0, 0, []), (1, 2, 0, 0, []), (41, 4, 2, 0, [71]), (32, 0, 18, 0, []), (2, 0, 0, 0, []), (18, 0, 3, 0, [21]), (1, 2, 0, 0, []), (40, 79, 2, 0, [67]), (32, 0, 18, 0, []), (5, 1, 0, 1, []), (5, 2, 0, 1, []), (30, 0, 4, 0, []), (1, 1, 0, 0, []), (51, 0, 0, 0, [])]
/-- InterlockBoard$Inputs.guardAllows(I)Z -/
def p_c_X0_guardAllows : List pI := [(2, 0, 0, 0, []), (18, 0, 6, 0, [31]), (1, 1, 0, 0, []), (13, 0, 10, 0, []), (0, 0, 0, (-1), []), (31, 0, 14, 0, []), (2, 0, 0, 0, []), (41, 7, 1, 0, [75]), (2, 0, 0, 0, []), (18, 0, 6, 0, [31]), (1, 1, 0, 0, []), (13, 0, 10, 0, []), (40, 79, 2, 0, [67]), (32, 0, 16, 0, []), (0, 0, 0, 1, []), (30, 0, 17, 0, []), (0, 0, 0, 0, []), (52, 0, 0, 0, [])]
/-- InterlockBoard$Inputs.canBeTested(I)Z -/
def p_c_X0_canBeTested : List pI := [(2, 0, 0, 0, []), (1, 1, 0, 0, []), (41, 4, 2, 0, [71]), (32, 1, 16, 0, []), (2, 0, 0, 0, []), (18, 0, 3, 0, [21]), (1, 1, 0, 0, []), (40, 79, 2, 0, [67]), (32, 0, 16, 0, []), (2, 0, 0, 0, []), (18, 0, 11, 0, [46]), (1, 1, 0, 0, []), (13, 0, 10, 0, []), (32, 1, 16, 0, []), (0, 0, 0, 1, []), (30, 0, 17, 0, []), (0, 0, 0, 0, []), (52, 0, 0, 0, [])]
/-- InterlockBoard$Inputs.beginTest(I)I -/
def p_c_X0_beginTest : List pI := [(2, 0, 0, 0, []), (18, 0, 11, 0, [46]), (1, 1, 0, 0, []), (0, 0, 0, 1, []), (15, 0, 10, 0, []), (2, 0, 0, 0, []), (18, 0, 12, 0, [49]), (1, 1, 0, 0, []), (2, 0, 0, 0, []), (18, 0, 1, 0, [15]), (0, 1, 0, 20, []), (6, 0, 0, 0, []), (15, 0, 10, 0, []), (2, 0, 0, 0, []), (18, 0, 12, 0, [49]), (1, 1, 0, 0, []), (13, 0, 10, 0, []), (51, 0, 0, 0, [])]
/-- InterlockBoard$Inputs.openSensor(I)V -/
def p_c_X0_openSensor : List pI := [(2, 0, 0, 0, []), (2, 0, 0, 0, []), (18, 0, 3, 0, [21]), (1, 1, 0, 0, []), (0, 0, 0, 0, []), (40, 81, 3, 0, [56]), (19, 0, 3, 0, [21]), (2, 0, 0, 0, []), (18, 0, 11, 0, [46]), (1, 1, 0, 0, []), (13, 0, 10, 0, []), (0, 0, 0, 1, []), (31, 1, 18, 0, []), (2, 0, 0, 0, []), (18, 0, 11, 0, [46]), (1, 1, 0, 0, []), (0, 0, 0, 2, []), (15, 0, 10, 0, []), (50, 0, 0, 0, [])]
/-- InterlockBoard$Inputs.closeSensor(I)V -/
def p_c_X0_closeSensor : List pI := [(2, 0, 0, 0, []), (2, 0, 0, 0, []), (18, 0, 3, 0, [21]), (1, 1, 0, 0, []), (0, 0, 0, 1, []), (40, 81, 3, 0, [56]), (19, 0, 3, 0, [21]), (2, 0, 0, 0, []), (18, 0, 11, 0, [46]), (1, 1, 0, 0, []), (13, 0, 10, 0, []), (0, 0, 0, 2, []), (31, 1, 30, 0, []), (2, 0, 0, 0, []), (18, 0, 11, 0, [46]), (1, 1, 0, 0, []), (0, 0, 0, 0, []), (15, 0, 10, 0, []), (2, 0, 0, 0, []), (18, 0, 8, 0, [37]), (1, 1, 0, 0, []), (2, 0, 0, 0, []), (18, 0, 1, 0, [15]), (15, 0, 10, 0, []), (2, 0, 0, 0, []), (10, 0, 0, 0, []), (18, 0, 2, 0, [18]), (0, 0, 0, 1, []), (6, 0, 0, 0, []), (19, 0, 2, 0, [18]), (50, 0, 0, 0, [])]
/-- InterlockBoard$Inputs.tick()V -/
def p_c_X0_tick : List pI := [(2, 0, 0, 0, []), (10, 0, 0, 0, []), (18, 0, 1, 0, [15]), (0, 0, 0, 1, []), (6, 0, 0, 0, []), (19, 0, 1, 0, [15]), (0, 0, 0, 0, []), (3, 1, 0, 0, []), (1, 1, 0, 0, []), (2, 0, 0, 0, []), (18, 0, 0, 0, [9]), (31, 3, 47, 0, []), (2, 0, 0, 0, []), (18, 0, 9, 0, [40]), (1, 1, 0, 0, []), (13, 0, 10, 0, []), (32, 5, 33, 0, []), (2, 0, 0, 0, []), (18, 0, 9, 0, [40]), (1, 1, 0, 0, []), (11, 0, 0, 0, []), (13, 0, 10, 0, []), (0, 0, 0, 1, []), (6, 1, 0, 0, []), (15, 0, 10, 0, []), (2, 0, 0, 0, []), (18, 0, 10, 0, [43]), (1, 1, 0, 0, []), (11, 0, 0, 0, []), (13, 0, 10, 0, []), (0, 0, 0, 1, []), (6, 0, 0, 0, []), (15, 0, 10, 0, []), (2, 0, 0, 0, []), (18, 0, 1, 0, [15]), (2, 0, 0, 0, []), (18, 0, 12, 0, [49]), (1, 1, 0, 0, []), (13, 0, 10, 0, []), (31, 5, 45, 0, []), (2, 0, 0, 0, []), (18, 0, 11, 0, [46]), (1, 1, 0, 0, []), (0, 0, 0, 0, []), (15, 0, 10, 0, []), (5, 1, 0, 1, []), (30, 0, 8, 0, []), (50, 0, 0, 0, [])]
/-- InterlockBoard$Motions.<init>()V -/
def p_c_X1_init : List pI := [(2, 0, 0, 0, []), (24, 0, 0, 0, [3]), (2, 0, 0, 0, []), (0, 0, 0, 0, []), (19, 1, 0, 0, [9]), (2, 0, 0, 0, []), (0, 1, 0, 24, []), (22, 10, 0, 0, []), (20, 1, 1, 0, [15]), (2, 0, 0, 0, []), (0, 1, 0, 6, []), (22, 10, 0, 0, []), (20, 1, 2, 0, [19]), (2, 0, 0, 0, []), (0, 1, 0, 6, []), (22, 10, 0, 0, []), (20, 1, 3, 0, [22]), (2, 0, 0, 0, []), (0, 1, 0, 6, []), (22, 10, 0, 0, []), (20, 1, 4, 0, [25]), (2, 0, 0, 0, []), (0, 1, 0, 6, []), (22, 10, 0, 0, []), (20, 1, 5, 0, [28]), (2, 0, 0, 0, []), (0, 1, 0, 6, []), (22, 10, 0, 0, []), (20, 1, 6, 0, [31]), (2, 0, 0, 0, []), (0, 1, 0, 6, []), (22, 10, 0, 0, []), (20, 1, 7, 0, [34]), (2, 0, 0, 0, []), (0, 1, 0, 6, []), (22, 10, 0, 0, []), (20, 1, 8, 0, [37]), (2, 0, 0, 0, []), (0, 1, 0, 6, []), (22, 10, 0, 0, []), (20, 1, 9, 0, [40]), (0, 0, 0, 0, []), (3, 1, 0, 0, []), (1, 1, 0, 0, []), (0, 1, 0, 6, []), (31, 3, 58, 0, []), (2, 0, 0, 0, []), (18, 1, 4, 0, [25]), (1, 1, 0, 0, []), (0, 0, 0, (-1), []), (15, 0, 10, 0, []), (2, 0, 0, 0, []), (18, 1, 5, 0, [28]), (1, 1, 0, 0, []), (0, 0, 0, (-1), []), (15, 0, 10, 0, []), (5, 1, 0, 1, []), (30, 0, 43, 0, []), (50, 0, 0, 0, [])]
/-- InterlockBoard$Motions.copyFrom(LInterlockBoard$Motions;)V -/
def p_c_X1_copyFrom : List pI := [(2, 0, 0, 0, []), (2, 1, 0, 0, []), (18, 1, 0, 0, [9]), (19, 1, 0, 0, [9]), (2, 1, 0, 0, []), (18, 1, 1, 0, [15]), (2, 0, 0, 0, []), (18, 1, 1, 0, [15]), (40, 84, 2, 0, [43]), (2, 1, 0, 0, []), (18, 1, 2, 0, [19]), (2, 0, 0, 0, []), (18, 1, 2, 0, [19]), (40, 84, 2, 0, [43]), (2, 1, 0, 0, []), (18, 1, 3, 0, [22]), (2, 0, 0, 0, []), (18, 1, 3, 0, [22]), (40, 84, 2, 0, [43]), (2, 1, 0, 0, []), (18, 1, 4, 0, [25]), (2, 0, 0, 0, []), (18, 1, 4, 0, [25]), (40, 84, 2, 0, [43]), (2, 1, 0, 0, []), (18, 1, 5, 0, [28]), (2, 0, 0, 0, []), (18, 1, 5, 0, [28]), (40, 84, 2, 0, [43]), (2, 1, 0, 0, []), (18, 1, 6, 0, [31]), (2, 0, 0, 0, []), (18, 1, 6, 0, [31]), (40, 84, 2, 0, [43]), (2, 1, 0, 0, []), (18, 1, 7, 0, [34]), (2, 0, 0, 0, []), (18, 1, 7, 0, [34]), (40, 84, 2, 0, [43]), (2, 1, 0, 0, []), (18, 1, 8, 0, [37]), (2, 0, 0, 0, []), (18, 1, 8, 0, [37]), (40, 84, 2, 0, [43]), (2, 1, 0, 0, []), (18, 1, 9, 0, [40]), (2, 0, 0, 0, []), (18, 1, 9, 0, [40]), (40, 84, 2, 0, [43]), (50, 0, 0, 0, [])]
/-- InterlockBoard$Motions.rowAt(II)I -/
def p_c_X1_rowAt : List pI := [(2, 0, 0, 0, []), (18, 1, 1, 0, [15]), (1, 1, 0, 0, []), (0, 0, 0, 4, []), (6, 2, 0, 0, []), (1, 2, 0, 0, []), (6, 0, 0, 0, []), (13, 0, 10, 0, []), (51, 0, 0, 0, [])]
/-- InterlockBoard$Motions.addRow(II)I -/
def p_c_X1_addRow : List pI := [(2, 0, 0, 0, []), (18, 1, 1, 0, [15]), (1, 1, 0, 0, []), (0, 0, 0, 4, []), (6, 2, 0, 0, []), (2, 0, 0, 0, []), (18, 1, 2, 0, [19]), (1, 1, 0, 0, []), (13, 0, 10, 0, []), (6, 0, 0, 0, []), (1, 2, 0, 0, []), (15, 0, 10, 0, []), (2, 0, 0, 0, []), (18, 1, 2, 0, [19]), (1, 1, 0, 0, []), (11, 0, 0, 0, []), (13, 0, 10, 0, []), (0, 0, 0, 1, []), (6, 0, 0, 0, []), (15, 0, 10, 0, []), (2, 0, 0, 0, []), (18, 1, 2, 0, [19]), (1, 1, 0, 0, []), (13, 0, 10, 0, []), (51, 0, 0, 0, [])]
/-- InterlockBoard$Motions.inputsOf(I)I -/
def p_c_X1_inputsOf : List pI := [(2, 0, 0, 0, []), (1, 1, 0, 0, []), (0, 0, 0, 1, []), (2, 0, 0, 0, []), (18, 1, 2, 0, [19]), (1, 1, 0, 0, []), (13, 0, 10, 0, []), (6, 6, 0, 0, []), (0, 0, 0, 1, []), (6, 1, 0, 0, []), (41, 22, 3, 0, [47]), (51, 0, 0, 0, [])]
/-- InterlockBoard$Motions.inputsOfRows(II)I -/
def p_c_X1_inputsOfRows : List pI := [(0, 0, 0, 0, []), (3, 3, 0, 0, []), (0, 0, 0, 0, []), (3, 4, 1, 0, []), (1, 4, 1, 0, []), (2, 0, 0, 0, []), (18, 1, 2, 0, [19]), (1, 1, 0, 0, []), (13, 0, 10, 0, []), (31, 3, 23, 0, []), (1, 2, 0, 0, []), (1, 4, 1, 0, []), (40, 79, 2, 0, [51]), (32, 0, 21, 0, []), (1, 3, 0, 0, []), (2, 0, 0, 0, []), (1, 1, 0, 0, []), (1, 4, 1, 0, []), (41, 19, 3, 0, [55]), (6, 4, 0, 0, []), (3, 3, 0, 0, []), (5, 4, 0, 1, []), (30, 0, 4, 0, []), (1, 3, 0, 0, []), (51, 0, 0, 0, [])]
/-- InterlockBoard$Motions.isPermitted(II)Z -/
def p_c_X1_isPermitted : List pI := [(0, 0, 0, 0, []), (3, 3, 0, 0, []), (1, 3, 0, 0, []), (2, 0, 0, 0, []), (18, 1, 2, 0, [19]), (1, 1, 0, 0, []), (13, 0, 10, 0, []), (31, 3, 21, 0, []), (2, 0, 0, 0, []), (1, 1, 0, 0, []), (1, 3, 0, 0, []), (41, 19, 3, 0, [55]), (1, 2, 0, 0, []), (0, 0, 0, (-1), []), (6, 5, 0, 0, []), (6, 3, 0, 0, []), (32, 1, 19, 0, []), (0, 0, 0, 1, []), (52, 0, 0, 0, []), (5, 3, 0, 1, []), (30, 0, 2, 0, []), (0, 0, 0, 0, []), (52, 0, 0, 0, [])]
/-- InterlockBoard$Motions.permittedOnes(I)I -/
def p_c_X1_permittedOnes : List pI := [(0, 0, 0, 0, []), (3, 2, 0, 0, []), (0, 0, 0, 0, []), (3, 3, 0, 0, []), (1, 3, 0, 0, []), (0, 1, 0, 6, []), (31, 3, 15, 0, []), (2, 0, 0, 0, []), (1, 3, 0, 0, []), (1, 1, 0, 0, []), (41, 23, 3, 0, [58]), (32, 0, 13, 0, []), (5, 2, 0, 1, []), (5, 3, 0, 1, []), (30, 0, 4, 0, []), (1, 2, 0, 0, []), (51, 0, 0, 0, [])]
/-- InterlockBoard$Motions.withFirstOut()I -/
def p_c_X1_withFirstOut : List pI := [(0, 0, 0, 0, []), (3, 1, 0, 0, []), (0, 0, 0, 0, []), (3, 2, 0, 0, []), (1, 2, 0, 0, []), (0, 1, 0, 6, []), (31, 3, 16, 0, []), (2, 0, 0, 0, []), (18, 1, 4, 0, [25]), (1, 2, 0, 0, []), (13, 0, 10, 0, []), (0, 0, 0, (-1), []), (31, 0, 14, 0, []), (5, 1, 0, 1, []), (5, 2, 0, 1, []), (30, 0, 4, 0, []), (1, 1, 0, 0, []), (51, 0, 0, 0, [])]
/-- InterlockBoard$Motions.fewestOpen(II)I -/
def p_c_X1_fewestOpen : List pI := [(2, 0, 0, 0, []), (1, 1, 0, 0, []), (0, 0, 0, 0, []), (41, 19, 3, 0, [55]), (1, 2, 0, 0, []), (0, 0, 0, (-1), []), (6, 5, 0, 0, []), (6, 3, 0, 0, []), (3, 3, 0, 0, []), (0, 0, 0, 1, []), (3, 4, 1, 0, []), (1, 4, 1, 0, []), (2, 0, 0, 0, []), (18, 1, 2, 0, [19]), (1, 1, 0, 0, []), (13, 0, 10, 0, []), (31, 3, 35, 0, []), (2, 0, 0, 0, []), (1, 1, 0, 0, []), (1, 4, 1, 0, []), (41, 19, 3, 0, [55]), (1, 2, 0, 0, []), (0, 0, 0, (-1), []), (6, 5, 0, 0, []), (6, 3, 0, 0, []), (3, 5, 1, 0, []), (1, 5, 1, 0, []), (40, 94, 1, 0, [61]), (1, 3, 0, 0, []), (40, 94, 1, 0, [61]), (31, 3, 33, 0, []), (1, 5, 1, 0, []), (3, 3, 0, 0, []), (5, 4, 0, 1, []), (30, 0, 11, 0, []), (1, 3, 0, 0, []), (51, 0, 0, 0, [])]
/-- InterlockBoard$Motions.begin(I)V -/
def p_c_X1_begin : List pI := [(2, 0, 0, 0, []), (2, 0, 0, 0, []), (18, 1, 0, 0, [9]), (1, 1, 0, 0, []), (0, 0, 0, 1, []), (40, 81, 3, 0, [67]), (19, 1, 0, 0, [9]), (2, 0, 0, 0, []), (18, 1, 7, 0, [34]), (1, 1, 0, 0, []), (11, 0, 0, 0, []), (13, 0, 10, 0, []), (0, 0, 0, 1, []), (6, 0, 0, 0, []), (15, 0, 10, 0, []), (2, 0, 0, 0, []), (18, 1, 8, 0, [37]), (1, 1, 0, 0, []), (0, 0, 0, 0, []), (15, 0, 10, 0, []), (50, 0, 0, 0, [])]
/-- InterlockBoard$Motions.stopUnpermitted(III)I -/
def p_c_X1_stopUnpermitted : List pI := [(0, 0, 0, 0, []), (3, 4, 1, 0, []), (0, 0, 0, 0, []), (3, 5, 1, 0, []), (1, 5, 1, 0, []), (0, 1, 0, 6, []), (31, 3, 53, 0, []), (2, 0, 0, 0, []), (18, 1, 0, 0, [9]), (1, 5, 1, 0, []), (40, 79, 2, 0, [51]), (32, 0, 51, 0, []), (2, 0, 0, 0, []), (1, 5, 1, 0, []), (1, 2, 0, 0, []), (41, 23, 3, 0, [58]), (32, 1, 51, 0, []), (2, 0, 0, 0, []), (2, 0, 0, 0, []), (18, 1, 0, 0, [9]), (1, 5, 1, 0, []), (0, 0, 0, 0, []), (40, 81, 3, 0, [67]), (19, 1, 0, 0, [9]), (2, 0, 0, 0, []), (18, 1, 4, 0, [25]), (1, 5, 1, 0, []), (2, 0, 0, 0, []), (1, 5, 1, 0, []), (41, 21, 2, 0, [71]), (1, 2, 0, 0, []), (0, 0, 0, (-1), []), (6, 5, 0, 0, []), (6, 3, 0, 0, []), (1, 1, 0, 0, []), (40, 29, 2, 0, [74]), (15, 0, 10, 0, []), (2, 0, 0, 0, []), (18, 1, 5, 0, [28]), (1, 5, 1, 0, []), (1, 3, 0, 0, []), (15, 0, 10, 0, []), (2, 0, 0, 0, []), (18, 1, 6, 0, [31]), (1, 5, 1, 0, []), (11, 0, 0, 0, []), (13, 0, 10, 0, []), (0, 0, 0, 1, []), (6, 0, 0, 0, []), (15, 0, 10, 0, []), (5, 4, 0, 1, []), (5, 5, 0, 1, []), (30, 0, 4, 0, []), (1, 4, 1, 0, []), (51, 0, 0, 0, [])]
/-- InterlockBoard$Motions.leastOpened(II)I -/
def p_c_X1_leastOpened : List pI := [(1, 0, 0, 0, []), (1, 1, 0, 0, []), (6, 3, 0, 0, []), (3, 2, 0, 0, []), (1, 2, 0, 0, []), (32, 0, 8, 0, []), (1, 2, 0, 0, []), (30, 0, 9, 0, []), (1, 0, 0, 0, []), (40, 82, 1, 0, [77]), (51, 0, 0, 0, [])]
/-- InterlockBoard$Motions.countTick()V -/
def p_c_X1_countTick : List pI := [(0, 0, 0, 0, []), (3, 1, 0, 0, []), (1, 1, 0, 0, []), (0, 1, 0, 6, []), (31, 3, 28, 0, []), (2, 0, 0, 0, []), (18, 1, 0, 0, [9]), (1, 1, 0, 0, []), (40, 79, 2, 0, [51]), (32, 0, 26, 0, []), (2, 0, 0, 0, []), (18, 1, 8, 0, [37]), (1, 1, 0, 0, []), (11, 0, 0, 0, []), (13, 0, 10, 0, []), (0, 0, 0, 1, []), (6, 0, 0, 0, []), (15, 0, 10, 0, []), (2, 0, 0, 0, []), (18, 1, 9, 0, [40]), (1, 1, 0, 0, []), (11, 0, 0, 0, []), (13, 0, 10, 0, []), (0, 0, 0, 1, []), (6, 0, 0, 0, []), (15, 0, 10, 0, []), (5, 1, 0, 1, []), (30, 0, 2, 0, []), (50, 0, 0, 0, [])]
/-- InterlockBoard$State.<init>()V -/
def p_c_X2_init : List pI := [(2, 0, 0, 0, []), (24, 0, 0, 0, [1]), (2, 0, 0, 0, []), (21, 0, 0, 0, [7]), (10, 0, 0, 0, []), (42, 0, 1, 0, [9]), (20, 2, 0, 0, [10]), (2, 0, 0, 0, []), (21, 1, 0, 0, [16]), (10, 0, 0, 0, []), (42, 17, 1, 0, [18]), (20, 2, 1, 0, [19]), (50, 0, 0, 0, [])]
/-- InterlockBoard$State.copyFrom(LInterlockBoard$State;)V -/
def p_c_X2_copyFrom : List pI := [(2, 0, 0, 0, []), (18, 2, 0, 0, [10]), (2, 1, 0, 0, []), (18, 2, 0, 0, [10]), (41, 1, 2, 0, [23]), (2, 0, 0, 0, []), (18, 2, 1, 0, [19]), (2, 1, 0, 0, []), (18, 2, 1, 0, [19]), (41, 18, 2, 0, [27]), (50, 0, 0, 0, [])]
/-- InterlockBoard$Text.<init>()V -/
def p_c_X3_init : List pI := [(2, 0, 0, 0, []), (24, 0, 0, 0, [3]), (2, 0, 0, 0, []), (0, 1, 0, 80, []), (22, 11, 0, 0, []), (20, 3, 0, 0, [9]), (2, 0, 0, 0, []), (0, 0, 0, 0, []), (19, 3, 1, 0, [15]), (50, 0, 0, 0, [])]
/-- InterlockBoard$Text.endOfRow(I)I -/
def p_c_X3_endOfRow : List pI := [(1, 1, 0, 0, []), (3, 2, 0, 0, []), (1, 2, 0, 0, []), (2, 0, 0, 0, []), (18, 3, 1, 0, [15]), (31, 3, 16, 0, []), (2, 0, 0, 0, []), (18, 3, 0, 0, [9]), (1, 2, 0, 0, []), (13, 0, 11, 0, []), (0, 1, 0, 59, []), (31, 1, 14, 0, []), (1, 2, 0, 0, []), (51, 0, 0, 0, []), (5, 2, 0, 1, []), (30, 0, 2, 0, []), (2, 0, 0, 0, []), (18, 3, 1, 0, [15]), (51, 0, 0, 0, [])]
/-- InterlockBoard$Text.isRow(II)Z -/
def p_c_X3_isRow : List pI := [(1, 2, 0, 0, []), (2, 0, 0, 0, []), (18, 3, 1, 0, [15]), (31, 3, 25, 0, []), (1, 2, 0, 0, []), (1, 1, 0, 0, []), (6, 1, 0, 0, []), (0, 0, 0, 3, []), (31, 2, 25, 0, []), (2, 0, 0, 0, []), (18, 3, 0, 0, [9]), (1, 1, 0, 0, []), (13, 0, 11, 0, []), (0, 1, 0, 48, []), (6, 1, 0, 0, []), (40, 76, 1, 0, [19]), (32, 0, 25, 0, []), (2, 0, 0, 0, []), (18, 3, 0, 0, [9]), (1, 1, 0, 0, []), (0, 0, 0, 1, []), (6, 0, 0, 0, []), (13, 0, 11, 0, []), (0, 1, 0, 58, []), (31, 0, 27, 0, []), (0, 0, 0, 0, []), (52, 0, 0, 0, []), (0, 0, 0, 0, []), (3, 3, 0, 0, []), (1, 1, 0, 0, []), (0, 0, 0, 2, []), (6, 0, 0, 0, []), (3, 4, 1, 0, []), (1, 4, 1, 0, []), (1, 2, 0, 0, []), (31, 3, 62, 0, []), (2, 0, 0, 0, []), (18, 3, 0, 0, [9]), (1, 4, 1, 0, []), (13, 0, 11, 0, []), (40, 36, 1, 0, [23]), (32, 0, 47, 0, []), (1, 3, 0, 0, []), (0, 0, 0, 2, []), (31, 3, 47, 0, []), (5, 3, 0, 1, []), (30, 0, 60, 0, []), (2, 0, 0, 0, []), (18, 3, 0, 0, [9]), (1, 4, 1, 0, []), (13, 0, 11, 0, []), (0, 1, 0, 46, []), (31, 1, 58, 0, []), (1, 3, 0, 0, []), (32, 5, 58, 0, []), (0, 0, 0, 0, []), (3, 3, 0, 0, []), (30, 0, 60, 0, []), (0, 0, 0, 0, []), (52, 0, 0, 0, []), (5, 4, 0, 1, []), (30, 0, 33, 0, []), (1, 3, 0, 0, []), (32, 5, 66, 0, []), (0, 0, 0, 1, []), (30, 0, 67, 0, []), (0, 0, 0, 0, []), (52, 0, 0, 0, [])]
/-- InterlockBoard$Text.isDigit(C)Z -/
def p_c_X3_isDigit : List pI := [(1, 0, 0, 0, []), (0, 1, 0, 48, []), (31, 2, 8, 0, []), (1, 0, 0, 0, []), (0, 1, 0, 57, []), (31, 4, 8, 0, []), (0, 0, 0, 1, []), (30, 0, 9, 0, []), (0, 0, 0, 0, []), (52, 0, 0, 0, [])]
/-- InterlockBoard$Text.motionOfRow(I)I -/
def p_c_X3_motionOfRow : List pI := [(2, 0, 0, 0, []), (18, 3, 0, 0, [9]), (1, 1, 0, 0, []), (13, 0, 11, 0, []), (0, 1, 0, 48, []), (6, 1, 0, 0, []), (51, 0, 0, 0, [])]
/-- InterlockBoard$Text.highestInputOfRow(II)I -/
def p_c_X3_highestInputOfRow : List pI := [(0, 0, 0, 0, []), (3, 3, 0, 0, []), (0, 0, 0, 0, []), (3, 4, 1, 0, []), (1, 1, 0, 0, []), (0, 0, 0, 2, []), (6, 0, 0, 0, []), (3, 5, 1, 0, []), (1, 5, 1, 0, []), (1, 2, 0, 0, []), (31, 3, 36, 0, []), (2, 0, 0, 0, []), (18, 3, 0, 0, [9]), (1, 5, 1, 0, []), (13, 0, 11, 0, []), (0, 1, 0, 46, []), (31, 1, 19, 0, []), (0, 0, 0, 0, []), (30, 0, 29, 0, []), (1, 4, 1, 0, []), (0, 1, 0, 10, []), (6, 2, 0, 0, []), (2, 0, 0, 0, []), (18, 3, 0, 0, [9]), (1, 5, 1, 0, []), (13, 0, 11, 0, []), (6, 0, 0, 0, []), (0, 1, 0, 48, []), (6, 1, 0, 0, []), (3, 4, 1, 0, []), (1, 3, 0, 0, []), (1, 4, 1, 0, []), (26, 0, 0, 0, [27]), (3, 3, 0, 0, []), (5, 5, 0, 1, []), (30, 0, 8, 0, []), (1, 3, 0, 0, []), (51, 0, 0, 0, [])]
/-- InterlockBoard$Text.inputsOfRow(II)I -/
def p_c_X3_inputsOfRow : List pI := [(0, 0, 0, 0, []), (3, 3, 0, 0, []), (0, 0, 0, 0, []), (3, 4, 1, 0, []), (1, 1, 0, 0, []), (0, 0, 0, 2, []), (6, 0, 0, 0, []), (3, 5, 1, 0, []), (1, 5, 1, 0, []), (1, 2, 0, 0, []), (31, 3, 38, 0, []), (2, 0, 0, 0, []), (18, 3, 0, 0, [9]), (1, 5, 1, 0, []), (13, 0, 11, 0, []), (0, 1, 0, 46, []), (31, 1, 25, 0, []), (1, 3, 0, 0, []), (1, 4, 1, 0, []), (0, 0, 0, 1, []), (40, 81, 3, 0, [33]), (3, 3, 0, 0, []), (0, 0, 0, 0, []), (3, 4, 1, 0, []), (30, 0, 36, 0, []), (1, 4, 1, 0, []), (0, 1, 0, 10, []), (6, 2, 0, 0, []), (2, 0, 0, 0, []), (18, 3, 0, 0, [9]), (1, 5, 1, 0, []), (13, 0, 11, 0, []), (6, 0, 0, 0, []), (0, 1, 0, 48, []), (6, 1, 0, 0, []), (3, 4, 1, 0, []), (5, 5, 0, 1, []), (30, 0, 8, 0, []), (1, 3, 0, 0, []), (1, 4, 1, 0, []), (0, 0, 0, 1, []), (40, 81, 3, 0, [33]), (51, 0, 0, 0, [])]
/-- InterlockBoard$Text.rowsOfMotion(II)I -/
def p_c_X3_rowsOfMotion : List pI := [(0, 0, 0, 0, []), (3, 3, 0, 0, []), (0, 0, 0, 1, []), (3, 4, 1, 0, []), (1, 4, 1, 0, []), (1, 2, 0, 0, []), (31, 3, 23, 0, []), (2, 0, 0, 0, []), (18, 3, 0, 0, [9]), (1, 4, 1, 0, []), (13, 0, 11, 0, []), (0, 1, 0, 58, []), (31, 1, 21, 0, []), (2, 0, 0, 0, []), (1, 4, 1, 0, []), (0, 0, 0, 1, []), (6, 1, 0, 0, []), (41, 37, 2, 0, [37]), (1, 1, 0, 0, []), (31, 1, 21, 0, []), (5, 3, 0, 1, []), (5, 4, 0, 1, []), (30, 0, 4, 0, []), (1, 3, 0, 0, []), (51, 0, 0, 0, [])]
/-- InterlockBoard.<init>()V -/
def p_c_X4_init : List pI := [(2, 0, 0, 0, []), (24, 0, 0, 0, [1]), (2, 0, 0, 0, []), (21, 2, 0, 0, [7]), (10, 0, 0, 0, []), (42, 31, 1, 0, [9]), (20, 4, 0, 0, [10]), (2, 0, 0, 0, []), (0, 0, 0, 4, []), (23, 13, 0, 0, [7]), (20, 4, 1, 0, [16]), (0, 0, 0, 0, []), (3, 1, 0, 0, []), (1, 1, 0, 0, []), (0, 0, 0, 4, []), (31, 3, 25, 0, []), (2, 0, 0, 0, []), (18, 4, 1, 0, [16]), (1, 1, 0, 0, []), (21, 2, 0, 0, [7]), (10, 0, 0, 0, []), (42, 31, 1, 0, [9]), (16, 0, 0, 0, []), (5, 1, 0, 1, []), (30, 0, 13, 0, []), (2, 0, 0, 0, []), (0, 0, 0, 0, []), (19, 4, 2, 0, [20]), (2, 0, 0, 0, []), (0, 0, 0, 2, []), (23, 13, 0, 0, [7]), (20, 4, 3, 0, [24]), (0, 0, 0, 0, []), (3, 1, 0, 0, []), (1, 1, 0, 0, []), (0, 0, 0, 2, []), (31, 3, 46, 0, []), (2, 0, 0, 0, []), (18, 4, 3, 0, [24]), (1, 1, 0, 0, []), (21, 2, 0, 0, [7]), (10, 0, 0, 0, []), (42, 31, 1, 0, [9]), (16, 0, 0, 0, []), (5, 1, 0, 1, []), (30, 0, 34, 0, []), (2, 0, 0, 0, []), (0, 0, 0, 0, []), (19, 4, 4, 0, [27]), (2, 0, 0, 0, []), (21, 3, 0, 0, [30]), (10, 0, 0, 0, []), (42, 33, 1, 0, [32]), (20, 4, 5, 0, [33]), (50, 0, 0, 0, [])]
/-- InterlockBoard.sensor(I)I -/
def p_c_X4_sensor : List pI := [(1, 1, 0, 0, []), (32, 2, 5, 0, []), (1, 1, 0, 0, []), (0, 2, 0, 5000, []), (31, 5, 7, 0, []), (0, 0, 0, (-1), []), (51, 0, 0, 0, []), (2, 0, 0, 0, []), (18, 4, 0, 0, [10]), (18, 2, 0, 0, [37]), (18, 0, 0, 0, [41]), (0, 1, 0, 16, []), (31, 2, 15, 0, []), (0, 1, 0, (-3), []), (51, 0, 0, 0, []), (2, 0, 0, 0, []), (41, 89, 1, 0, [46]), (2, 0, 0, 0, []), (18, 4, 0, 0, [10]), (18, 2, 0, 0, [37]), (0, 0, 0, (-1), []), (0, 0, 0, (-1), []), (1, 1, 0, 0, []), (41, 2, 4, 0, [49]), (51, 0, 0, 0, [])]
/-- InterlockBoard.lock(II)I -/
def p_c_X4_lock : List pI := [(1, 1, 0, 0, []), (40, 75, 1, 0, [53]), (32, 0, 10, 0, []), (1, 2, 0, 0, []), (0, 0, 0, (-1), []), (31, 0, 12, 0, []), (2, 0, 0, 0, []), (1, 2, 0, 0, []), (41, 74, 2, 0, [57]), (32, 1, 12, 0, []), (0, 0, 0, (-1), []), (51, 0, 0, 0, []), (2, 0, 0, 0, []), (18, 4, 0, 0, [10]), (18, 2, 0, 0, [37]), (18, 0, 0, 0, [41]), (0, 1, 0, 16, []), (31, 2, 20, 0, []), (0, 1, 0, (-3), []), (51, 0, 0, 0, []), (2, 0, 0, 0, []), (41, 89, 1, 0, [46]), (2, 0, 0, 0, []), (18, 4, 0, 0, [10]), (18, 2, 0, 0, [37]), (1, 1, 0, 0, []), (1, 2, 0, 0, []), (0, 0, 0, 0, []), (41, 2, 4, 0, [49]), (51, 0, 0, 0, [])]
/-- InterlockBoard.essential(II)I -/
def p_c_X4_essential : List pI := [(2, 0, 0, 0, []), (1, 1, 0, 0, []), (41, 74, 2, 0, [57]), (32, 0, 7, 0, []), (1, 2, 0, 0, []), (40, 78, 1, 0, [60]), (32, 1, 9, 0, []), (0, 0, 0, (-1), []), (51, 0, 0, 0, []), (1, 2, 0, 0, []), (0, 0, 0, 1, []), (31, 1, 21, 0, []), (2, 0, 0, 0, []), (18, 4, 0, 0, [10]), (18, 2, 0, 0, [37]), (41, 6, 1, 0, [63]), (1, 1, 0, 0, []), (40, 79, 2, 0, [67]), (32, 0, 21, 0, []), (0, 1, 0, (-2), []), (51, 0, 0, 0, []), (2, 0, 0, 0, []), (41, 89, 1, 0, [46]), (2, 0, 0, 0, []), (18, 4, 0, 0, [10]), (18, 2, 0, 0, [37]), (18, 0, 4, 0, [71]), (1, 1, 0, 0, []), (40, 80, 2, 0, [74]), (3, 3, 0, 0, []), (2, 0, 0, 0, []), (18, 4, 0, 0, [10]), (18, 2, 0, 0, [37]), (2, 0, 0, 0, []), (18, 4, 0, 0, [10]), (18, 2, 0, 0, [37]), (18, 0, 4, 0, [71]), (1, 1, 0, 0, []), (1, 2, 0, 0, []), (0, 0, 0, 1, []), (31, 1, 43, 0, []), (0, 0, 0, 1, []), (30, 0, 44, 0, []), (0, 0, 0, 0, []), (40, 81, 3, 0, [78]), (19, 0, 4, 0, [71]), (1, 3, 0, 0, []), (51, 0, 0, 0, [])]
/-- InterlockBoard.input(II)I -/
def p_c_X4_input : List pI := [(2, 0, 0, 0, []), (1, 1, 0, 0, []), (41, 74, 2, 0, [57]), (32, 0, 7, 0, []), (1, 2, 0, 0, []), (40, 78, 1, 0, [60]), (32, 1, 9, 0, []), (0, 0, 0, (-1), []), (51, 0, 0, 0, []), (2, 0, 0, 0, []), (18, 4, 0, 0, [10]), (18, 2, 0, 0, [37]), (1, 1, 0, 0, []), (41, 4, 2, 0, [82]), (32, 0, 17, 0, []), (0, 1, 0, (-2), []), (51, 0, 0, 0, []), (2, 0, 0, 0, []), (41, 89, 1, 0, [46]), (2, 0, 0, 0, []), (18, 4, 0, 0, [10]), (18, 2, 0, 0, [37]), (41, 7, 1, 0, [85]), (3, 3, 0, 0, []), (1, 2, 0, 0, []), (0, 0, 0, 1, []), (31, 1, 33, 0, []), (2, 0, 0, 0, []), (18, 4, 0, 0, [10]), (18, 2, 0, 0, [37]), (1, 1, 0, 0, []), (41, 15, 2, 0, [88]), (30, 0, 38, 0, []), (2, 0, 0, 0, []), (18, 4, 0, 0, [10]), (18, 2, 0, 0, [37]), (1, 1, 0, 0, []), (41, 14, 2, 0, [92]), (2, 0, 0, 0, []), (1, 3, 0, 0, []), (41, 91, 2, 0, [95]), (51, 0, 0, 0, [])]
/-- InterlockBoard.inputInfo(II)I -/
def p_c_X4_inputInfo : List pI := [(2, 0, 0, 0, []), (1, 1, 0, 0, []), (41, 74, 2, 0, [57]), (32, 1, 6, 0, []), (0, 0, 0, (-1), []), (51, 0, 0, 0, []), (2, 0, 0, 0, []), (18, 4, 0, 0, [10]), (18, 2, 0, 0, [37]), (4, 3, 0, 0, []), (1, 2, 0, 0, []), (33, 0, 77, 0, [12, 20, 25, 30, 35, 40, 45, 50, 55, 60, 65, 71]), (2, 3, 0, 0, []), (1, 1, 0, 0, []), (41, 4, 2, 0, [82]), (32, 0, 18, 0, []), (0, 0, 0, 1, []), (30, 0, 19, 0, []), (0, 0, 0, 0, []), (51, 0, 0, 0, []), (2, 3, 0, 0, []), (18, 0, 3, 0, [99]), (1, 1, 0, 0, []), (40, 80, 2, 0, [74]), (51, 0, 0, 0, []), (2, 3, 0, 0, []), (41, 7, 1, 0, [85]), (1, 1, 0, 0, []), (40, 80, 2, 0, [74]), (51, 0, 0, 0, []), (2, 3, 0, 0, []), (18, 0, 4, 0, [71]), (1, 1, 0, 0, []), (40, 80, 2, 0, [74]), (51, 0, 0, 0, []), (2, 3, 0, 0, []), (41, 5, 1, 0, [102]), (1, 1, 0, 0, []), (40, 80, 2, 0, [74]), (51, 0, 0, 0, []), (2, 3, 0, 0, []), (18, 0, 7, 0, [105]), (1, 1, 0, 0, []), (13, 0, 10, 0, []), (51, 0, 0, 0, []), (2, 3, 0, 0, []), (18, 0, 8, 0, [109]), (1, 1, 0, 0, []), (13, 0, 10, 0, []), (51, 0, 0, 0, []), (2, 3, 0, 0, []), (18, 0, 9, 0, [112]), (1, 1, 0, 0, []), (13, 0, 10, 0, []), (51, 0, 0, 0, []), (2, 3, 0, 0, []), (18, 0, 10, 0, [115]), (1, 1, 0, 0, []), (13, 0, 10, 0, []), (51, 0, 0, 0, []), (2, 3, 0, 0, []), (18, 0, 11, 0, [118]), (1, 1, 0, 0, []), (13, 0, 10, 0, []), (51, 0, 0, 0, []), (2, 3, 0, 0, []), (18, 0, 5, 0, [121]), (1, 1, 0, 0, []), (13, 0, 10, 0, []), (40, 85, 1, 0, [124]), (51, 0, 0, 0, []), (2, 3, 0, 0, []), (18, 0, 6, 0, [127]), (1, 1, 0, 0, []), (13, 0, 10, 0, []), (40, 85, 1, 0, [124]), (51, 0, 0, 0, []), (0, 0, 0, (-1), []), (51, 0, 0, 0, [])]
/-- InterlockBoard.keyIn(II)I -/
def p_c_X4_keyIn : List pI := [(1, 1, 0, 0, []), (40, 75, 1, 0, [53]), (32, 0, 7, 0, []), (2, 0, 0, 0, []), (1, 2, 0, 0, []), (41, 74, 2, 0, [57]), (32, 1, 9, 0, []), (0, 0, 0, (-1), []), (51, 0, 0, 0, []), (2, 0, 0, 0, []), (18, 4, 0, 0, [10]), (18, 2, 0, 0, [37]), (1, 1, 0, 0, []), (41, 9, 2, 0, [130]), (0, 0, 0, (-1), []), (31, 1, 24, 0, []), (2, 0, 0, 0, []), (18, 4, 0, 0, [10]), (18, 2, 0, 0, [37]), (18, 0, 5, 0, [121]), (1, 2, 0, 0, []), (13, 0, 10, 0, []), (1, 1, 0, 0, []), (31, 0, 26, 0, []), (0, 1, 0, (-2), []), (51, 0, 0, 0, []), (2, 0, 0, 0, []), (41, 89, 1, 0, [46]), (2, 0, 0, 0, []), (18, 4, 0, 0, [10]), (18, 2, 0, 0, [37]), (2, 0, 0, 0, []), (18, 4, 0, 0, [10]), (18, 2, 0, 0, [37]), (18, 0, 3, 0, [99]), (1, 2, 0, 0, []), (0, 0, 0, 1, []), (40, 81, 3, 0, [78]), (19, 0, 3, 0, [99]), (2, 0, 0, 0, []), (18, 4, 0, 0, [10]), (18, 2, 0, 0, [37]), (41, 10, 1, 0, [133]), (51, 0, 0, 0, [])]
/-- InterlockBoard.keyOut(I)I -/
def p_c_X4_keyOut : List pI := [(1, 1, 0, 0, []), (40, 75, 1, 0, [53]), (32, 1, 5, 0, []), (0, 0, 0, (-1), []), (51, 0, 0, 0, []), (2, 0, 0, 0, []), (18, 4, 0, 0, [10]), (18, 2, 0, 0, [37]), (1, 1, 0, 0, []), (41, 9, 2, 0, [130]), (3, 2, 0, 0, []), (1, 2, 0, 0, []), (0, 0, 0, (-1), []), (31, 0, 20, 0, []), (2, 0, 0, 0, []), (18, 4, 0, 0, [10]), (18, 2, 0, 0, [37]), (1, 2, 0, 0, []), (41, 11, 2, 0, [136]), (32, 1, 22, 0, []), (0, 1, 0, (-2), []), (51, 0, 0, 0, []), (2, 0, 0, 0, []), (41, 89, 1, 0, [46]), (2, 0, 0, 0, []), (18, 4, 0, 0, [10]), (18, 2, 0, 0, [37]), (41, 7, 1, 0, [85]), (3, 3, 0, 0, []), (2, 0, 0, 0, []), (18, 4, 0, 0, [10]), (18, 2, 0, 0, [37]), (2, 0, 0, 0, []), (18, 4, 0, 0, [10]), (18, 2, 0, 0, [37]), (18, 0, 3, 0, [99]), (1, 2, 0, 0, []), (0, 0, 0, 0, []), (40, 81, 3, 0, [78]), (19, 0, 3, 0, [99]), (2, 0, 0, 0, []), (1, 3, 0, 0, []), (41, 91, 2, 0, [95]), (51, 0, 0, 0, [])]
/-- InterlockBoard.key(I)I -/
def p_c_X4_key : List pI := [(1, 1, 0, 0, []), (40, 75, 1, 0, [53]), (32, 1, 5, 0, []), (0, 0, 0, (-1), []), (51, 0, 0, 0, []), (2, 0, 0, 0, []), (18, 4, 0, 0, [10]), (18, 2, 0, 0, [37]), (1, 1, 0, 0, []), (41, 9, 2, 0, [130]), (40, 85, 1, 0, [124]), (51, 0, 0, 0, [])]
/-- InterlockBoard.bridge(II)I -/
def p_c_X4_bridge : List pI := [(2, 0, 0, 0, []), (1, 1, 0, 0, []), (41, 74, 2, 0, [57]), (32, 0, 10, 0, []), (1, 2, 0, 0, []), (0, 0, 0, 1, []), (31, 2, 10, 0, []), (1, 2, 0, 0, []), (0, 2, 0, 500, []), (31, 5, 12, 0, []), (0, 0, 0, (-1), []), (51, 0, 0, 0, []), (2, 0, 0, 0, []), (18, 4, 0, 0, [10]), (18, 2, 0, 0, [37]), (41, 6, 1, 0, [63]), (3, 3, 0, 0, []), (2, 0, 0, 0, []), (18, 4, 0, 0, [10]), (18, 2, 0, 0, [37]), (18, 0, 4, 0, [71]), (1, 1, 0, 0, []), (40, 79, 2, 0, [67]), (32, 1, 28, 0, []), (1, 3, 0, 0, []), (1, 1, 0, 0, []), (40, 79, 2, 0, [67]), (32, 0, 30, 0, []), (0, 1, 0, (-2), []), (51, 0, 0, 0, []), (1, 3, 0, 0, []), (40, 94, 1, 0, [139]), (0, 0, 0, 3, []), (31, 2, 36, 0, []), (0, 1, 0, (-3), []), (51, 0, 0, 0, []), (2, 0, 0, 0, []), (41, 89, 1, 0, [46]), (2, 0, 0, 0, []), (18, 4, 0, 0, [10]), (18, 2, 0, 0, [37]), (18, 0, 9, 0, [112]), (1, 1, 0, 0, []), (1, 2, 0, 0, []), (15, 0, 10, 0, []), (2, 0, 0, 0, []), (18, 4, 0, 0, [10]), (18, 2, 0, 0, [37]), (41, 6, 1, 0, [63]), (40, 94, 1, 0, [139]), (51, 0, 0, 0, [])]
/-- InterlockBoard.unbridge(I)I -/
def p_c_X4_unbridge : List pI := [(2, 0, 0, 0, []), (1, 1, 0, 0, []), (41, 74, 2, 0, [57]), (32, 1, 6, 0, []), (0, 0, 0, (-1), []), (51, 0, 0, 0, []), (2, 0, 0, 0, []), (18, 4, 0, 0, [10]), (18, 2, 0, 0, [37]), (41, 6, 1, 0, [63]), (1, 1, 0, 0, []), (40, 79, 2, 0, [67]), (32, 1, 15, 0, []), (0, 1, 0, (-2), []), (51, 0, 0, 0, []), (2, 0, 0, 0, []), (41, 89, 1, 0, [46]), (2, 0, 0, 0, []), (18, 4, 0, 0, [10]), (18, 2, 0, 0, [37]), (41, 7, 1, 0, [85]), (3, 2, 0, 0, []), (2, 0, 0, 0, []), (18, 4, 0, 0, [10]), (18, 2, 0, 0, [37]), (18, 0, 9, 0, [112]), (1, 1, 0, 0, []), (0, 0, 0, 0, []), (15, 0, 10, 0, []), (2, 0, 0, 0, []), (1, 2, 0, 0, []), (41, 91, 2, 0, [95]), (51, 0, 0, 0, [])]
/-- InterlockBoard.bridged(I)I -/
def p_c_X4_bridged : List pI := [(1, 1, 0, 0, []), (32, 3, 4, 0, []), (0, 0, 0, (-1), []), (51, 0, 0, 0, []), (2, 0, 0, 0, []), (18, 4, 0, 0, [10]), (18, 2, 0, 0, [37]), (41, 6, 1, 0, [63]), (3, 2, 0, 0, []), (1, 1, 0, 0, []), (1, 2, 0, 0, []), (40, 94, 1, 0, [139]), (31, 2, 15, 0, []), (0, 1, 0, (-4), []), (51, 0, 0, 0, []), (0, 0, 0, 0, []), (3, 3, 0, 0, []), (1, 3, 0, 0, []), (1, 1, 0, 0, []), (31, 3, 31, 0, []), (1, 2, 0, 0, []), (2, 0, 0, 0, []), (18, 4, 0, 0, [10]), (18, 2, 0, 0, [37]), (1, 2, 0, 0, []), (41, 8, 2, 0, [144]), (0, 0, 0, 0, []), (40, 81, 3, 0, [78]), (3, 2, 0, 0, []), (5, 3, 0, 1, []), (30, 0, 17, 0, []), (2, 0, 0, 0, []), (18, 4, 0, 0, [10]), (18, 2, 0, 0, [37]), (1, 2, 0, 0, []), (41, 8, 2, 0, [144]), (51, 0, 0, 0, [])]
/-- InterlockBoard.row(II)I -/
def p_c_X4_row : List pI := [(1, 1, 0, 0, []), (40, 76, 1, 0, [147]), (32, 0, 14, 0, []), (1, 2, 0, 0, []), (32, 0, 14, 0, []), (1, 2, 0, 0, []), (2, 0, 0, 0, []), (18, 4, 0, 0, [10]), (18, 2, 0, 0, [37]), (41, 3, 1, 0, [150]), (0, 0, 0, (-1), []), (6, 5, 0, 0, []), (6, 3, 0, 0, []), (32, 0, 16, 0, []), (0, 0, 0, (-1), []), (51, 0, 0, 0, []), (2, 0, 0, 0, []), (18, 4, 0, 0, [10]), (18, 2, 1, 0, [153]), (18, 1, 0, 0, [157]), (1, 1, 0, 0, []), (40, 79, 2, 0, [67]), (32, 0, 25, 0, []), (0, 1, 0, (-2), []), (51, 0, 0, 0, []), (2, 0, 0, 0, []), (18, 4, 0, 0, [10]), (18, 2, 1, 0, [153]), (18, 1, 2, 0, [162]), (1, 1, 0, 0, []), (13, 0, 10, 0, []), (0, 0, 0, 4, []), (31, 2, 35, 0, []), (0, 1, 0, (-3), []), (51, 0, 0, 0, []), (2, 0, 0, 0, []), (41, 89, 1, 0, [46]), (2, 0, 0, 0, []), (18, 4, 0, 0, [10]), (18, 2, 1, 0, [153]), (1, 1, 0, 0, []), (1, 2, 0, 0, []), (41, 20, 3, 0, [165]), (51, 0, 0, 0, [])]
/-- InterlockBoard.dropRows(I)I -/
def p_c_X4_dropRows : List pI := [(1, 1, 0, 0, []), (40, 76, 1, 0, [147]), (32, 1, 5, 0, []), (0, 0, 0, (-1), []), (51, 0, 0, 0, []), (2, 0, 0, 0, []), (18, 4, 0, 0, [10]), (18, 2, 1, 0, [153]), (18, 1, 0, 0, [157]), (1, 1, 0, 0, []), (40, 79, 2, 0, [67]), (32, 0, 14, 0, []), (0, 1, 0, (-2), []), (51, 0, 0, 0, []), (2, 0, 0, 0, []), (41, 89, 1, 0, [46]), (2, 0, 0, 0, []), (18, 4, 0, 0, [10]), (18, 2, 1, 0, [153]), (18, 1, 2, 0, [162]), (1, 1, 0, 0, []), (13, 0, 10, 0, []), (3, 2, 0, 0, []), (2, 0, 0, 0, []), (18, 4, 0, 0, [10]), (18, 2, 1, 0, [153]), (18, 1, 2, 0, [162]), (1, 1, 0, 0, []), (0, 0, 0, 0, []), (15, 0, 10, 0, []), (1, 2, 0, 0, []), (51, 0, 0, 0, [])]
/-- InterlockBoard.exclude(III)I -/
def p_c_X4_exclude : List pI := [(1, 1, 0, 0, []), (40, 76, 1, 0, [147]), (32, 0, 12, 0, []), (1, 2, 0, 0, []), (40, 76, 1, 0, [147]), (32, 0, 12, 0, []), (1, 1, 0, 0, []), (1, 2, 0, 0, []), (31, 0, 12, 0, []), (1, 3, 0, 0, []), (40, 78, 1, 0, [60]), (32, 1, 14, 0, []), (0, 0, 0, (-1), []), (51, 0, 0, 0, []), (2, 0, 0, 0, []), (18, 4, 0, 0, [10]), (18, 2, 1, 0, [153]), (4, 4, 1, 0, []), (1, 3, 0, 0, []), (0, 0, 0, 1, []), (31, 1, 33, 0, []), (2, 4, 1, 0, []), (18, 1, 0, 0, [157]), (1, 1, 0, 0, []), (40, 79, 2, 0, [67]), (32, 0, 33, 0, []), (2, 4, 1, 0, []), (18, 1, 0, 0, [157]), (1, 2, 0, 0, []), (40, 79, 2, 0, [67]), (32, 0, 33, 0, []), (0, 1, 0, (-2), []), (51, 0, 0, 0, []), (2, 0, 0, 0, []), (41, 89, 1, 0, [46]), (2, 4, 1, 0, []), (18, 1, 3, 0, [168]), (1, 1, 0, 0, []), (13, 0, 10, 0, []), (1, 2, 0, 0, []), (40, 80, 2, 0, [74]), (3, 5, 1, 0, []), (2, 4, 1, 0, []), (18, 1, 3, 0, [168]), (1, 1, 0, 0, []), (2, 4, 1, 0, []), (18, 1, 3, 0, [168]), (1, 1, 0, 0, []), (13, 0, 10, 0, []), (1, 2, 0, 0, []), (1, 3, 0, 0, []), (0, 0, 0, 1, []), (31, 1, 55, 0, []), (0, 0, 0, 1, []), (30, 0, 56, 0, []), (0, 0, 0, 0, []), (40, 81, 3, 0, [78]), (15, 0, 10, 0, []), (2, 4, 1, 0, []), (18, 1, 3, 0, [168]), (1, 2, 0, 0, []), (2, 4, 1, 0, []), (18, 1, 3, 0, [168]), (1, 2, 0, 0, []), (13, 0, 10, 0, []), (1, 1, 0, 0, []), (1, 3, 0, 0, []), (0, 0, 0, 1, []), (31, 1, 71, 0, []), (0, 0, 0, 1, []), (30, 0, 72, 0, []), (0, 0, 0, 0, []), (40, 81, 3, 0, [78]), (15, 0, 10, 0, []), (1, 5, 1, 0, []), (51, 0, 0, 0, [])]
/-- InterlockBoard.start(I)I -/
def p_c_X4_start : List pI := [(1, 1, 0, 0, []), (40, 76, 1, 0, [147]), (32, 1, 5, 0, []), (0, 0, 0, (-1), []), (51, 0, 0, 0, []), (2, 0, 0, 0, []), (1, 1, 0, 0, []), (41, 88, 2, 0, [171]), (32, 0, 11, 0, []), (0, 1, 0, (-2), []), (51, 0, 0, 0, []), (2, 0, 0, 0, []), (41, 89, 1, 0, [46]), (2, 0, 0, 0, []), (18, 4, 0, 0, [10]), (18, 2, 1, 0, [153]), (1, 1, 0, 0, []), (41, 27, 2, 0, [174]), (2, 0, 0, 0, []), (18, 4, 0, 0, [10]), (18, 2, 1, 0, [153]), (18, 1, 0, 0, [157]), (40, 94, 1, 0, [139]), (51, 0, 0, 0, [])]
/-- InterlockBoard.why(I)I -/
def p_c_X4_why : List pI := [(1, 1, 0, 0, []), (40, 76, 1, 0, [147]), (32, 1, 5, 0, []), (0, 0, 0, (-1), []), (51, 0, 0, 0, []), (2, 0, 0, 0, []), (1, 1, 0, 0, []), (41, 88, 2, 0, [171]), (51, 0, 0, 0, [])]
/-- InterlockBoard.stop(I)I -/
def p_c_X4_stop : List pI := [(1, 1, 0, 0, []), (40, 76, 1, 0, [147]), (32, 1, 5, 0, []), (0, 0, 0, (-1), []), (51, 0, 0, 0, []), (2, 0, 0, 0, []), (18, 4, 0, 0, [10]), (18, 2, 1, 0, [153]), (18, 1, 0, 0, [157]), (1, 1, 0, 0, []), (40, 79, 2, 0, [67]), (32, 1, 14, 0, []), (0, 1, 0, (-2), []), (51, 0, 0, 0, []), (2, 0, 0, 0, []), (41, 89, 1, 0, [46]), (2, 0, 0, 0, []), (18, 4, 0, 0, [10]), (18, 2, 1, 0, [153]), (2, 0, 0, 0, []), (18, 4, 0, 0, [10]), (18, 2, 1, 0, [153]), (18, 1, 0, 0, [157]), (1, 1, 0, 0, []), (0, 0, 0, 0, []), (40, 81, 3, 0, [78]), (19, 1, 0, 0, [157]), (2, 0, 0, 0, []), (18, 4, 0, 0, [10]), (18, 2, 1, 0, [153]), (18, 1, 8, 0, [177]), (1, 1, 0, 0, []), (13, 0, 10, 0, []), (51, 0, 0, 0, [])]
/-- InterlockBoard.reset(I)I -/
def p_c_X4_reset : List pI := [(1, 1, 0, 0, []), (40, 76, 1, 0, [147]), (32, 1, 5, 0, []), (0, 0, 0, (-1), []), (51, 0, 0, 0, []), (2, 0, 0, 0, []), (18, 4, 0, 0, [10]), (18, 2, 1, 0, [153]), (18, 1, 4, 0, [180]), (1, 1, 0, 0, []), (13, 0, 10, 0, []), (3, 2, 0, 0, []), (1, 2, 0, 0, []), (0, 0, 0, (-1), []), (31, 1, 17, 0, []), (0, 1, 0, (-2), []), (51, 0, 0, 0, []), (2, 0, 0, 0, []), (41, 89, 1, 0, [46]), (2, 0, 0, 0, []), (18, 4, 0, 0, [10]), (18, 2, 1, 0, [153]), (18, 1, 4, 0, [180]), (1, 1, 0, 0, []), (0, 0, 0, (-1), []), (15, 0, 10, 0, []), (1, 2, 0, 0, []), (51, 0, 0, 0, [])]
/-- InterlockBoard.motion(II)I -/
def p_c_X4_motion : List pI := [(1, 1, 0, 0, []), (40, 76, 1, 0, [147]), (32, 1, 5, 0, []), (0, 0, 0, (-1), []), (51, 0, 0, 0, []), (2, 0, 0, 0, []), (18, 4, 0, 0, [10]), (18, 2, 1, 0, [153]), (4, 3, 0, 0, []), (1, 2, 0, 0, []), (33, 0, 68, 0, [11, 16, 24, 29, 35, 41, 46, 51, 56, 56, 56, 56, 63]), (2, 3, 0, 0, []), (18, 1, 2, 0, [162]), (1, 1, 0, 0, []), (13, 0, 10, 0, []), (51, 0, 0, 0, []), (2, 0, 0, 0, []), (1, 1, 0, 0, []), (41, 87, 2, 0, [183]), (32, 0, 22, 0, []), (0, 0, 0, 1, []), (30, 0, 23, 0, []), (0, 0, 0, 0, []), (51, 0, 0, 0, []), (2, 3, 0, 0, []), (18, 1, 0, 0, [157]), (1, 1, 0, 0, []), (40, 80, 2, 0, [74]), (51, 0, 0, 0, []), (2, 3, 0, 0, []), (18, 1, 4, 0, [180]), (1, 1, 0, 0, []), (13, 0, 10, 0, []), (40, 85, 1, 0, [124]), (51, 0, 0, 0, []), (2, 3, 0, 0, []), (18, 1, 5, 0, [186]), (1, 1, 0, 0, []), (13, 0, 10, 0, []), (40, 85, 1, 0, [124]), (51, 0, 0, 0, []), (2, 3, 0, 0, []), (18, 1, 9, 0, [189]), (1, 1, 0, 0, []), (13, 0, 10, 0, []), (51, 0, 0, 0, []), (2, 3, 0, 0, []), (18, 1, 7, 0, [192]), (1, 1, 0, 0, []), (13, 0, 10, 0, []), (51, 0, 0, 0, []), (2, 3, 0, 0, []), (18, 1, 6, 0, [195]), (1, 1, 0, 0, []), (13, 0, 10, 0, []), (51, 0, 0, 0, []), (2, 0, 0, 0, []), (1, 1, 0, 0, []), (1, 2, 0, 0, []), (0, 1, 0, 8, []), (6, 1, 0, 0, []), (41, 86, 3, 0, [198]), (51, 0, 0, 0, []), (2, 3, 0, 0, []), (18, 1, 3, 0, [168]), (1, 1, 0, 0, []), (13, 0, 10, 0, []), (51, 0, 0, 0, []), (0, 0, 0, (-1), []), (51, 0, 0, 0, [])]
/-- InterlockBoard.ways(I)I -/
def p_c_X4_ways : List pI := [(1, 1, 0, 0, []), (40, 76, 1, 0, [147]), (32, 1, 5, 0, []), (0, 0, 0, (-1), []), (51, 0, 0, 0, []), (2, 0, 0, 0, []), (18, 4, 0, 0, [10]), (18, 2, 1, 0, [153]), (1, 1, 0, 0, []), (41, 21, 2, 0, [201]), (3, 2, 0, 0, []), (1, 2, 0, 0, []), (40, 94, 1, 0, [139]), (0, 1, 0, 12, []), (31, 5, 17, 0, []), (0, 1, 0, (-3), []), (51, 0, 0, 0, []), (0, 0, 0, 0, []), (3, 3, 0, 0, []), (0, 0, 0, 0, []), (3, 4, 1, 0, []), (0, 0, 0, 1, []), (1, 2, 0, 0, []), (40, 94, 1, 0, [139]), (6, 6, 0, 0, []), (3, 5, 1, 0, []), (0, 0, 0, 0, []), (3, 6, 1, 0, []), (1, 6, 1, 0, []), (1, 5, 1, 0, []), (31, 3, 47, 0, []), (2, 0, 0, 0, []), (18, 4, 0, 0, [10]), (18, 2, 1, 0, [153]), (1, 1, 0, 0, []), (1, 4, 1, 0, []), (41, 23, 3, 0, [204]), (32, 0, 39, 0, []), (5, 3, 0, 1, []), (1, 4, 1, 0, []), (1, 2, 0, 0, []), (6, 1, 0, 0, []), (1, 2, 0, 0, []), (6, 3, 0, 0, []), (3, 4, 1, 0, []), (5, 6, 0, 1, []), (30, 0, 28, 0, []), (1, 3, 0, 0, []), (51, 0, 0, 0, [])]
/-- InterlockBoard.waysAgain(I)I -/
def p_c_X4_waysAgain : List pI := [(1, 1, 0, 0, []), (40, 76, 1, 0, [147]), (32, 1, 5, 0, []), (0, 0, 0, (-1), []), (51, 0, 0, 0, []), (2, 0, 0, 0, []), (18, 4, 0, 0, [10]), (18, 2, 1, 0, [153]), (1, 1, 0, 0, []), (41, 21, 2, 0, [201]), (3, 2, 0, 0, []), (1, 2, 0, 0, []), (40, 94, 1, 0, [139]), (0, 1, 0, 12, []), (31, 5, 17, 0, []), (0, 1, 0, (-3), []), (51, 0, 0, 0, []), (0, 0, 0, 0, []), (3, 3, 0, 0, []), (0, 0, 0, 1, []), (2, 0, 0, 0, []), (18, 4, 0, 0, [10]), (18, 2, 1, 0, [153]), (18, 1, 2, 0, [162]), (1, 1, 0, 0, []), (13, 0, 10, 0, []), (6, 6, 0, 0, []), (3, 4, 1, 0, []), (0, 0, 0, 1, []), (3, 5, 1, 0, []), (1, 5, 1, 0, []), (1, 4, 1, 0, []), (31, 3, 70, 0, []), (1, 2, 0, 0, []), (2, 0, 0, 0, []), (18, 4, 0, 0, [10]), (18, 2, 1, 0, [153]), (1, 1, 0, 0, []), (1, 5, 1, 0, []), (41, 22, 3, 0, [206]), (0, 0, 0, (-1), []), (6, 5, 0, 0, []), (6, 3, 0, 0, []), (3, 6, 1, 0, []), (0, 0, 0, 1, []), (1, 6, 1, 0, []), (40, 94, 1, 0, [139]), (6, 6, 0, 0, []), (3, 7, 1, 0, []), (1, 5, 1, 0, []), (40, 94, 1, 0, [139]), (0, 0, 0, 2, []), (8, 0, 0, 0, []), (0, 0, 0, 1, []), (31, 1, 57, 0, []), (0, 0, 0, 1, []), (30, 0, 58, 0, []), (0, 0, 0, 0, []), (3, 8, 1, 0, []), (1, 3, 0, 0, []), (1, 8, 1, 0, []), (32, 0, 64, 0, []), (1, 7, 1, 0, []), (30, 0, 66, 0, []), (1, 7, 1, 0, []), (7, 0, 0, 0, []), (6, 0, 0, 0, []), (3, 3, 0, 0, []), (5, 5, 0, 1, []), (30, 0, 30, 0, []), (1, 3, 0, 0, []), (51, 0, 0, 0, [])]
/-- InterlockBoard.needed(I)I -/
def p_c_X4_needed : List pI := [(1, 1, 0, 0, []), (40, 76, 1, 0, [147]), (32, 1, 5, 0, []), (0, 0, 0, (-1), []), (51, 0, 0, 0, []), (2, 0, 0, 0, []), (18, 4, 0, 0, [10]), (18, 2, 1, 0, [153]), (18, 1, 2, 0, [162]), (1, 1, 0, 0, []), (13, 0, 10, 0, []), (32, 1, 14, 0, []), (0, 1, 0, (-4), []), (51, 0, 0, 0, []), (2, 0, 0, 0, []), (18, 4, 0, 0, [10]), (18, 2, 1, 0, [153]), (1, 1, 0, 0, []), (2, 0, 0, 0, []), (18, 4, 0, 0, [10]), (18, 2, 0, 0, [37]), (41, 7, 1, 0, [85]), (41, 26, 3, 0, [209]), (51, 0, 0, 0, [])]
/-- InterlockBoard.test(I)I -/
def p_c_X4_test : List pI := [(2, 0, 0, 0, []), (1, 1, 0, 0, []), (41, 74, 2, 0, [57]), (32, 1, 6, 0, []), (0, 0, 0, (-1), []), (51, 0, 0, 0, []), (2, 0, 0, 0, []), (18, 4, 0, 0, [10]), (18, 2, 0, 0, [37]), (1, 1, 0, 0, []), (41, 12, 2, 0, [212]), (32, 1, 14, 0, []), (0, 1, 0, (-2), []), (51, 0, 0, 0, []), (2, 0, 0, 0, []), (41, 89, 1, 0, [46]), (2, 0, 0, 0, []), (18, 4, 0, 0, [10]), (18, 2, 0, 0, [37]), (1, 1, 0, 0, []), (41, 13, 2, 0, [215]), (51, 0, 0, 0, [])]
/-- InterlockBoard.run(I)I -/
def p_c_X4_run : List pI := [(1, 1, 0, 0, []), (0, 0, 0, 1, []), (31, 2, 6, 0, []), (1, 1, 0, 0, []), (0, 2, 0, 500, []), (31, 5, 8, 0, []), (0, 0, 0, (-1), []), (51, 0, 0, 0, []), (2, 0, 0, 0, []), (18, 4, 0, 0, [10]), (18, 2, 0, 0, [37]), (18, 0, 1, 0, [218]), (1, 1, 0, 0, []), (6, 0, 0, 0, []), (0, 3, 0, 100000, [221, 395]), (31, 5, 18, 0, []), (0, 1, 0, (-3), []), (51, 0, 0, 0, []), (2, 0, 0, 0, []), (41, 89, 1, 0, [46]), (0, 0, 0, 0, []), (3, 2, 0, 0, []), (2, 0, 0, 0, []), (18, 4, 0, 0, [10]), (18, 2, 0, 0, [37]), (41, 7, 1, 0, [85]), (3, 3, 0, 0, []), (0, 0, 0, 0, []), (3, 4, 1, 0, []), (1, 4, 1, 0, []), (1, 1, 0, 0, []), (31, 3, 62, 0, []), (2, 0, 0, 0, []), (18, 4, 0, 0, [10]), (18, 2, 0, 0, [37]), (41, 16, 1, 0, [222]), (2, 0, 0, 0, []), (18, 4, 0, 0, [10]), (18, 2, 0, 0, [37]), (41, 7, 1, 0, [85]), (3, 5, 1, 0, []), (1, 2, 0, 0, []), (2, 0, 0, 0, []), (18, 4, 0, 0, [10]), (18, 2, 1, 0, [153]), (1, 3, 0, 0, []), (1, 5, 1, 0, []), (2, 0, 0, 0, []), (18, 4, 0, 0, [10]), (18, 2, 0, 0, [37]), (18, 0, 1, 0, [218]), (41, 28, 4, 0, [225]), (6, 0, 0, 0, []), (3, 2, 0, 0, []), (2, 0, 0, 0, []), (18, 4, 0, 0, [10]), (18, 2, 1, 0, [153]), (41, 30, 1, 0, [228]), (1, 5, 1, 0, []), (3, 3, 0, 0, []), (5, 4, 0, 1, []), (30, 0, 29, 0, []), (1, 2, 0, 0, []), (51, 0, 0, 0, [])]
/-- InterlockBoard.count(I)I -/
def p_c_X4_count : List pI := [(2, 0, 0, 0, []), (18, 4, 0, 0, [10]), (18, 2, 0, 0, [37]), (4, 2, 0, 0, []), (2, 0, 0, 0, []), (18, 4, 0, 0, [10]), (18, 2, 1, 0, [153]), (4, 3, 0, 0, []), (1, 1, 0, 0, []), (33, 0, 73, 0, [10, 13, 17, 21, 25, 28, 32, 37, 40, 43, 47, 51, 55, 59, 62, 65, 69]), (2, 2, 0, 0, []), (18, 0, 0, 0, [41]), (51, 0, 0, 0, []), (2, 2, 0, 0, []), (41, 7, 1, 0, [85]), (40, 94, 1, 0, [139]), (51, 0, 0, 0, []), (2, 2, 0, 0, []), (41, 5, 1, 0, [102]), (40, 94, 1, 0, [139]), (51, 0, 0, 0, []), (2, 2, 0, 0, []), (41, 6, 1, 0, [63]), (40, 94, 1, 0, [139]), (51, 0, 0, 0, []), (2, 2, 0, 0, []), (41, 10, 1, 0, [133]), (51, 0, 0, 0, []), (2, 3, 0, 0, []), (18, 1, 0, 0, [157]), (40, 94, 1, 0, [139]), (51, 0, 0, 0, []), (2, 3, 0, 0, []), (2, 2, 0, 0, []), (41, 7, 1, 0, [85]), (41, 24, 2, 0, [231]), (51, 0, 0, 0, []), (2, 3, 0, 0, []), (41, 25, 1, 0, [234]), (51, 0, 0, 0, []), (2, 2, 0, 0, []), (18, 0, 1, 0, [218]), (51, 0, 0, 0, []), (2, 3, 0, 0, []), (18, 1, 9, 0, [189]), (40, 83, 1, 0, [237]), (51, 0, 0, 0, []), (2, 3, 0, 0, []), (18, 1, 7, 0, [192]), (40, 83, 1, 0, [237]), (51, 0, 0, 0, []), (2, 3, 0, 0, []), (18, 1, 6, 0, [195]), (40, 83, 1, 0, [237]), (51, 0, 0, 0, []), (2, 2, 0, 0, []), (18, 0, 10, 0, [115]), (40, 83, 1, 0, [237]), (51, 0, 0, 0, []), (2, 2, 0, 0, []), (18, 0, 2, 0, [241]), (51, 0, 0, 0, []), (2, 0, 0, 0, []), (18, 4, 2, 0, [20]), (51, 0, 0, 0, []), (2, 0, 0, 0, []), (18, 4, 5, 0, [33]), (18, 3, 1, 0, [244]), (51, 0, 0, 0, []), (2, 0, 0, 0, []), (18, 4, 4, 0, [27]), (40, 94, 1, 0, [139]), (51, 0, 0, 0, []), (0, 0, 0, (-1), []), (51, 0, 0, 0, [])]
/-- InterlockBoard.snapshot(I)I -/
def p_c_X4_snapshot : List pI := [(1, 1, 0, 0, []), (40, 77, 1, 0, [247]), (32, 1, 5, 0, []), (0, 0, 0, (-1), []), (51, 0, 0, 0, []), (2, 0, 0, 0, []), (18, 4, 3, 0, [24]), (1, 1, 0, 0, []), (14, 0, 0, 0, []), (2, 0, 0, 0, []), (18, 4, 0, 0, [10]), (41, 32, 2, 0, [250]), (2, 0, 0, 0, []), (2, 0, 0, 0, []), (18, 4, 4, 0, [27]), (1, 1, 0, 0, []), (0, 0, 0, 1, []), (40, 81, 3, 0, [78]), (19, 4, 4, 0, [27]), (2, 0, 0, 0, []), (18, 4, 4, 0, [27]), (40, 94, 1, 0, [139]), (51, 0, 0, 0, [])]
/-- InterlockBoard.restore(I)I -/
def p_c_X4_restore : List pI := [(1, 1, 0, 0, []), (40, 77, 1, 0, [247]), (32, 1, 5, 0, []), (0, 0, 0, (-1), []), (51, 0, 0, 0, []), (2, 0, 0, 0, []), (18, 4, 4, 0, [27]), (1, 1, 0, 0, []), (40, 79, 2, 0, [67]), (32, 1, 12, 0, []), (0, 1, 0, (-2), []), (51, 0, 0, 0, []), (2, 0, 0, 0, []), (41, 89, 1, 0, [46]), (2, 0, 0, 0, []), (18, 4, 0, 0, [10]), (2, 0, 0, 0, []), (18, 4, 3, 0, [24]), (1, 1, 0, 0, []), (14, 0, 0, 0, []), (41, 32, 2, 0, [250]), (2, 0, 0, 0, []), (18, 4, 0, 0, [10]), (18, 2, 0, 0, [37]), (18, 0, 1, 0, [218]), (51, 0, 0, 0, [])]
/-- InterlockBoard.undo()I -/
def p_c_X4_undo : List pI := [(2, 0, 0, 0, []), (18, 4, 2, 0, [20]), (32, 1, 5, 0, []), (0, 1, 0, (-2), []), (51, 0, 0, 0, []), (2, 0, 0, 0, []), (10, 0, 0, 0, []), (18, 4, 2, 0, [20]), (0, 0, 0, 1, []), (6, 1, 0, 0, []), (19, 4, 2, 0, [20]), (2, 0, 0, 0, []), (18, 4, 0, 0, [10]), (2, 0, 0, 0, []), (18, 4, 1, 0, [16]), (2, 0, 0, 0, []), (18, 4, 2, 0, [20]), (14, 0, 0, 0, []), (41, 32, 2, 0, [250]), (2, 0, 0, 0, []), (18, 4, 2, 0, [20]), (51, 0, 0, 0, [])]
/-- InterlockBoard.type(I)I -/
def p_c_X4_type : List pI := [(1, 1, 0, 0, []), (0, 1, 0, 32, []), (31, 2, 6, 0, []), (1, 1, 0, 0, []), (0, 1, 0, 126, []), (31, 5, 8, 0, []), (0, 0, 0, (-1), []), (51, 0, 0, 0, []), (2, 0, 0, 0, []), (18, 4, 5, 0, [33]), (18, 3, 1, 0, [244]), (0, 1, 0, 80, []), (31, 2, 15, 0, []), (0, 1, 0, (-3), []), (51, 0, 0, 0, []), (2, 0, 0, 0, []), (18, 4, 5, 0, [33]), (18, 3, 0, 0, [254]), (2, 0, 0, 0, []), (18, 4, 5, 0, [33]), (18, 3, 1, 0, [244]), (1, 1, 0, 0, []), (9, 0, 0, 0, []), (15, 0, 11, 0, []), (2, 0, 0, 0, []), (18, 4, 5, 0, [33]), (10, 0, 0, 0, []), (18, 3, 1, 0, [244]), (0, 0, 0, 1, []), (6, 0, 0, 0, []), (19, 3, 1, 0, [244]), (2, 0, 0, 0, []), (18, 4, 5, 0, [33]), (18, 3, 1, 0, [244]), (51, 0, 0, 0, [])]
/-- InterlockBoard.clearText()I -/
def p_c_X4_clearText : List pI := [(2, 0, 0, 0, []), (18, 4, 5, 0, [33]), (18, 3, 1, 0, [244]), (3, 1, 0, 0, []), (2, 0, 0, 0, []), (18, 4, 5, 0, [33]), (0, 0, 0, 0, []), (19, 3, 1, 0, [244]), (1, 1, 0, 0, []), (51, 0, 0, 0, [])]
/-- InterlockBoard.fault(I)I -/
def p_c_X4_fault : List pI := [(1, 1, 0, 0, []), (32, 0, 7, 0, []), (1, 1, 0, 0, []), (0, 0, 0, 1, []), (31, 0, 7, 0, []), (0, 0, 0, (-1), []), (51, 0, 0, 0, []), (2, 0, 0, 0, []), (41, 92, 1, 0, [258]), (3, 2, 0, 0, []), (1, 2, 0, 0, []), (0, 0, 0, (-1), []), (31, 1, 15, 0, []), (0, 1, 0, (-4), []), (51, 0, 0, 0, []), (1, 1, 0, 0, []), (32, 1, 19, 0, []), (1, 2, 0, 0, []), (30, 0, 26, 0, []), (2, 0, 0, 0, []), (1, 2, 0, 0, []), (2, 0, 0, 0, []), (18, 4, 5, 0, [33]), (1, 2, 0, 0, []), (41, 34, 2, 0, [261]), (41, 93, 3, 0, [264]), (51, 0, 0, 0, [])]
/-- InterlockBoard.read()I -/
def p_c_X4_read : List pI := [(2, 0, 0, 0, []), (41, 92, 1, 0, [258]), (0, 0, 0, (-1), []), (31, 0, 6, 0, []), (0, 1, 0, (-2), []), (51, 0, 0, 0, []), (2, 0, 0, 0, []), (41, 89, 1, 0, [46]), (0, 0, 0, 0, []), (3, 1, 0, 0, []), (0, 0, 0, 0, []), (3, 2, 0, 0, []), (0, 0, 0, 0, []), (3, 3, 0, 0, []), (1, 3, 0, 0, []), (2, 0, 0, 0, []), (18, 4, 5, 0, [33]), (18, 3, 1, 0, [244]), (31, 3, 47, 0, []), (2, 0, 0, 0, []), (18, 4, 5, 0, [33]), (18, 3, 0, 0, [254]), (1, 3, 0, 0, []), (13, 0, 11, 0, []), (0, 1, 0, 59, []), (31, 1, 45, 0, []), (2, 0, 0, 0, []), (18, 4, 0, 0, [10]), (18, 2, 1, 0, [153]), (2, 0, 0, 0, []), (18, 4, 5, 0, [33]), (1, 2, 0, 0, []), (41, 37, 2, 0, [267]), (2, 0, 0, 0, []), (18, 4, 5, 0, [33]), (1, 2, 0, 0, []), (1, 3, 0, 0, []), (41, 39, 3, 0, [270]), (41, 20, 3, 0, [165]), (12, 0, 0, 0, []), (5, 1, 0, 1, []), (1, 3, 0, 0, []), (0, 0, 0, 1, []), (6, 0, 0, 0, []), (3, 2, 0, 0, []), (5, 3, 0, 1, []), (30, 0, 14, 0, []), (1, 1, 0, 0, []), (51, 0, 0, 0, [])]
/-- InterlockBoard.isInput(I)Z -/
def p_c_X4_isInput : List pI := [(1, 1, 0, 0, []), (32, 2, 10, 0, []), (1, 1, 0, 0, []), (2, 0, 0, 0, []), (18, 4, 0, 0, [10]), (18, 2, 0, 0, [37]), (18, 0, 0, 0, [41]), (31, 3, 10, 0, []), (0, 0, 0, 1, []), (30, 0, 11, 0, []), (0, 0, 0, 0, []), (52, 0, 0, 0, [])]
/-- InterlockBoard.isKey(I)Z -/
def p_c_X4_isKey : List pI := [(1, 0, 0, 0, []), (32, 2, 7, 0, []), (1, 0, 0, 0, []), (0, 1, 0, 6, []), (31, 3, 7, 0, []), (0, 0, 0, 1, []), (30, 0, 8, 0, []), (0, 0, 0, 0, []), (52, 0, 0, 0, [])]
/-- InterlockBoard.isMotion(I)Z -/
def p_c_X4_isMotion : List pI := [(1, 0, 0, 0, []), (32, 2, 7, 0, []), (1, 0, 0, 0, []), (0, 1, 0, 6, []), (31, 3, 7, 0, []), (0, 0, 0, 1, []), (30, 0, 8, 0, []), (0, 0, 0, 0, []), (52, 0, 0, 0, [])]
/-- InterlockBoard.isSnapshotPlace(I)Z -/
def p_c_X4_isSnapshotPlace : List pI := [(1, 0, 0, 0, []), (32, 2, 7, 0, []), (1, 0, 0, 0, []), (0, 0, 0, 2, []), (31, 3, 7, 0, []), (0, 0, 0, 1, []), (30, 0, 8, 0, []), (0, 0, 0, 0, []), (52, 0, 0, 0, [])]
/-- InterlockBoard.isYesOrNo(I)Z -/
def p_c_X4_isYesOrNo : List pI := [(1, 0, 0, 0, []), (32, 0, 5, 0, []), (1, 0, 0, 0, []), (0, 0, 0, 1, []), (31, 1, 7, 0, []), (0, 0, 0, 1, []), (30, 0, 8, 0, []), (0, 0, 0, 0, []), (52, 0, 0, 0, [])]
/-- InterlockBoard.has(II)Z -/
def p_c_X4_has : List pI := [(1, 0, 0, 0, []), (1, 1, 0, 0, []), (40, 80, 2, 0, [74]), (0, 0, 0, 1, []), (31, 1, 7, 0, []), (0, 0, 0, 1, []), (30, 0, 8, 0, []), (0, 0, 0, 0, []), (52, 0, 0, 0, [])]
/-- InterlockBoard.bitOf(II)I -/
def p_c_X4_bitOf : List pI := [(1, 0, 0, 0, []), (1, 1, 0, 0, []), (6, 7, 0, 0, []), (0, 0, 0, 1, []), (6, 3, 0, 0, []), (51, 0, 0, 0, [])]
/-- InterlockBoard.with(IIZ)I -/
def p_c_X4_with : List pI := [(0, 0, 0, 1, []), (1, 1, 0, 0, []), (6, 6, 0, 0, []), (3, 3, 0, 0, []), (1, 2, 0, 0, []), (32, 0, 10, 0, []), (1, 0, 0, 0, []), (1, 3, 0, 0, []), (6, 4, 0, 0, []), (30, 0, 15, 0, []), (1, 0, 0, 0, []), (1, 3, 0, 0, []), (0, 0, 0, (-1), []), (6, 5, 0, 0, []), (6, 3, 0, 0, []), (51, 0, 0, 0, [])]
/-- InterlockBoard.least(I)I -/
def p_c_X4_least : List pI := [(0, 0, 0, 0, []), (3, 1, 0, 0, []), (1, 1, 0, 0, []), (0, 1, 0, 16, []), (31, 3, 13, 0, []), (1, 0, 0, 0, []), (1, 1, 0, 0, []), (40, 79, 2, 0, [67]), (32, 0, 11, 0, []), (1, 1, 0, 0, []), (51, 0, 0, 0, []), (5, 1, 0, 1, []), (30, 0, 2, 0, []), (0, 0, 0, (-1), []), (51, 0, 0, 0, [])]
/-- InterlockBoard.sum([I)I -/
def p_c_X4_sum : List pI := [(0, 0, 0, 0, []), (3, 1, 0, 0, []), (2, 0, 0, 0, []), (4, 2, 0, 0, []), (2, 2, 0, 0, []), (17, 0, 0, 0, []), (3, 3, 0, 0, []), (0, 0, 0, 0, []), (3, 4, 1, 0, []), (1, 4, 1, 0, []), (1, 3, 0, 0, []), (31, 3, 22, 0, []), (2, 2, 0, 0, []), (1, 4, 1, 0, []), (13, 0, 10, 0, []), (3, 5, 1, 0, []), (1, 1, 0, 0, []), (1, 5, 1, 0, []), (6, 0, 0, 0, []), (3, 1, 0, 0, []), (5, 4, 0, 1, []), (30, 0, 9, 0, []), (1, 1, 0, 0, []), (51, 0, 0, 0, [])]
/-- InterlockBoard.copyAll([I[I)V -/
def p_c_X4_copyAll : List pI := [(2, 0, 0, 0, []), (0, 0, 0, 0, []), (2, 1, 0, 0, []), (0, 0, 0, 0, []), (2, 0, 0, 0, []), (17, 0, 0, 0, []), (2, 1, 0, 0, []), (17, 0, 0, 0, []), (27, 0, 0, 0, [273]), (25, 0, 0, 0, [278]), (50, 0, 0, 0, [])]
/-- InterlockBoard.orNotFound(I)I -/
def p_c_X4_orNotFound : List pI := [(1, 0, 0, 0, []), (0, 0, 0, (-1), []), (31, 1, 5, 0, []), (0, 1, 0, (-4), []), (30, 0, 6, 0, []), (1, 0, 0, 0, []), (51, 0, 0, 0, [])]
/-- InterlockBoard.rowOrNotFound(II)I -/
def p_c_X4_rowOrNotFound : List pI := [(1, 2, 0, 0, []), (2, 0, 0, 0, []), (18, 4, 0, 0, [10]), (18, 2, 1, 0, [153]), (18, 1, 2, 0, [162]), (1, 1, 0, 0, []), (13, 0, 10, 0, []), (31, 2, 10, 0, []), (0, 1, 0, (-4), []), (51, 0, 0, 0, []), (2, 0, 0, 0, []), (18, 4, 0, 0, [10]), (18, 2, 1, 0, [153]), (1, 1, 0, 0, []), (1, 2, 0, 0, []), (41, 19, 3, 0, [284]), (51, 0, 0, 0, [])]
/-- InterlockBoard.isPermitted(I)Z -/
def p_c_X4_isPermitted : List pI := [(2, 0, 0, 0, []), (18, 4, 0, 0, [10]), (18, 2, 1, 0, [153]), (1, 1, 0, 0, []), (2, 0, 0, 0, []), (18, 4, 0, 0, [10]), (18, 2, 0, 0, [37]), (41, 7, 1, 0, [85]), (41, 23, 3, 0, [204]), (52, 0, 0, 0, [])]
/-- InterlockBoard.reasonAgainstStart(I)I -/
def p_c_X4_reasonAgainstStart : List pI := [(2, 0, 0, 0, []), (18, 4, 0, 0, [10]), (18, 2, 1, 0, [153]), (4, 2, 0, 0, []), (2, 2, 0, 0, []), (18, 1, 0, 0, [157]), (1, 1, 0, 0, []), (40, 79, 2, 0, [67]), (32, 0, 11, 0, []), (0, 0, 0, 1, []), (51, 0, 0, 0, []), (2, 2, 0, 0, []), (18, 1, 4, 0, [180]), (1, 1, 0, 0, []), (13, 0, 10, 0, []), (0, 0, 0, (-1), []), (31, 0, 19, 0, []), (0, 0, 0, 2, []), (51, 0, 0, 0, []), (2, 0, 0, 0, []), (1, 1, 0, 0, []), (41, 87, 2, 0, [183]), (32, 1, 25, 0, []), (0, 0, 0, 3, []), (51, 0, 0, 0, []), (2, 2, 0, 0, []), (18, 1, 0, 0, [157]), (2, 2, 0, 0, []), (18, 1, 3, 0, [168]), (1, 1, 0, 0, []), (13, 0, 10, 0, []), (6, 3, 0, 0, []), (32, 0, 35, 0, []), (0, 0, 0, 4, []), (30, 0, 36, 0, []), (0, 0, 0, 0, []), (51, 0, 0, 0, [])]
/-- InterlockBoard.remember()V -/
def p_c_X4_remember : List pI := [(2, 0, 0, 0, []), (18, 4, 2, 0, [20]), (0, 0, 0, 4, []), (31, 2, 6, 0, []), (2, 0, 0, 0, []), (41, 90, 1, 0, [287]), (2, 0, 0, 0, []), (18, 4, 1, 0, [16]), (2, 0, 0, 0, []), (18, 4, 2, 0, [20]), (14, 0, 0, 0, []), (2, 0, 0, 0, []), (18, 4, 0, 0, [10]), (41, 32, 2, 0, [250]), (2, 0, 0, 0, []), (10, 0, 0, 0, []), (18, 4, 2, 0, [20]), (0, 0, 0, 1, []), (6, 0, 0, 0, []), (19, 4, 2, 0, [20]), (50, 0, 0, 0, [])]
/-- InterlockBoard.forgetOldest()V -/
def p_c_X4_forgetOldest : List pI := [(2, 0, 0, 0, []), (18, 4, 1, 0, [16]), (0, 0, 0, 0, []), (14, 0, 0, 0, []), (4, 1, 0, 0, []), (0, 0, 0, 1, []), (3, 2, 0, 0, []), (1, 2, 0, 0, []), (0, 0, 0, 4, []), (31, 3, 22, 0, []), (2, 0, 0, 0, []), (18, 4, 1, 0, [16]), (1, 2, 0, 0, []), (0, 0, 0, 1, []), (6, 1, 0, 0, []), (2, 0, 0, 0, []), (18, 4, 1, 0, [16]), (1, 2, 0, 0, []), (14, 0, 0, 0, []), (16, 0, 0, 0, []), (5, 2, 0, 1, []), (30, 0, 7, 0, []), (2, 0, 0, 0, []), (18, 4, 1, 0, [16]), (0, 0, 0, 3, []), (2, 1, 0, 0, []), (16, 0, 0, 0, []), (2, 0, 0, 0, []), (0, 0, 0, 3, []), (19, 4, 2, 0, [20]), (50, 0, 0, 0, [])]
/-- InterlockBoard.lookAtMotions(I)I -/
def p_c_X4_lookAtMotions : List pI := [(2, 0, 0, 0, []), (18, 4, 0, 0, [10]), (18, 2, 1, 0, [153]), (1, 1, 0, 0, []), (2, 0, 0, 0, []), (18, 4, 0, 0, [10]), (18, 2, 0, 0, [37]), (41, 7, 1, 0, [85]), (2, 0, 0, 0, []), (18, 4, 0, 0, [10]), (18, 2, 0, 0, [37]), (18, 0, 1, 0, [218]), (41, 28, 4, 0, [225]), (51, 0, 0, 0, [])]
/-- InterlockBoard.placeOfFault()I -/
def p_c_X4_placeOfFault : List pI := [(0, 0, 0, 0, []), (3, 1, 0, 0, []), (0, 0, 0, 0, []), (3, 2, 0, 0, []), (1, 2, 0, 0, []), (2, 0, 0, 0, []), (18, 4, 5, 0, [33]), (18, 3, 1, 0, [244]), (31, 3, 29, 0, []), (2, 0, 0, 0, []), (18, 4, 5, 0, [33]), (18, 3, 0, 0, [254]), (1, 2, 0, 0, []), (13, 0, 11, 0, []), (0, 1, 0, 59, []), (31, 1, 27, 0, []), (2, 0, 0, 0, []), (1, 1, 0, 0, []), (1, 2, 0, 0, []), (41, 93, 3, 0, [264]), (32, 0, 23, 0, []), (1, 1, 0, 0, []), (51, 0, 0, 0, []), (1, 2, 0, 0, []), (0, 0, 0, 1, []), (6, 0, 0, 0, []), (3, 1, 0, 0, []), (5, 2, 0, 1, []), (30, 0, 4, 0, []), (1, 1, 0, 0, []), (2, 0, 0, 0, []), (18, 4, 5, 0, [33]), (18, 3, 1, 0, [244]), (31, 3, 36, 0, []), (1, 1, 0, 0, []), (30, 0, 37, 0, []), (0, 0, 0, (-1), []), (51, 0, 0, 0, [])]
/-- InterlockBoard.faultOfRow(II)I -/
def p_c_X4_faultOfRow : List pI := [(2, 0, 0, 0, []), (18, 4, 5, 0, [33]), (1, 1, 0, 0, []), (1, 2, 0, 0, []), (41, 35, 3, 0, [290]), (32, 1, 8, 0, []), (0, 0, 0, 1, []), (51, 0, 0, 0, []), (2, 0, 0, 0, []), (18, 4, 5, 0, [33]), (1, 1, 0, 0, []), (1, 2, 0, 0, []), (41, 38, 3, 0, [293]), (2, 0, 0, 0, []), (18, 4, 0, 0, [10]), (18, 2, 0, 0, [37]), (18, 0, 0, 0, [41]), (31, 2, 20, 0, []), (0, 0, 0, 2, []), (51, 0, 0, 0, []), (2, 0, 0, 0, []), (18, 4, 5, 0, [33]), (1, 1, 0, 0, []), (41, 37, 2, 0, [267]), (3, 3, 0, 0, []), (2, 0, 0, 0, []), (18, 4, 0, 0, [10]), (18, 2, 1, 0, [153]), (18, 1, 0, 0, [157]), (1, 3, 0, 0, []), (40, 79, 2, 0, [67]), (32, 0, 34, 0, []), (0, 0, 0, 3, []), (51, 0, 0, 0, []), (2, 0, 0, 0, []), (18, 4, 0, 0, [10]), (18, 2, 1, 0, [153]), (18, 1, 2, 0, [162]), (1, 3, 0, 0, []), (13, 0, 10, 0, []), (2, 0, 0, 0, []), (18, 4, 5, 0, [33]), (1, 3, 0, 0, []), (1, 1, 0, 0, []), (41, 40, 3, 0, [296]), (6, 0, 0, 0, []), (3, 4, 1, 0, []), (1, 4, 1, 0, []), (0, 0, 0, 4, []), (31, 2, 52, 0, []), (0, 0, 0, 4, []), (30, 0, 53, 0, []), (0, 0, 0, 0, []), (51, 0, 0, 0, [])]
/-- java/lang/Integer.bitCount(I)I -/
def p_c_J6_bitCount_0f7a4 : List pI := [(1, 0, 0, 0, []), (1, 0, 0, 0, []), (0, 0, 0, 1, []), (6, 8, 0, 0, []), (0, 4, 0, 1431655765, [265, 326]), (6, 3, 0, 0, []), (6, 1, 0, 0, []), (3, 0, 0, 0, []), (1, 0, 0, 0, []), (0, 4, 0, 858993459, [266, 327]), (6, 3, 0, 0, []), (1, 0, 0, 0, []), (0, 0, 0, 2, []), (6, 8, 0, 0, []), (0, 4, 0, 858993459, [266, 327]), (6, 3, 0, 0, []), (6, 0, 0, 0, []), (3, 0, 0, 0, []), (1, 0, 0, 0, []), (1, 0, 0, 0, []), (0, 0, 0, 4, []), (6, 8, 0, 0, []), (6, 0, 0, 0, []), (0, 4, 0, 252645135, [267, 328]), (6, 3, 0, 0, []), (3, 0, 0, 0, []), (1, 0, 0, 0, []), (1, 0, 0, 0, []), (0, 1, 0, 8, []), (6, 8, 0, 0, []), (6, 0, 0, 0, []), (3, 0, 0, 0, []), (1, 0, 0, 0, []), (1, 0, 0, 0, []), (0, 1, 0, 16, []), (6, 8, 0, 0, []), (6, 0, 0, 0, []), (3, 0, 0, 0, []), (1, 0, 0, 0, []), (0, 1, 0, 63, []), (6, 3, 0, 0, []), (51, 0, 0, 0, [])]
/-- InterlockBoardLaw.part(II)I -/
def p_c_L_part : List pI := [(1, 0, 0, 0, []), (0, 3, 0, 2147483647, [7, 438]), (6, 3, 0, 0, []), (1, 1, 0, 0, []), (8, 0, 0, 0, []), (51, 0, 0, 0, [])]
/-- InterlockBoardLaw.take([II)I -/
def p_c_L_take : List pI := [(2, 0, 0, 0, []), (17, 0, 0, 0, []), (32, 1, 9, 0, []), (0, 2, 0, 7919, []), (1, 1, 0, 0, []), (6, 2, 0, 0, []), (0, 0, 0, 3, []), (6, 0, 0, 0, []), (30, 0, 30, 0, []), (2, 0, 0, 0, []), (1, 1, 0, 0, []), (2, 0, 0, 0, []), (17, 0, 0, 0, []), (8, 0, 0, 0, []), (13, 0, 10, 0, []), (1, 1, 0, 0, []), (0, 1, 0, 7, []), (8, 0, 0, 0, []), (6, 7, 0, 0, []), (1, 1, 0, 0, []), (2, 0, 0, 0, []), (17, 0, 0, 0, []), (28, 12, 0, 0, []), (0, 1, 0, 31, []), (6, 2, 0, 0, []), (6, 5, 0, 0, []), (1, 1, 0, 0, []), (0, 3, 0, 2654435, [8, 442]), (6, 2, 0, 0, []), (6, 5, 0, 0, []), (51, 0, 0, 0, [])]
/-- InterlockBoardLaw.mixed(JJ)J -/
def p_c_L_mixed : List pI := [(28, 0, 31, 1, [9, 450]), (28, 1, 0, 0, []), (28, 4, 0, 0, []), (28, 1, 2, 0, []), (28, 3, 0, 0, []), (53, 0, 0, 0, [])]
/-- InterlockBoardLaw.state(LInterlockBoard;)J -/
def p_c_L_state : List pI := [(28, 0, 3, 1, [11, 446]), (28, 2, 1, 0, []), (0, 0, 0, 0, []), (3, 3, 0, 0, []), (1, 3, 0, 0, []), (0, 1, 0, 14, []), (31, 3, 16, 0, []), (28, 1, 1, 0, []), (2, 0, 0, 0, []), (1, 3, 0, 0, []), (44, 66, 2, 0, [13]), (28, 8, 0, 0, []), (43, 97, 2, 0, [19]), (28, 2, 1, 0, []), (5, 3, 0, 1, []), (30, 0, 4, 0, []), (0, 0, 0, 0, []), (3, 3, 0, 0, []), (1, 3, 0, 0, []), (0, 1, 0, 12, []), (2, 0, 0, 0, []), (0, 0, 0, 0, []), (41, 66, 2, 0, [13]), (6, 2, 0, 0, []), (31, 3, 39, 0, []), (28, 1, 1, 0, []), (2, 0, 0, 0, []), (1, 3, 0, 0, []), (0, 1, 0, 12, []), (28, 12, 0, 0, []), (1, 3, 0, 0, []), (0, 1, 0, 12, []), (8, 0, 0, 0, []), (44, 46, 3, 0, [25]), (28, 8, 0, 0, []), (43, 97, 2, 0, [19]), (28, 2, 1, 0, []), (5, 3, 0, 1, []), (30, 0, 18, 0, []), (0, 0, 0, 0, []), (3, 3, 0, 0, []), (1, 3, 0, 0, []), (0, 1, 0, 78, []), (31, 3, 58, 0, []), (28, 1, 1, 0, []), (2, 0, 0, 0, []), (1, 3, 0, 0, []), (0, 1, 0, 13, []), (28, 12, 0, 0, []), (1, 3, 0, 0, []), (0, 1, 0, 13, []), (8, 0, 0, 0, []), (44, 60, 3, 0, [29]), (28, 8, 0, 0, []), (43, 97, 2, 0, [19]), (28, 2, 1, 0, []), (5, 3, 0, 1, []), (30, 0, 41, 0, []), (0, 0, 0, 0, []), (3, 3, 0, 0, []), (1, 3, 0, 0, []), (0, 1, 0, 6, []), (31, 3, 82, 0, []), (28, 1, 1, 0, []), (2, 0, 0, 0, []), (1, 3, 0, 0, []), (44, 49, 2, 0, [32]), (28, 8, 0, 0, []), (43, 97, 2, 0, [19]), (2, 0, 0, 0, []), (1, 3, 0, 0, []), (44, 57, 2, 0, [35]), (28, 8, 0, 0, []), (43, 97, 2, 0, [19]), (2, 0, 0, 0, []), (1, 3, 0, 0, []), (44, 63, 2, 0, [38]), (28, 8, 0, 0, []), (43, 97, 2, 0, [19]), (28, 2, 1, 0, []), (5, 3, 0, 1, []), (30, 0, 60, 0, []), (28, 1, 1, 0, []), (53, 0, 0, 0, [])]
/-- InterlockBoardLaw.refusesMotions(LInterlockBoard;)Z -/
def p_c_L_refusesMotions : List pI := [(0, 0, 0, 0, []), (3, 1, 0, 0, []), (1, 1, 0, 0, []), (0, 0, 0, 2, []), (31, 3, 103, 0, []), (1, 1, 0, 0, []), (32, 1, 9, 0, []), (0, 1, 0, 6, []), (30, 0, 10, 0, []), (0, 0, 0, (-1), []), (3, 2, 0, 0, []), (2, 0, 0, 0, []), (1, 2, 0, 0, []), (0, 0, 0, 1, []), (41, 53, 3, 0, [41]), (0, 0, 0, (-1), []), (31, 1, 99, 0, []), (2, 0, 0, 0, []), (1, 2, 0, 0, []), (41, 54, 2, 0, [44]), (0, 0, 0, (-1), []), (31, 1, 99, 0, []), (2, 0, 0, 0, []), (1, 2, 0, 0, []), (0, 0, 0, 0, []), (0, 0, 0, 1, []), (41, 55, 4, 0, [47]), (0, 0, 0, (-1), []), (31, 1, 99, 0, []), (2, 0, 0, 0, []), (0, 0, 0, 0, []), (1, 2, 0, 0, []), (0, 0, 0, 0, []), (41, 55, 4, 0, [47]), (0, 0, 0, (-1), []), (31, 1, 99, 0, []), (2, 0, 0, 0, []), (1, 2, 0, 0, []), (41, 56, 2, 0, [51]), (0, 0, 0, (-1), []), (31, 1, 99, 0, []), (2, 0, 0, 0, []), (1, 2, 0, 0, []), (41, 57, 2, 0, [35]), (0, 0, 0, (-1), []), (31, 1, 99, 0, []), (2, 0, 0, 0, []), (1, 2, 0, 0, []), (41, 58, 2, 0, [54]), (0, 0, 0, (-1), []), (31, 1, 99, 0, []), (2, 0, 0, 0, []), (1, 2, 0, 0, []), (41, 59, 2, 0, [57]), (0, 0, 0, (-1), []), (31, 1, 99, 0, []), (2, 0, 0, 0, []), (1, 2, 0, 0, []), (0, 0, 0, 0, []), (41, 60, 3, 0, [29]), (0, 0, 0, (-1), []), (31, 1, 99, 0, []), (2, 0, 0, 0, []), (1, 2, 0, 0, []), (41, 61, 2, 0, [60]), (0, 0, 0, (-1), []), (31, 1, 99, 0, []), (2, 0, 0, 0, []), (1, 2, 0, 0, []), (41, 62, 2, 0, [63]), (0, 0, 0, (-1), []), (31, 1, 99, 0, []), (2, 0, 0, 0, []), (1, 2, 0, 0, []), (41, 63, 2, 0, [38]), (0, 0, 0, (-1), []), (31, 1, 99, 0, []), (2, 0, 0, 0, []), (1, 2, 0, 0, []), (0, 0, 0, (-1), []), (41, 43, 3, 0, [66]), (0, 0, 0, (-1), []), (31, 1, 99, 0, []), (2, 0, 0, 0, []), (1, 2, 0, 0, []), (41, 49, 2, 0, [32]), (0, 0, 0, (-1), []), (31, 1, 99, 0, []), (2, 0, 0, 0, []), (1, 2, 0, 0, []), (41, 48, 2, 0, [69]), (0, 0, 0, (-1), []), (31, 1, 99, 0, []), (2, 0, 0, 0, []), (1, 2, 0, 0, []), (0, 0, 0, 0, []), (41, 47, 3, 0, [72]), (0, 0, 0, (-1), []), (31, 0, 101, 0, []), (0, 0, 0, 0, []), (52, 0, 0, 0, []), (5, 1, 0, 1, []), (30, 0, 2, 0, []), (0, 0, 0, 1, []), (2, 0, 0, 0, []), (0, 0, 0, 0, []), (41, 66, 2, 0, [13]), (6, 6, 0, 0, []), (0, 0, 0, 1, []), (6, 1, 0, 0, []), (3, 1, 0, 0, []), (2, 0, 0, 0, []), (0, 0, 0, 0, []), (0, 0, 0, 0, []), (41, 53, 3, 0, [41]), (0, 0, 0, (-1), []), (31, 1, 166, 0, []), (2, 0, 0, 0, []), (0, 0, 0, 0, []), (0, 0, 0, (-1), []), (41, 53, 3, 0, [41]), (0, 0, 0, (-1), []), (31, 1, 166, 0, []), (2, 0, 0, 0, []), (0, 0, 0, 0, []), (1, 1, 0, 0, []), (0, 0, 0, 1, []), (6, 0, 0, 0, []), (41, 53, 3, 0, [41]), (0, 0, 0, (-1), []), (31, 1, 166, 0, []), (2, 0, 0, 0, []), (0, 0, 0, 2, []), (0, 0, 0, 2, []), (0, 0, 0, 1, []), (41, 55, 4, 0, [47]), (0, 0, 0, (-1), []), (31, 1, 166, 0, []), (2, 0, 0, 0, []), (0, 0, 0, 0, []), (0, 0, 0, 1, []), (0, 0, 0, 2, []), (41, 55, 4, 0, [47]), (0, 0, 0, (-1), []), (31, 1, 166, 0, []), (2, 0, 0, 0, []), (0, 0, 0, 0, []), (0, 0, 0, 1, []), (0, 0, 0, (-1), []), (41, 55, 4, 0, [47]), (0, 0, 0, (-1), []), (31, 1, 166, 0, []), (2, 0, 0, 0, []), (0, 0, 0, 0, []), (0, 1, 0, 13, []), (41, 60, 3, 0, [29]), (0, 0, 0, (-1), []), (31, 1, 166, 0, []), (2, 0, 0, 0, []), (0, 0, 0, 0, []), (0, 0, 0, (-1), []), (41, 60, 3, 0, [29]), (0, 0, 0, (-1), []), (31, 1, 166, 0, []), (0, 0, 0, 1, []), (30, 0, 167, 0, []), (0, 0, 0, 0, []), (52, 0, 0, 0, [])]
/-- InterlockBoardLaw.refused(LInterlockBoard;)Z -/
def p_c_L_refused : List pI := [(2, 0, 0, 0, []), (40, 98, 1, 0, [75]), (2, 0, 0, 0, []), (0, 1, 0, 14, []), (44, 66, 2, 0, [13]), (28, 8, 0, 0, []), (43, 97, 2, 0, [19]), (2, 0, 0, 0, []), (0, 1, 0, 15, []), (44, 66, 2, 0, [13]), (28, 8, 0, 0, []), (43, 97, 2, 0, [19]), (2, 0, 0, 0, []), (0, 1, 0, 16, []), (44, 66, 2, 0, [13]), (28, 8, 0, 0, []), (43, 97, 2, 0, [19]), (28, 2, 1, 0, []), (2, 0, 0, 0, []), (0, 0, 0, 0, []), (41, 66, 2, 0, [13]), (3, 3, 0, 0, []), (2, 0, 0, 0, []), (40, 99, 1, 0, [79]), (32, 0, 117, 0, []), (2, 0, 0, 0, []), (0, 0, 0, (-1), []), (41, 42, 2, 0, [83]), (0, 0, 0, (-1), []), (31, 1, 117, 0, []), (2, 0, 0, 0, []), (0, 2, 0, 5001, []), (41, 42, 2, 0, [83]), (0, 0, 0, (-1), []), (31, 1, 117, 0, []), (2, 0, 0, 0, []), (0, 0, 0, 0, []), (1, 3, 0, 0, []), (41, 43, 3, 0, [66]), (0, 0, 0, (-1), []), (31, 1, 117, 0, []), (2, 0, 0, 0, []), (0, 0, 0, 0, []), (0, 1, 0, (-2), []), (41, 43, 3, 0, [66]), (0, 0, 0, (-1), []), (31, 1, 117, 0, []), (2, 0, 0, 0, []), (0, 0, 0, (-1), []), (41, 52, 2, 0, [86]), (0, 0, 0, (-1), []), (31, 1, 117, 0, []), (2, 0, 0, 0, []), (0, 0, 0, 3, []), (41, 52, 2, 0, [86]), (0, 1, 0, (-4), []), (31, 1, 117, 0, []), (2, 0, 0, 0, []), (0, 0, 0, 0, []), (41, 65, 2, 0, [89]), (0, 0, 0, (-1), []), (31, 1, 117, 0, []), (2, 0, 0, 0, []), (0, 2, 0, 501, []), (41, 65, 2, 0, [89]), (0, 0, 0, (-1), []), (31, 1, 117, 0, []), (2, 0, 0, 0, []), (0, 0, 0, (-1), []), (41, 66, 2, 0, [13]), (0, 0, 0, (-1), []), (31, 1, 117, 0, []), (2, 0, 0, 0, []), (0, 1, 0, 17, []), (41, 66, 2, 0, [13]), (0, 0, 0, (-1), []), (31, 1, 117, 0, []), (2, 0, 0, 0, []), (0, 0, 0, 2, []), (41, 67, 2, 0, [92]), (0, 0, 0, (-1), []), (31, 1, 117, 0, []), (2, 0, 0, 0, []), (0, 0, 0, (-1), []), (41, 67, 2, 0, [92]), (0, 0, 0, (-1), []), (31, 1, 117, 0, []), (2, 0, 0, 0, []), (0, 0, 0, 2, []), (41, 68, 2, 0, [95]), (0, 0, 0, (-1), []), (31, 1, 117, 0, []), (2, 0, 0, 0, []), (0, 0, 0, (-1), []), (41, 68, 2, 0, [95]), (0, 0, 0, (-1), []), (31, 1, 117, 0, []), (2, 0, 0, 0, []), (0, 1, 0, 31, []), (41, 70, 2, 0, [98]), (0, 0, 0, (-1), []), (31, 1, 117, 0, []), (2, 0, 0, 0, []), (0, 1, 0, 127, []), (41, 70, 2, 0, [98]), (0, 0, 0, (-1), []), (31, 1, 117, 0, []), (2, 0, 0, 0, []), (0, 0, 0, (-1), []), (41, 72, 2, 0, [101]), (0, 0, 0, (-1), []), (31, 1, 117, 0, []), (2, 0, 0, 0, []), (0, 0, 0, 2, []), (41, 72, 2, 0, [101]), (0, 0, 0, (-1), []), (31, 0, 119, 0, []), (0, 0, 0, 0, []), (52, 0, 0, 0, []), (0, 0, 0, 0, []), (3, 4, 1, 0, []), (1, 4, 1, 0, []), (0, 0, 0, 2, []), (31, 3, 174, 0, []), (1, 4, 1, 0, []), (32, 1, 128, 0, []), (1, 3, 0, 0, []), (30, 0, 129, 0, []), (0, 0, 0, (-1), []), (3, 5, 1, 0, []), (2, 0, 0, 0, []), (1, 5, 1, 0, []), (0, 0, 0, 0, []), (41, 44, 3, 0, [104]), (0, 0, 0, (-1), []), (31, 1, 170, 0, []), (2, 0, 0, 0, []), (1, 5, 1, 0, []), (0, 0, 0, 0, []), (41, 45, 3, 0, [107]), (0, 0, 0, (-1), []), (31, 1, 170, 0, []), (2, 0, 0, 0, []), (1, 5, 1, 0, []), (0, 0, 0, 0, []), (41, 46, 3, 0, [25]), (0, 0, 0, (-1), []), (31, 1, 170, 0, []), (2, 0, 0, 0, []), (0, 0, 0, 0, []), (1, 5, 1, 0, []), (41, 47, 3, 0, [72]), (0, 0, 0, (-1), []), (31, 1, 170, 0, []), (2, 0, 0, 0, []), (1, 5, 1, 0, []), (0, 0, 0, 1, []), (41, 50, 3, 0, [110]), (0, 0, 0, (-1), []), (31, 1, 170, 0, []), (2, 0, 0, 0, []), (1, 5, 1, 0, []), (41, 51, 2, 0, [113]), (0, 0, 0, (-1), []), (31, 1, 170, 0, []), (2, 0, 0, 0, []), (1, 5, 1, 0, []), (41, 64, 2, 0, [116]), (0, 0, 0, (-1), []), (31, 0, 172, 0, []), (0, 0, 0, 0, []), (52, 0, 0, 0, []), (5, 4, 0, 1, []), (30, 0, 121, 0, []), (1, 3, 0, 0, []), (32, 5, 226, 0, []), (2, 0, 0, 0, []), (0, 0, 0, 0, []), (0, 0, 0, 2, []), (41, 44, 3, 0, [104]), (0, 0, 0, (-1), []), (31, 1, 224, 0, []), (2, 0, 0, 0, []), (0, 0, 0, 0, []), (0, 0, 0, (-1), []), (41, 44, 3, 0, [104]), (0, 0, 0, (-1), []), (31, 1, 224, 0, []), (2, 0, 0, 0, []), (0, 0, 0, 0, []), (0, 0, 0, 2, []), (41, 45, 3, 0, [107]), (0, 0, 0, (-1), []), (31, 1, 224, 0, []), (2, 0, 0, 0, []), (0, 0, 0, 0, []), (0, 0, 0, (-1), []), (41, 45, 3, 0, [107]), (0, 0, 0, (-1), []), (31, 1, 224, 0, []), (2, 0, 0, 0, []), (0, 0, 0, 0, []), (0, 1, 0, 12, []), (41, 46, 3, 0, [25]), (0, 0, 0, (-1), []), (31, 1, 224, 0, []), (2, 0, 0, 0, []), (0, 0, 0, 0, []), (0, 0, 0, (-1), []), (41, 46, 3, 0, [25]), (0, 0, 0, (-1), []), (31, 1, 224, 0, []), (2, 0, 0, 0, []), (0, 0, 0, 0, []), (0, 0, 0, 0, []), (41, 50, 3, 0, [110]), (0, 0, 0, (-1), []), (31, 1, 224, 0, []), (2, 0, 0, 0, []), (0, 0, 0, 0, []), (0, 2, 0, 501, []), (41, 50, 3, 0, [110]), (0, 0, 0, (-1), []), (31, 0, 226, 0, []), (0, 0, 0, 0, []), (52, 0, 0, 0, []), (2, 0, 0, 0, []), (40, 98, 1, 0, [75]), (2, 0, 0, 0, []), (0, 1, 0, 14, []), (44, 66, 2, 0, [13]), (28, 8, 0, 0, []), (43, 97, 2, 0, [19]), (2, 0, 0, 0, []), (0, 1, 0, 15, []), (44, 66, 2, 0, [13]), (28, 8, 0, 0, []), (43, 97, 2, 0, [19]), (2, 0, 0, 0, []), (0, 1, 0, 16, []), (44, 66, 2, 0, [13]), (28, 8, 0, 0, []), (43, 97, 2, 0, [19]), (28, 1, 1, 0, []), (28, 7, 0, 0, []), (32, 1, 248, 0, []), (0, 0, 0, 1, []), (30, 0, 249, 0, []), (0, 0, 0, 0, []), (52, 0, 0, 0, [])]
/-- InterlockBoardLaw.types(LInterlockBoard;J)V -/
def p_c_L_types : List pI := [(0, 1, 0, 7, []), (3, 3, 0, 0, []), (1, 3, 0, 0, []), (32, 2, 21, 0, []), (28, 1, 1, 0, []), (0, 1, 0, 8, []), (1, 3, 0, 0, []), (6, 2, 0, 0, []), (28, 6, 0, 0, []), (28, 0, 255, 1, [119, 590]), (28, 5, 0, 0, []), (28, 9, 0, 0, []), (3, 4, 1, 0, []), (1, 4, 1, 0, []), (32, 0, 19, 0, []), (2, 0, 0, 0, []), (1, 4, 1, 0, []), (41, 70, 2, 0, [98]), (12, 0, 0, 0, []), (5, 3, 0, (-1), []), (30, 0, 2, 0, []), (50, 0, 0, 0, [])]
/-- InterlockBoardLaw.isFault(LInterlockBoard;JJJII)Z -/
def p_c_L_isFault : List pI := [(2, 0, 0, 0, []), (41, 71, 1, 0, [121]), (12, 0, 0, 0, []), (2, 0, 0, 0, []), (28, 1, 1, 0, []), (43, 101, 2, 0, [125]), (2, 0, 0, 0, []), (28, 1, 3, 0, []), (43, 101, 2, 0, [125]), (2, 0, 0, 0, []), (28, 1, 5, 1, []), (43, 101, 2, 0, [125]), (2, 0, 0, 0, []), (0, 0, 0, 0, []), (41, 72, 2, 0, [101]), (1, 7, 1, 0, []), (31, 1, 24, 0, []), (2, 0, 0, 0, []), (0, 0, 0, 1, []), (41, 72, 2, 0, [101]), (1, 8, 1, 0, []), (31, 1, 24, 0, []), (0, 0, 0, 1, []), (30, 0, 25, 0, []), (0, 0, 0, 0, []), (52, 0, 0, 0, [])]
/-- InterlockBoardLaw.texts()Z -/
def p_c_L_texts : List pI := [(21, 4, 0, 0, [14]), (10, 0, 0, 0, []), (42, 41, 1, 0, [129]), (4, 0, 0, 0, []), (0, 0, 0, 0, []), (3, 1, 0, 0, []), (1, 1, 0, 0, []), (0, 0, 0, 4, []), (31, 3, 15, 0, []), (2, 0, 0, 0, []), (0, 0, 0, 0, []), (41, 42, 2, 0, [83]), (12, 0, 0, 0, []), (5, 1, 0, 1, []), (30, 0, 6, 0, []), (2, 0, 0, 0, []), (0, 0, 0, 0, []), (0, 0, 0, 1, []), (41, 45, 3, 0, [107]), (32, 1, 34, 0, []), (2, 0, 0, 0, []), (0, 0, 0, 4, []), (0, 0, 0, 1, []), (41, 53, 3, 0, [41]), (0, 0, 0, 1, []), (31, 1, 34, 0, []), (2, 0, 0, 0, []), (0, 0, 0, 4, []), (41, 56, 2, 0, [51]), (0, 0, 0, 1, []), (31, 1, 34, 0, []), (2, 0, 0, 0, []), (41, 73, 1, 0, [130]), (32, 0, 36, 0, []), (0, 0, 0, 0, []), (52, 0, 0, 0, []), (2, 0, 0, 0, []), (28, 0, 809120059, 1, [133, 579]), (28, 0, 0, 0, []), (28, 0, 0, 0, []), (0, 1, 0, (-4), []), (0, 1, 0, (-4), []), (43, 102, 6, 0, [135]), (32, 0, 68, 0, []), (2, 0, 0, 0, []), (28, 0, 909783355, 1, [139, 591]), (28, 0, 0, 0, []), (28, 0, 0, 0, []), (0, 0, 0, 0, []), (0, 0, 0, 1, []), (43, 102, 6, 0, [135]), (32, 0, 68, 0, []), (2, 0, 0, 0, []), (28, 0, 809120827, 1, [141, 592]), (28, 0, 0, 0, []), (28, 0, 0, 0, []), (0, 0, 0, 0, []), (0, 0, 0, 2, []), (43, 102, 6, 0, [135]), (32, 0, 68, 0, []), (2, 0, 0, 0, []), (28, 0, 3475144136949904187, 1, [143, 593]), (28, 0, 0, 0, []), (28, 0, 0, 0, []), (0, 1, 0, (-4), []), (0, 1, 0, (-4), []), (43, 102, 6, 0, [135]), (32, 1, 70, 0, []), (0, 0, 0, 0, []), (52, 0, 0, 0, []), (2, 0, 0, 0, []), (28, 0, 3160635, 1, [145, 594]), (28, 0, 0, 0, []), (28, 0, 0, 0, []), (0, 0, 0, 0, []), (0, 0, 0, 1, []), (43, 102, 6, 0, [135]), (32, 0, 102, 0, []), (2, 0, 0, 0, []), (28, 0, 3160625, 1, [147, 595]), (28, 0, 0, 0, []), (28, 0, 0, 0, []), (0, 0, 0, 0, []), (0, 0, 0, 1, []), (43, 102, 6, 0, [135]), (32, 0, 102, 0, []), (2, 0, 0, 0, []), (28, 0, 53026474701115, 1, [149, 596]), (28, 0, 0, 0, []), (28, 0, 0, 0, []), (0, 0, 0, 0, []), (0, 0, 0, 1, []), (43, 102, 6, 0, [135]), (32, 0, 102, 0, []), (2, 0, 0, 0, []), (28, 0, 13574777540063547, 1, [151, 597]), (28, 0, 0, 0, []), (28, 0, 0, 0, []), (0, 1, 0, (-4), []), (0, 1, 0, (-4), []), (43, 102, 6, 0, [135]), (32, 1, 104, 0, []), (0, 0, 0, 0, []), (52, 0, 0, 0, []), (2, 0, 0, 0, []), (28, 0, 3547200687311565614, 1, [153, 598]), (28, 0, 3160952, 1, [155, 599]), (28, 0, 0, 0, []), (0, 1, 0, 10, []), (0, 0, 0, 1, []), (43, 102, 6, 0, [135]), (32, 0, 136, 0, []), (2, 0, 0, 0, []), (28, 0, 3691315875404198203, 1, [157, 600]), (28, 0, 3691318074427454267, 1, [159, 601]), (28, 0, 859451451, 1, [161, 602]), (0, 1, 0, 16, []), (0, 0, 0, 4, []), (43, 102, 6, 0, [135]), (32, 0, 136, 0, []), (2, 0, 0, 0, []), (28, 0, 138248073531, 1, [163, 603]), (28, 0, 0, 0, []), (28, 0, 0, 0, []), (0, 0, 0, 0, []), (0, 0, 0, 1, []), (43, 102, 6, 0, [135]), (32, 0, 136, 0, []), (2, 0, 0, 0, []), (28, 0, 53026491216443, 1, [165, 604]), (28, 0, 0, 0, []), (28, 0, 0, 0, []), (0, 0, 0, 0, []), (0, 0, 0, 1, []), (43, 102, 6, 0, [135]), (32, 1, 138, 0, []), (0, 0, 0, 0, []), (52, 0, 0, 0, []), (2, 0, 0, 0, []), (28, 0, 207135258939, 1, [167, 605]), (28, 0, 0, 0, []), (28, 0, 0, 0, []), (0, 0, 0, 0, []), (0, 0, 0, 2, []), (43, 102, 6, 0, [135]), (32, 0, 170, 0, []), (2, 0, 0, 0, []), (28, 0, 207134731835, 1, [169, 606]), (28, 0, 0, 0, []), (28, 0, 0, 0, []), (0, 0, 0, 0, []), (0, 0, 0, 1, []), (43, 102, 6, 0, [135]), (32, 0, 170, 0, []), (2, 0, 0, 0, []), (28, 0, 0, 0, []), (28, 0, 0, 0, []), (28, 0, 0, 0, []), (0, 1, 0, (-4), []), (0, 1, 0, (-4), []), (43, 102, 6, 0, [135]), (32, 0, 170, 0, []), (2, 0, 0, 0, []), (28, 0, 228609570107, 1, [171, 607]), (28, 0, 0, 0, []), (28, 0, 0, 0, []), (0, 0, 0, 0, []), (0, 0, 0, 2, []), (43, 102, 6, 0, [135]), (32, 1, 172, 0, []), (0, 0, 0, 0, []), (52, 0, 0, 0, []), (2, 0, 0, 0, []), (28, 0, 3475144192818819643, 1, [173, 608]), (28, 0, 893005883, 1, [175, 609]), (28, 0, 0, 0, []), (0, 0, 0, 4, []), (0, 0, 0, 3, []), (43, 102, 6, 0, [135]), (32, 0, 204, 0, []), (2, 0, 0, 0, []), (28, 0, 876230971, 1, [177, 610]), (28, 0, 0, 0, []), (28, 0, 0, 0, []), (0, 0, 0, 0, []), (0, 0, 0, 2, []), (43, 102, 6, 0, [135]), (32, 0, 204, 0, []), (2, 0, 0, 0, []), (28, 0, 876228666, 1, [179, 611]), (28, 0, 0, 0, []), (28, 0, 0, 0, []), (0, 0, 0, 0, []), (0, 0, 0, 1, []), (43, 102, 6, 0, [135]), (32, 0, 204, 0, []), (2, 0, 0, 0, []), (28, 0, 3835431063429723182, 1, [181, 612]), (28, 0, 54130349060155, 1, [183, 613]), (28, 0, 0, 0, []), (0, 0, 0, 4, []), (0, 0, 0, 2, []), (43, 102, 6, 0, [135]), (32, 1, 206, 0, []), (0, 0, 0, 0, []), (52, 0, 0, 0, []), (2, 0, 0, 0, []), (28, 0, 3619261524016312890, 1, [185, 614]), (28, 0, 54074463367483, 1, [187, 615]), (28, 0, 0, 0, []), (0, 1, 0, (-4), []), (0, 1, 0, (-4), []), (43, 102, 6, 0, [135]), (32, 0, 263, 0, []), (2, 0, 0, 0, []), (41, 73, 1, 0, [130]), (0, 0, 0, 2, []), (31, 1, 263, 0, []), (2, 0, 0, 0, []), (0, 0, 0, 2, []), (0, 1, 0, 8, []), (41, 60, 3, 0, [29]), (0, 1, 0, 9, []), (31, 1, 263, 0, []), (2, 0, 0, 0, []), (0, 0, 0, 2, []), (0, 1, 0, 9, []), (41, 60, 3, 0, [29]), (0, 0, 0, 2, []), (31, 1, 263, 0, []), (2, 0, 0, 0, []), (0, 0, 0, 2, []), (0, 1, 0, 10, []), (41, 60, 3, 0, [29]), (0, 1, 0, (-4), []), (31, 1, 263, 0, []), (2, 0, 0, 0, []), (41, 73, 1, 0, [130]), (0, 0, 0, 2, []), (31, 1, 263, 0, []), (2, 0, 0, 0, []), (0, 0, 0, 2, []), (0, 0, 0, 0, []), (41, 60, 3, 0, [29]), (0, 0, 0, 4, []), (31, 1, 263, 0, []), (2, 0, 0, 0, []), (0, 0, 0, 0, []), (41, 72, 2, 0, [101]), (32, 1, 263, 0, []), (2, 0, 0, 0, []), (0, 0, 0, 1, []), (41, 72, 2, 0, [101]), (0, 0, 0, 4, []), (31, 1, 263, 0, []), (2, 0, 0, 0, []), (41, 73, 1, 0, [130]), (0, 1, 0, (-2), []), (31, 1, 263, 0, []), (2, 0, 0, 0, []), (41, 71, 1, 0, [121]), (0, 1, 0, 14, []), (31, 0, 265, 0, []), (0, 0, 0, 0, []), (52, 0, 0, 0, []), (0, 0, 0, 1, []), (3, 1, 0, 0, []), (1, 1, 0, 0, []), (0, 1, 0, 80, []), (31, 4, 279, 0, []), (2, 0, 0, 0, []), (0, 1, 0, 59, []), (41, 70, 2, 0, [98]), (1, 1, 0, 0, []), (31, 0, 277, 0, []), (0, 0, 0, 0, []), (52, 0, 0, 0, []), (5, 1, 0, 1, []), (30, 0, 267, 0, []), (2, 0, 0, 0, []), (0, 1, 0, 59, []), (41, 70, 2, 0, [98]), (0, 1, 0, (-3), []), (31, 1, 300, 0, []), (2, 0, 0, 0, []), (0, 1, 0, 31, []), (41, 70, 2, 0, [98]), (0, 0, 0, (-1), []), (31, 1, 300, 0, []), (2, 0, 0, 0, []), (0, 0, 0, 1, []), (41, 72, 2, 0, [101]), (0, 0, 0, 1, []), (31, 1, 300, 0, []), (2, 0, 0, 0, []), (41, 73, 1, 0, [130]), (0, 1, 0, (-2), []), (31, 1, 300, 0, []), (0, 0, 0, 1, []), (30, 0, 301, 0, []), (0, 0, 0, 0, []), (52, 0, 0, 0, [])]
/-- InterlockBoardLaw.known()Z -/
def p_c_L_known : List pI := [(21, 4, 0, 0, [14]), (10, 0, 0, 0, []), (42, 41, 1, 0, [129]), (4, 0, 0, 0, []), (2, 0, 0, 0, []), (41, 69, 1, 0, [189]), (0, 1, 0, (-2), []), (31, 1, 81, 0, []), (2, 0, 0, 0, []), (0, 0, 0, 0, []), (41, 68, 2, 0, [95]), (0, 1, 0, (-2), []), (31, 1, 81, 0, []), (2, 0, 0, 0, []), (0, 0, 0, 0, []), (41, 63, 2, 0, [38]), (0, 1, 0, (-4), []), (31, 1, 81, 0, []), (2, 0, 0, 0, []), (0, 0, 0, 0, []), (41, 61, 2, 0, [60]), (32, 1, 81, 0, []), (2, 0, 0, 0, []), (0, 0, 0, 0, []), (41, 62, 2, 0, [63]), (32, 1, 81, 0, []), (2, 0, 0, 0, []), (0, 0, 0, 0, []), (41, 57, 2, 0, [35]), (0, 0, 0, 3, []), (31, 1, 81, 0, []), (2, 0, 0, 0, []), (0, 0, 0, 0, []), (41, 42, 2, 0, [83]), (32, 1, 81, 0, []), (2, 0, 0, 0, []), (0, 1, 0, 10, []), (41, 42, 2, 0, [83]), (0, 0, 0, 1, []), (31, 1, 81, 0, []), (2, 0, 0, 0, []), (0, 0, 0, 2, []), (0, 0, 0, 0, []), (41, 43, 3, 0, [66]), (0, 0, 0, 2, []), (31, 1, 81, 0, []), (2, 0, 0, 0, []), (0, 0, 0, 2, []), (0, 0, 0, (-1), []), (41, 43, 3, 0, [66]), (0, 0, 0, 3, []), (31, 1, 81, 0, []), (2, 0, 0, 0, []), (0, 0, 0, 2, []), (0, 1, 0, 10, []), (41, 46, 3, 0, [25]), (0, 0, 0, 2, []), (31, 1, 81, 0, []), (2, 0, 0, 0, []), (0, 0, 0, 2, []), (0, 1, 0, 11, []), (41, 46, 3, 0, [25]), (32, 1, 81, 0, []), (2, 0, 0, 0, []), (0, 0, 0, 3, []), (0, 1, 0, 11, []), (41, 46, 3, 0, [25]), (0, 1, 0, (-4), []), (31, 1, 81, 0, []), (2, 0, 0, 0, []), (0, 0, 0, 0, []), (0, 1, 0, 10, []), (41, 46, 3, 0, [25]), (0, 1, 0, (-4), []), (31, 1, 81, 0, []), (2, 0, 0, 0, []), (0, 0, 0, 0, []), (0, 1, 0, 11, []), (41, 46, 3, 0, [25]), (0, 1, 0, (-4), []), (31, 0, 83, 0, []), (0, 0, 0, 0, []), (52, 0, 0, 0, []), (2, 0, 0, 0, []), (0, 0, 0, 2, []), (0, 0, 0, 2, []), (41, 47, 3, 0, [72]), (0, 0, 0, 1, []), (31, 1, 149, 0, []), (2, 0, 0, 0, []), (0, 0, 0, 2, []), (0, 0, 0, 1, []), (41, 46, 3, 0, [25]), (0, 0, 0, 1, []), (31, 1, 149, 0, []), (2, 0, 0, 0, []), (0, 0, 0, 2, []), (0, 0, 0, 3, []), (41, 47, 3, 0, [72]), (0, 1, 0, (-2), []), (31, 1, 149, 0, []), (2, 0, 0, 0, []), (0, 0, 0, 1, []), (0, 0, 0, 3, []), (41, 47, 3, 0, [72]), (0, 1, 0, (-2), []), (31, 1, 149, 0, []), (2, 0, 0, 0, []), (0, 0, 0, 1, []), (0, 0, 0, 0, []), (41, 47, 3, 0, [72]), (0, 1, 0, (-2), []), (31, 1, 149, 0, []), (2, 0, 0, 0, []), (0, 0, 0, 2, []), (41, 48, 2, 0, [69]), (0, 1, 0, (-2), []), (31, 1, 149, 0, []), (2, 0, 0, 0, []), (0, 0, 0, 1, []), (41, 48, 2, 0, [69]), (0, 1, 0, (-2), []), (31, 1, 149, 0, []), (2, 0, 0, 0, []), (0, 0, 0, 2, []), (0, 0, 0, 0, []), (41, 45, 3, 0, [107]), (0, 1, 0, (-2), []), (31, 1, 149, 0, []), (2, 0, 0, 0, []), (0, 0, 0, 0, []), (0, 0, 0, 1, []), (41, 45, 3, 0, [107]), (32, 1, 149, 0, []), (2, 0, 0, 0, []), (0, 0, 0, 2, []), (41, 48, 2, 0, [69]), (32, 1, 149, 0, []), (2, 0, 0, 0, []), (0, 0, 0, 2, []), (41, 49, 2, 0, [32]), (0, 1, 0, (-4), []), (31, 1, 149, 0, []), (2, 0, 0, 0, []), (0, 0, 0, 2, []), (0, 0, 0, 2, []), (41, 47, 3, 0, [72]), (0, 0, 0, 1, []), (31, 0, 151, 0, []), (0, 0, 0, 0, []), (52, 0, 0, 0, []), (2, 0, 0, 0, []), (0, 0, 0, 0, []), (0, 0, 0, 3, []), (41, 53, 3, 0, [41]), (0, 0, 0, 1, []), (31, 1, 278, 0, []), (2, 0, 0, 0, []), (0, 0, 0, 0, []), (41, 57, 2, 0, [35]), (0, 0, 0, 3, []), (31, 1, 278, 0, []), (2, 0, 0, 0, []), (0, 0, 0, 0, []), (41, 63, 2, 0, [38]), (0, 0, 0, 2, []), (31, 1, 278, 0, []), (2, 0, 0, 0, []), (0, 0, 0, 1, []), (0, 0, 0, 1, []), (41, 45, 3, 0, [107]), (32, 1, 278, 0, []), (2, 0, 0, 0, []), (0, 0, 0, 0, []), (41, 57, 2, 0, [35]), (32, 1, 278, 0, []), (2, 0, 0, 0, []), (0, 0, 0, 0, []), (41, 56, 2, 0, [51]), (0, 0, 0, 1, []), (31, 1, 278, 0, []), (2, 0, 0, 0, []), (0, 0, 0, 0, []), (41, 57, 2, 0, [35]), (0, 0, 0, 1, []), (31, 1, 278, 0, []), (2, 0, 0, 0, []), (0, 0, 0, 0, []), (0, 0, 0, 1, []), (41, 53, 3, 0, [41]), (0, 1, 0, (-2), []), (31, 1, 278, 0, []), (2, 0, 0, 0, []), (0, 0, 0, 0, []), (41, 54, 2, 0, [44]), (0, 1, 0, (-2), []), (31, 1, 278, 0, []), (2, 0, 0, 0, []), (0, 0, 0, 0, []), (41, 59, 2, 0, [57]), (0, 1, 0, (-2), []), (31, 1, 278, 0, []), (2, 0, 0, 0, []), (0, 1, 0, 10, []), (41, 65, 2, 0, [89]), (32, 1, 278, 0, []), (2, 0, 0, 0, []), (0, 0, 0, 0, []), (0, 0, 0, 5, []), (41, 60, 3, 0, [29]), (0, 1, 0, 10, []), (31, 1, 278, 0, []), (2, 0, 0, 0, []), (0, 0, 0, 1, []), (41, 65, 2, 0, [89]), (0, 0, 0, 1, []), (31, 1, 278, 0, []), (2, 0, 0, 0, []), (0, 0, 0, 0, []), (0, 0, 0, 3, []), (41, 60, 3, 0, [29]), (0, 0, 0, 1, []), (31, 1, 278, 0, []), (2, 0, 0, 0, []), (0, 0, 0, 0, []), (0, 0, 0, 4, []), (41, 60, 3, 0, [29]), (0, 1, 0, 11, []), (31, 1, 278, 0, []), (2, 0, 0, 0, []), (0, 0, 0, 0, []), (0, 0, 0, 5, []), (41, 60, 3, 0, [29]), (0, 1, 0, 10, []), (31, 1, 278, 0, []), (2, 0, 0, 0, []), (0, 0, 0, 0, []), (0, 1, 0, 7, []), (41, 60, 3, 0, [29]), (0, 0, 0, 1, []), (31, 1, 278, 0, []), (2, 0, 0, 0, []), (0, 0, 0, 1, []), (0, 0, 0, 4, []), (41, 46, 3, 0, [25]), (0, 0, 0, 1, []), (31, 1, 278, 0, []), (2, 0, 0, 0, []), (0, 0, 0, 1, []), (0, 0, 0, 1, []), (41, 46, 3, 0, [25]), (0, 0, 0, 1, []), (31, 1, 278, 0, []), (2, 0, 0, 0, []), (0, 0, 0, 1, []), (0, 0, 0, 2, []), (41, 46, 3, 0, [25]), (32, 1, 278, 0, []), (2, 0, 0, 0, []), (0, 0, 0, 0, []), (41, 57, 2, 0, [35]), (0, 0, 0, 2, []), (31, 1, 278, 0, []), (2, 0, 0, 0, []), (0, 0, 0, 0, []), (41, 59, 2, 0, [57]), (0, 0, 0, 1, []), (31, 1, 278, 0, []), (2, 0, 0, 0, []), (0, 0, 0, 0, []), (41, 57, 2, 0, [35]), (0, 0, 0, 3, []), (31, 1, 278, 0, []), (2, 0, 0, 0, []), (0, 0, 0, 0, []), (41, 58, 2, 0, [54]), (0, 1, 0, (-2), []), (31, 0, 280, 0, []), (0, 0, 0, 0, []), (52, 0, 0, 0, []), (2, 0, 0, 0, []), (0, 0, 0, 1, []), (41, 64, 2, 0, [116]), (0, 1, 0, 31, []), (31, 1, 387, 0, []), (2, 0, 0, 0, []), (0, 0, 0, 1, []), (41, 64, 2, 0, [116]), (0, 1, 0, (-2), []), (31, 1, 387, 0, []), (2, 0, 0, 0, []), (0, 0, 0, 2, []), (41, 64, 2, 0, [116]), (0, 1, 0, (-2), []), (31, 1, 387, 0, []), (2, 0, 0, 0, []), (0, 0, 0, 1, []), (0, 1, 0, 9, []), (41, 46, 3, 0, [25]), (0, 0, 0, 1, []), (31, 1, 387, 0, []), (2, 0, 0, 0, []), (0, 0, 0, 1, []), (0, 0, 0, 0, []), (41, 45, 3, 0, [107]), (32, 1, 387, 0, []), (2, 0, 0, 0, []), (0, 0, 0, 1, []), (0, 1, 0, 9, []), (41, 46, 3, 0, [25]), (0, 0, 0, 2, []), (31, 1, 387, 0, []), (2, 0, 0, 0, []), (0, 1, 0, 20, []), (41, 65, 2, 0, [89]), (32, 1, 387, 0, []), (2, 0, 0, 0, []), (0, 0, 0, 1, []), (0, 0, 0, 1, []), (41, 45, 3, 0, [107]), (32, 1, 387, 0, []), (2, 0, 0, 0, []), (0, 0, 0, 1, []), (0, 1, 0, 9, []), (41, 46, 3, 0, [25]), (32, 1, 387, 0, []), (2, 0, 0, 0, []), (0, 0, 0, 1, []), (0, 1, 0, 6, []), (41, 46, 3, 0, [25]), (0, 1, 0, 31, []), (31, 1, 387, 0, []), (2, 0, 0, 0, []), (0, 1, 0, 13, []), (41, 66, 2, 0, [13]), (0, 0, 0, 1, []), (31, 1, 387, 0, []), (2, 0, 0, 0, []), (0, 0, 0, 0, []), (41, 57, 2, 0, [35]), (32, 1, 387, 0, []), (2, 0, 0, 0, []), (0, 0, 0, 1, []), (41, 64, 2, 0, [116]), (0, 1, 0, 51, []), (31, 1, 387, 0, []), (2, 0, 0, 0, []), (0, 0, 0, 1, []), (0, 0, 0, 0, []), (41, 45, 3, 0, [107]), (32, 1, 387, 0, []), (2, 0, 0, 0, []), (0, 0, 0, 1, []), (41, 64, 2, 0, [116]), (0, 1, 0, (-2), []), (31, 1, 387, 0, []), (2, 0, 0, 0, []), (0, 1, 0, 21, []), (41, 65, 2, 0, [89]), (32, 1, 387, 0, []), (2, 0, 0, 0, []), (0, 0, 0, 1, []), (0, 1, 0, 9, []), (41, 46, 3, 0, [25]), (32, 1, 387, 0, []), (2, 0, 0, 0, []), (0, 0, 0, 1, []), (0, 0, 0, 1, []), (41, 45, 3, 0, [107]), (32, 1, 387, 0, []), (2, 0, 0, 0, []), (0, 0, 0, 1, []), (0, 1, 0, 6, []), (41, 46, 3, 0, [25]), (0, 1, 0, 31, []), (31, 1, 387, 0, []), (2, 0, 0, 0, []), (0, 0, 0, 1, []), (0, 0, 0, 4, []), (41, 46, 3, 0, [25]), (0, 0, 0, 1, []), (31, 1, 387, 0, []), (2, 0, 0, 0, []), (0, 1, 0, 13, []), (41, 66, 2, 0, [13]), (0, 0, 0, 1, []), (31, 0, 389, 0, []), (0, 0, 0, 0, []), (52, 0, 0, 0, []), (2, 0, 0, 0, []), (0, 0, 0, 1, []), (0, 0, 0, 5, []), (41, 50, 3, 0, [110]), (0, 0, 0, 1, []), (31, 1, 508, 0, []), (2, 0, 0, 0, []), (0, 0, 0, 0, []), (41, 57, 2, 0, [35]), (32, 1, 508, 0, []), (2, 0, 0, 0, []), (0, 0, 0, 0, []), (41, 56, 2, 0, [51]), (0, 0, 0, 1, []), (31, 1, 508, 0, []), (2, 0, 0, 0, []), (0, 0, 0, 1, []), (0, 1, 0, 7, []), (41, 46, 3, 0, [25]), (0, 0, 0, 5, []), (31, 1, 508, 0, []), (2, 0, 0, 0, []), (0, 0, 0, 0, []), (41, 52, 2, 0, [86]), (0, 0, 0, 1, []), (31, 1, 508, 0, []), (2, 0, 0, 0, []), (0, 0, 0, 1, []), (41, 52, 2, 0, [86]), (0, 1, 0, (-4), []), (31, 1, 508, 0, []), (2, 0, 0, 0, []), (0, 0, 0, 1, []), (0, 0, 0, 1, []), (41, 44, 3, 0, [104]), (0, 1, 0, (-2), []), (31, 1, 508, 0, []), (2, 0, 0, 0, []), (0, 0, 0, 1, []), (0, 0, 0, 5, []), (41, 50, 3, 0, [110]), (0, 1, 0, (-2), []), (31, 1, 508, 0, []), (2, 0, 0, 0, []), (0, 0, 0, 4, []), (41, 65, 2, 0, [89]), (32, 1, 508, 0, []), (2, 0, 0, 0, []), (0, 0, 0, 1, []), (0, 1, 0, 7, []), (41, 46, 3, 0, [25]), (0, 0, 0, 1, []), (31, 1, 508, 0, []), (2, 0, 0, 0, []), (0, 0, 0, 1, []), (41, 65, 2, 0, [89]), (0, 0, 0, 1, []), (31, 1, 508, 0, []), (2, 0, 0, 0, []), (0, 0, 0, 1, []), (0, 1, 0, 8, []), (41, 46, 3, 0, [25]), (0, 0, 0, 5, []), (31, 1, 508, 0, []), (2, 0, 0, 0, []), (0, 0, 0, 1, []), (0, 1, 0, 7, []), (41, 46, 3, 0, [25]), (32, 1, 508, 0, []), (2, 0, 0, 0, []), (0, 1, 0, 12, []), (41, 66, 2, 0, [13]), (0, 0, 0, 5, []), (31, 1, 508, 0, []), (2, 0, 0, 0, []), (0, 0, 0, 0, []), (0, 0, 0, 3, []), (41, 60, 3, 0, [29]), (0, 0, 0, 1, []), (31, 1, 508, 0, []), (2, 0, 0, 0, []), (0, 0, 0, 0, []), (0, 0, 0, 5, []), (41, 60, 3, 0, [29]), (0, 1, 0, 14, []), (31, 1, 508, 0, []), (2, 0, 0, 0, []), (0, 0, 0, 0, []), (0, 1, 0, 6, []), (41, 60, 3, 0, [29]), (0, 0, 0, 2, []), (31, 1, 508, 0, []), (2, 0, 0, 0, []), (0, 0, 0, 1, []), (41, 51, 2, 0, [113]), (0, 1, 0, (-2), []), (31, 1, 508, 0, []), (2, 0, 0, 0, []), (0, 0, 0, 0, []), (41, 59, 2, 0, [57]), (0, 0, 0, 1, []), (31, 1, 508, 0, []), (2, 0, 0, 0, []), (0, 0, 0, 1, []), (0, 0, 0, 1, []), (41, 44, 3, 0, [104]), (32, 1, 508, 0, []), (2, 0, 0, 0, []), (0, 0, 0, 1, []), (0, 0, 0, 5, []), (41, 50, 3, 0, [110]), (0, 1, 0, (-2), []), (31, 1, 508, 0, []), (2, 0, 0, 0, []), (0, 0, 0, 1, []), (0, 0, 0, 0, []), (41, 44, 3, 0, [104]), (0, 0, 0, 1, []), (31, 0, 510, 0, []), (0, 0, 0, 0, []), (52, 0, 0, 0, []), (2, 0, 0, 0, []), (0, 0, 0, 2, []), (41, 48, 2, 0, [69]), (32, 1, 603, 0, []), (2, 0, 0, 0, []), (0, 0, 0, 2, []), (0, 0, 0, 3, []), (41, 47, 3, 0, [72]), (0, 0, 0, 1, []), (31, 1, 603, 0, []), (2, 0, 0, 0, []), (0, 0, 0, 1, []), (0, 0, 0, 1, []), (41, 53, 3, 0, [41]), (0, 0, 0, 1, []), (31, 1, 603, 0, []), (2, 0, 0, 0, []), (0, 0, 0, 1, []), (0, 1, 0, 8, []), (41, 53, 3, 0, [41]), (0, 0, 0, 2, []), (31, 1, 603, 0, []), (2, 0, 0, 0, []), (0, 0, 0, 1, []), (41, 56, 2, 0, [51]), (0, 0, 0, 1, []), (31, 1, 603, 0, []), (2, 0, 0, 0, []), (0, 0, 0, 0, []), (0, 0, 0, 0, []), (41, 45, 3, 0, [107]), (32, 1, 603, 0, []), (2, 0, 0, 0, []), (0, 0, 0, 2, []), (41, 48, 2, 0, [69]), (0, 0, 0, 1, []), (31, 1, 603, 0, []), (2, 0, 0, 0, []), (0, 0, 0, 1, []), (0, 0, 0, 3, []), (41, 60, 3, 0, [29]), (0, 0, 0, 3, []), (31, 1, 603, 0, []), (2, 0, 0, 0, []), (0, 0, 0, 1, []), (41, 61, 2, 0, [60]), (0, 0, 0, 3, []), (31, 1, 603, 0, []), (2, 0, 0, 0, []), (0, 0, 0, 1, []), (41, 62, 2, 0, [63]), (0, 0, 0, 3, []), (31, 1, 603, 0, []), (2, 0, 0, 0, []), (0, 0, 0, 0, []), (41, 61, 2, 0, [60]), (0, 0, 0, 1, []), (31, 1, 603, 0, []), (2, 0, 0, 0, []), (0, 0, 0, 0, []), (41, 62, 2, 0, [63]), (0, 0, 0, 1, []), (31, 1, 603, 0, []), (2, 0, 0, 0, []), (0, 0, 0, 0, []), (0, 0, 0, 1, []), (0, 0, 0, 1, []), (41, 55, 4, 0, [47]), (32, 1, 603, 0, []), (2, 0, 0, 0, []), (0, 0, 0, 0, []), (0, 1, 0, 12, []), (41, 60, 3, 0, [29]), (0, 0, 0, 2, []), (31, 1, 603, 0, []), (2, 0, 0, 0, []), (0, 0, 0, 1, []), (0, 1, 0, 12, []), (41, 60, 3, 0, [29]), (0, 0, 0, 1, []), (31, 1, 603, 0, []), (2, 0, 0, 0, []), (0, 0, 0, 1, []), (0, 0, 0, 0, []), (0, 0, 0, 0, []), (41, 55, 4, 0, [47]), (0, 0, 0, 1, []), (31, 1, 603, 0, []), (2, 0, 0, 0, []), (0, 0, 0, 0, []), (0, 1, 0, 12, []), (41, 60, 3, 0, [29]), (32, 0, 605, 0, []), (0, 0, 0, 0, []), (52, 0, 0, 0, []), (2, 0, 0, 0, []), (0, 0, 0, 3, []), (0, 1, 0, 9, []), (41, 50, 3, 0, [110]), (0, 0, 0, 1, []), (31, 1, 704, 0, []), (2, 0, 0, 0, []), (0, 0, 0, 0, []), (0, 1, 0, 9, []), (41, 50, 3, 0, [110]), (0, 0, 0, 2, []), (31, 1, 704, 0, []), (2, 0, 0, 0, []), (0, 0, 0, 1, []), (0, 0, 0, 4, []), (41, 50, 3, 0, [110]), (0, 0, 0, 3, []), (31, 1, 704, 0, []), (2, 0, 0, 0, []), (0, 0, 0, 2, []), (0, 0, 0, 1, []), (41, 50, 3, 0, [110]), (0, 1, 0, (-3), []), (31, 1, 704, 0, []), (2, 0, 0, 0, []), (0, 0, 0, 0, []), (41, 52, 2, 0, [86]), (0, 0, 0, 1, []), (31, 1, 704, 0, []), (2, 0, 0, 0, []), (0, 0, 0, 1, []), (41, 52, 2, 0, [86]), (32, 1, 704, 0, []), (2, 0, 0, 0, []), (0, 0, 0, 2, []), (41, 52, 2, 0, [86]), (0, 0, 0, 3, []), (31, 1, 704, 0, []), (2, 0, 0, 0, []), (0, 0, 0, 0, []), (41, 56, 2, 0, [51]), (0, 0, 0, 1, []), (31, 1, 704, 0, []), (2, 0, 0, 0, []), (0, 0, 0, 0, []), (0, 0, 0, 1, []), (0, 0, 0, 1, []), (41, 55, 4, 0, [47]), (32, 1, 704, 0, []), (2, 0, 0, 0, []), (0, 0, 0, 1, []), (41, 57, 2, 0, [35]), (0, 0, 0, 2, []), (31, 1, 704, 0, []), (2, 0, 0, 0, []), (0, 0, 0, 1, []), (41, 59, 2, 0, [57]), (0, 0, 0, 3, []), (31, 1, 704, 0, []), (2, 0, 0, 0, []), (0, 0, 0, 1, []), (41, 57, 2, 0, [35]), (0, 0, 0, 4, []), (31, 1, 704, 0, []), (2, 0, 0, 0, []), (0, 0, 0, 1, []), (41, 56, 2, 0, [51]), (0, 1, 0, (-2), []), (31, 1, 704, 0, []), (2, 0, 0, 0, []), (0, 0, 0, 3, []), (41, 65, 2, 0, [89]), (32, 1, 704, 0, []), (2, 0, 0, 0, []), (0, 0, 0, 0, []), (41, 58, 2, 0, [54]), (0, 0, 0, 3, []), (31, 1, 704, 0, []), (2, 0, 0, 0, []), (0, 0, 0, 1, []), (41, 57, 2, 0, [35]), (32, 1, 704, 0, []), (2, 0, 0, 0, []), (0, 0, 0, 1, []), (41, 56, 2, 0, [51]), (0, 0, 0, 1, []), (31, 1, 704, 0, []), (2, 0, 0, 0, []), (0, 0, 0, 0, []), (0, 0, 0, 1, []), (0, 0, 0, 0, []), (41, 55, 4, 0, [47]), (0, 0, 0, 1, []), (31, 1, 704, 0, []), (2, 0, 0, 0, []), (0, 0, 0, 0, []), (41, 56, 2, 0, [51]), (0, 0, 0, 2, []), (31, 0, 706, 0, []), (0, 0, 0, 0, []), (52, 0, 0, 0, []), (2, 0, 0, 0, []), (0, 0, 0, 0, []), (0, 0, 0, 1, []), (0, 0, 0, 1, []), (41, 55, 4, 0, [47]), (0, 1, 0, (-2), []), (31, 1, 737, 0, []), (2, 0, 0, 0, []), (0, 0, 0, 1, []), (41, 51, 2, 0, [113]), (0, 0, 0, 1, []), (31, 1, 737, 0, []), (2, 0, 0, 0, []), (0, 0, 0, 0, []), (0, 0, 0, 3, []), (41, 60, 3, 0, [29]), (0, 0, 0, 1, []), (31, 1, 737, 0, []), (2, 0, 0, 0, []), (0, 0, 0, 1, []), (0, 0, 0, 2, []), (41, 60, 3, 0, [29]), (0, 0, 0, 1, []), (31, 1, 737, 0, []), (2, 0, 0, 0, []), (0, 0, 0, 5, []), (41, 66, 2, 0, [13]), (0, 0, 0, 1, []), (31, 1, 737, 0, []), (0, 0, 0, 1, []), (30, 0, 738, 0, []), (0, 0, 0, 0, []), (52, 0, 0, 0, [])]
/-- InterlockBoardLaw.law([I)Z -/
def p_c_L_law : List pI := [(21, 4, 0, 0, [14]), (10, 0, 0, 0, []), (42, 41, 1, 0, [129]), (4, 1, 0, 0, []), (2, 1, 0, 0, []), (40, 100, 1, 0, [192]), (32, 0, 11, 0, []), (40, 103, 0, 0, [195]), (32, 0, 11, 0, []), (40, 104, 0, 0, [199]), (32, 1, 13, 0, []), (0, 0, 0, 0, []), (52, 0, 0, 0, []), (0, 0, 0, 0, []), (3, 2, 0, 0, []), (1, 2, 0, 0, []), (0, 1, 0, 16, []), (31, 3, 61, 0, []), (2, 0, 0, 0, []), (1, 2, 0, 0, []), (40, 96, 2, 0, [202]), (3, 3, 0, 0, []), (1, 2, 0, 0, []), (0, 0, 0, 4, []), (8, 0, 0, 0, []), (0, 0, 0, 3, []), (31, 1, 42, 0, []), (2, 1, 0, 0, []), (1, 3, 0, 0, []), (0, 1, 0, 6, []), (40, 95, 2, 0, [206]), (1, 3, 0, 0, []), (0, 0, 0, 3, []), (6, 7, 0, 0, []), (1, 2, 0, 0, []), (0, 0, 0, 1, []), (6, 0, 0, 0, []), (40, 95, 2, 0, [206]), (0, 0, 0, 1, []), (6, 1, 0, 0, []), (41, 43, 3, 0, [66]), (30, 0, 55, 0, []), (2, 1, 0, 0, []), (1, 3, 0, 0, []), (0, 0, 0, 3, []), (40, 95, 2, 0, [206]), (32, 1, 49, 0, []), (0, 0, 0, 0, []), (30, 0, 54, 0, []), (1, 3, 0, 0, []), (0, 0, 0, 4, []), (6, 7, 0, 0, []), (0, 1, 0, 60, []), (40, 95, 2, 0, [206]), (41, 42, 2, 0, [83]), (1, 2, 0, 0, []), (31, 0, 59, 0, []), (0, 0, 0, 0, []), (52, 0, 0, 0, []), (5, 2, 0, 1, []), (30, 0, 15, 0, []), (2, 1, 0, 0, []), (0, 0, 0, 0, []), (41, 42, 2, 0, [83]), (0, 1, 0, (-3), []), (31, 1, 86, 0, []), (2, 1, 0, 0, []), (0, 0, 0, (-1), []), (41, 42, 2, 0, [83]), (0, 0, 0, (-1), []), (31, 1, 86, 0, []), (2, 1, 0, 0, []), (0, 0, 0, 0, []), (0, 1, 0, 16, []), (41, 43, 3, 0, [66]), (0, 0, 0, (-1), []), (31, 1, 86, 0, []), (2, 1, 0, 0, []), (0, 0, 0, 0, []), (0, 1, 0, 15, []), (41, 43, 3, 0, [66]), (0, 1, 0, (-3), []), (31, 1, 86, 0, []), (2, 1, 0, 0, []), (40, 100, 1, 0, [192]), (32, 1, 88, 0, []), (0, 0, 0, 0, []), (52, 0, 0, 0, []), (0, 0, 0, 0, []), (3, 2, 0, 0, []), (1, 2, 0, 0, []), (0, 1, 0, 18, []), (31, 3, 119, 0, []), (2, 1, 0, 0, []), (1, 2, 0, 0, []), (0, 1, 0, 6, []), (8, 0, 0, 0, []), (0, 0, 0, 1, []), (2, 0, 0, 0, []), (0, 1, 0, 20, []), (1, 2, 0, 0, []), (6, 0, 0, 0, []), (40, 96, 2, 0, [202]), (0, 3, 0, 65535, [209, 619]), (40, 95, 2, 0, [206]), (6, 0, 0, 0, []), (41, 53, 3, 0, [41]), (3, 3, 0, 0, []), (1, 3, 0, 0, []), (0, 0, 0, 1, []), (1, 2, 0, 0, []), (0, 1, 0, 6, []), (28, 12, 0, 0, []), (6, 0, 0, 0, []), (31, 0, 117, 0, []), (0, 0, 0, 0, []), (52, 0, 0, 0, []), (5, 2, 0, 1, []), (30, 0, 90, 0, []), (2, 1, 0, 0, []), (0, 0, 0, 0, []), (0, 3, 0, 65535, [209, 619]), (41, 53, 3, 0, [41]), (0, 0, 0, 4, []), (31, 1, 158, 0, []), (2, 1, 0, 0, []), (0, 0, 0, 0, []), (0, 0, 0, 1, []), (41, 53, 3, 0, [41]), (0, 1, 0, (-3), []), (31, 1, 158, 0, []), (2, 1, 0, 0, []), (0, 0, 0, 0, []), (0, 3, 0, 65536, [210, 620]), (41, 53, 3, 0, [41]), (0, 0, 0, (-1), []), (31, 1, 158, 0, []), (2, 1, 0, 0, []), (0, 0, 0, 0, []), (41, 61, 2, 0, [60]), (0, 1, 0, (-3), []), (31, 1, 158, 0, []), (2, 1, 0, 0, []), (0, 0, 0, 0, []), (41, 62, 2, 0, [63]), (0, 1, 0, (-3), []), (31, 1, 158, 0, []), (2, 1, 0, 0, []), (0, 0, 0, 0, []), (41, 54, 2, 0, [44]), (0, 0, 0, 4, []), (31, 1, 158, 0, []), (2, 1, 0, 0, []), (0, 0, 0, 0, []), (0, 0, 0, 1, []), (41, 53, 3, 0, [41]), (0, 0, 0, 1, []), (31, 0, 160, 0, []), (0, 0, 0, 0, []), (52, 0, 0, 0, []), (0, 1, 0, 40, []), (22, 12, 0, 0, []), (4, 2, 0, 0, []), (0, 0, 0, 0, []), (3, 3, 0, 0, []), (28, 0, 0, 0, []), (28, 2, 4, 1, []), (0, 0, 0, 0, []), (3, 6, 1, 0, []), (1, 6, 1, 0, []), (0, 1, 0, 36, []), (31, 3, 320, 0, []), (2, 0, 0, 0, []), (0, 1, 0, 40, []), (1, 6, 1, 0, []), (6, 0, 0, 0, []), (40, 96, 2, 0, [202]), (3, 7, 1, 0, []), (1, 7, 1, 0, []), (0, 0, 0, 3, []), (6, 7, 0, 0, []), (0, 1, 0, 16, []), (40, 95, 2, 0, [206]), (3, 8, 1, 0, []), (1, 7, 1, 0, []), (0, 1, 0, 9, []), (40, 95, 2, 0, [206]), (3, 9, 1, 0, []), (2, 2, 0, 0, []), (1, 3, 0, 0, []), (2, 1, 0, 0, []), (40, 98, 1, 0, [75]), (28, 11, 0, 0, []), (1, 6, 1, 0, []), (0, 1, 0, 9, []), (31, 1, 212, 0, []), (2, 2, 0, 0, []), (1, 3, 0, 0, []), (28, 10, 0, 0, []), (28, 2, 4, 1, []), (2, 1, 0, 0, []), (0, 0, 0, 1, []), (41, 67, 2, 0, [92]), (0, 0, 0, 1, []), (31, 1, 210, 0, []), (2, 1, 0, 0, []), (0, 1, 0, 16, []), (41, 66, 2, 0, [13]), (0, 0, 0, 1, []), (31, 0, 212, 0, []), (0, 0, 0, 0, []), (52, 0, 0, 0, []), (1, 9, 1, 0, []), (0, 0, 0, 3, []), (31, 3, 228, 0, []), (2, 1, 0, 0, []), (1, 8, 1, 0, []), (1, 7, 1, 0, []), (0, 1, 0, 8, []), (6, 7, 0, 0, []), (0, 0, 0, 4, []), (40, 95, 2, 0, [206]), (32, 1, 225, 0, []), (0, 0, 0, 0, []), (30, 0, 226, 0, []), (0, 0, 0, 1, []), (41, 45, 3, 0, [107]), (30, 0, 292, 0, []), (1, 9, 1, 0, []), (0, 0, 0, 3, []), (31, 1, 242, 0, []), (2, 1, 0, 0, []), (1, 8, 1, 0, []), (0, 0, 0, 1, []), (1, 7, 1, 0, []), (0, 1, 0, 7, []), (6, 7, 0, 0, []), (0, 1, 0, 40, []), (40, 95, 2, 0, [206]), (6, 0, 0, 0, []), (41, 50, 3, 0, [110]), (30, 0, 292, 0, []), (1, 9, 1, 0, []), (0, 0, 0, 4, []), (31, 1, 255, 0, []), (2, 1, 0, 0, []), (0, 0, 0, 1, []), (1, 7, 1, 0, []), (0, 1, 0, 7, []), (6, 7, 0, 0, []), (0, 1, 0, 20, []), (40, 95, 2, 0, [206]), (6, 0, 0, 0, []), (41, 65, 2, 0, [89]), (30, 0, 292, 0, []), (1, 9, 1, 0, []), (0, 0, 0, 5, []), (31, 1, 266, 0, []), (2, 1, 0, 0, []), (1, 7, 1, 0, []), (0, 1, 0, 7, []), (6, 7, 0, 0, []), (0, 1, 0, 6, []), (40, 95, 2, 0, [206]), (41, 56, 2, 0, [51]), (30, 0, 292, 0, []), (1, 9, 1, 0, []), (0, 1, 0, 6, []), (31, 1, 273, 0, []), (2, 1, 0, 0, []), (1, 8, 1, 0, []), (41, 64, 2, 0, [116]), (30, 0, 292, 0, []), (1, 9, 1, 0, []), (0, 1, 0, 7, []), (31, 1, 285, 0, []), (2, 1, 0, 0, []), (1, 7, 1, 0, []), (0, 1, 0, 7, []), (6, 7, 0, 0, []), (0, 1, 0, 6, []), (40, 95, 2, 0, [206]), (1, 8, 1, 0, []), (41, 47, 3, 0, [72]), (30, 0, 292, 0, []), (2, 1, 0, 0, []), (1, 7, 1, 0, []), (0, 1, 0, 7, []), (6, 7, 0, 0, []), (0, 1, 0, 6, []), (40, 95, 2, 0, [206]), (41, 59, 2, 0, [57]), (3, 10, 1, 0, []), (1, 3, 0, 0, []), (1, 10, 1, 0, []), (32, 2, 298, 0, []), (0, 0, 0, 1, []), (30, 0, 299, 0, []), (0, 0, 0, 0, []), (6, 0, 0, 0, []), (3, 3, 0, 0, []), (1, 10, 1, 0, []), (32, 3, 310, 0, []), (2, 1, 0, 0, []), (40, 98, 1, 0, [75]), (2, 2, 0, 0, []), (1, 3, 0, 0, []), (28, 10, 0, 0, []), (28, 7, 0, 0, []), (32, 1, 316, 0, []), (2, 1, 0, 0, []), (40, 98, 1, 0, [75]), (2, 1, 0, 0, []), (43, 98, 1, 0, [75]), (28, 7, 0, 0, []), (32, 0, 318, 0, []), (0, 0, 0, 0, []), (52, 0, 0, 0, []), (5, 6, 0, 1, []), (30, 0, 169, 0, []), (2, 1, 0, 0, []), (40, 100, 1, 0, [192]), (32, 1, 325, 0, []), (0, 0, 0, 0, []), (52, 0, 0, 0, []), (2, 2, 0, 0, []), (1, 3, 0, 0, []), (2, 1, 0, 0, []), (40, 98, 1, 0, [75]), (28, 11, 0, 0, []), (2, 1, 0, 0, []), (0, 0, 0, 0, []), (41, 68, 2, 0, [95]), (0, 1, 0, (-2), []), (31, 1, 358, 0, []), (2, 1, 0, 0, []), (0, 0, 0, 1, []), (41, 68, 2, 0, [95]), (2, 1, 0, 0, []), (0, 1, 0, 8, []), (41, 66, 2, 0, [13]), (31, 1, 358, 0, []), (2, 1, 0, 0, []), (40, 98, 1, 0, [75]), (28, 1, 4, 1, []), (28, 7, 0, 0, []), (32, 1, 358, 0, []), (2, 1, 0, 0, []), (0, 1, 0, 14, []), (41, 66, 2, 0, [13]), (1, 3, 0, 0, []), (32, 5, 354, 0, []), (0, 0, 0, 4, []), (30, 0, 357, 0, []), (2, 1, 0, 0, []), (0, 1, 0, 14, []), (41, 66, 2, 0, [13]), (31, 0, 360, 0, []), (0, 0, 0, 0, []), (52, 0, 0, 0, []), (2, 1, 0, 0, []), (41, 69, 1, 0, [189]), (0, 0, 0, 3, []), (31, 1, 371, 0, []), (2, 1, 0, 0, []), (40, 98, 1, 0, [75]), (2, 2, 0, 0, []), (1, 3, 0, 0, []), (28, 10, 0, 0, []), (28, 7, 0, 0, []), (32, 0, 373, 0, []), (0, 0, 0, 0, []), (52, 0, 0, 0, []), (0, 0, 0, 1, []), (3, 6, 1, 0, []), (1, 6, 1, 0, []), (0, 0, 0, 3, []), (31, 4, 400, 0, []), (1, 6, 1, 0, []), (1, 3, 0, 0, []), (31, 4, 400, 0, []), (2, 1, 0, 0, []), (41, 69, 1, 0, [189]), (0, 0, 0, 3, []), (1, 6, 1, 0, []), (6, 1, 0, 0, []), (31, 1, 396, 0, []), (2, 1, 0, 0, []), (40, 98, 1, 0, [75]), (2, 2, 0, 0, []), (1, 3, 0, 0, []), (1, 6, 1, 0, []), (6, 1, 0, 0, []), (28, 10, 0, 0, []), (28, 7, 0, 0, []), (32, 0, 398, 0, []), (0, 0, 0, 0, []), (52, 0, 0, 0, []), (5, 6, 0, 1, []), (30, 0, 375, 0, []), (1, 3, 0, 0, []), (0, 0, 0, 3, []), (31, 2, 407, 0, []), (2, 1, 0, 0, []), (41, 69, 1, 0, [189]), (0, 1, 0, (-2), []), (31, 1, 409, 0, []), (0, 0, 0, 1, []), (30, 0, 410, 0, []), (0, 0, 0, 0, []), (52, 0, 0, 0, [])]
def p_cds : List (List pI) := [p_c_X0_init, p_c_X0_copyFrom, p_c_X0_add, p_c_X0_all, p_c_X0_isLock, p_c_X0_overdueOnes, p_c_X0_bridgedOnes, p_c_X0_countingAsClosed, p_c_X0_endsFirst, p_c_X0_placeOfKey, p_c_X0_keysInLocks, p_c_X0_guardAllows, p_c_X0_canBeTested, p_c_X0_beginTest, p_c_X0_openSensor, p_c_X0_closeSensor, p_c_X0_tick, p_c_X1_init, p_c_X1_copyFrom, p_c_X1_rowAt, p_c_X1_addRow, p_c_X1_inputsOf, p_c_X1_inputsOfRows, p_c_X1_isPermitted, p_c_X1_permittedOnes, p_c_X1_withFirstOut, p_c_X1_fewestOpen, p_c_X1_begin, p_c_X1_stopUnpermitted, p_c_X1_leastOpened, p_c_X1_countTick, p_c_X2_init, p_c_X2_copyFrom, p_c_X3_init, p_c_X3_endOfRow, p_c_X3_isRow, p_c_X3_isDigit, p_c_X3_motionOfRow, p_c_X3_highestInputOfRow, p_c_X3_inputsOfRow, p_c_X3_rowsOfMotion, p_c_X4_init, p_c_X4_sensor, p_c_X4_lock, p_c_X4_essential, p_c_X4_input, p_c_X4_inputInfo, p_c_X4_keyIn, p_c_X4_keyOut, p_c_X4_key, p_c_X4_bridge, p_c_X4_unbridge, p_c_X4_bridged, p_c_X4_row, p_c_X4_dropRows, p_c_X4_exclude, p_c_X4_start, p_c_X4_why, p_c_X4_stop, p_c_X4_reset, p_c_X4_motion, p_c_X4_ways, p_c_X4_waysAgain, p_c_X4_needed, p_c_X4_test, p_c_X4_run, p_c_X4_count, p_c_X4_snapshot, p_c_X4_restore, p_c_X4_undo, p_c_X4_type, p_c_X4_clearText, p_c_X4_fault, p_c_X4_read, p_c_X4_isInput, p_c_X4_isKey, p_c_X4_isMotion, p_c_X4_isSnapshotPlace, p_c_X4_isYesOrNo, p_c_X4_has, p_c_X4_bitOf, p_c_X4_with, p_c_X4_least, p_c_X4_sum, p_c_X4_copyAll, p_c_X4_orNotFound, p_c_X4_rowOrNotFound, p_c_X4_isPermitted, p_c_X4_reasonAgainstStart, p_c_X4_remember, p_c_X4_forgetOldest, p_c_X4_lookAtMotions, p_c_X4_placeOfFault, p_c_X4_faultOfRow, p_c_J6_bitCount_0f7a4, p_c_L_part, p_c_L_take, p_c_L_mixed, p_c_L_state, p_c_L_refusesMotions, p_c_L_refused, p_c_L_types, p_c_L_isFault, p_c_L_texts, p_c_L_known, p_c_L_law]
def p_cd (k : Nat) : List pI := p_cds.getD k []
def p_p_X0_init : List Nat := [0, 1, 4, 5, 6, 9, 10, 11, 14, 15, 16, 19, 20, 21, 24, 25, 26, 29, 30, 32, 34, 37, 38, 40, 42, 45, 46, 48, 50, 53, 54, 56, 58, 61, 62, 64, 66, 69, 70, 72, 74, 77, 78, 80, 82, 85, 86, 88, 90, 93]
def p_p_X0_copyFrom : List Nat := [0, 1, 2, 5, 8, 9, 10, 13, 16, 17, 18, 21, 24, 25, 26, 29, 32, 33, 34, 37, 40, 41, 44, 45, 48, 51, 52, 55, 56, 59, 62, 63, 66, 67, 70, 73, 74, 77, 78, 81, 84, 85, 88, 89, 92, 95, 96, 99, 100, 103, 106, 107, 110, 111, 114, 117, 118, 121, 122, 125, 128]
def p_p_X0_add : List Nat := [0, 1, 4, 6, 7, 10, 12, 13, 14, 15, 18, 20, 21, 22, 23, 26, 28, 29, 30, 31, 34, 36, 37, 40, 41, 42, 43, 46, 47, 48, 51, 53]
def p_p_X0_all : List Nat := [0, 1, 2, 5, 6, 7, 8]
def p_p_X0_isLock : List Nat := [0, 1, 4, 5, 6, 7, 10, 11, 14, 15]
def p_p_X0_overdueOnes : List Nat := [0, 1, 2, 3, 4, 5, 6, 9, 12, 13, 16, 17, 18, 21, 22, 25, 26, 29, 30, 31, 32, 33, 36, 37, 38, 41, 42, 45, 46, 47, 48, 49, 50, 53, 54, 57, 60, 61]
def p_p_X0_bridgedOnes : List Nat := [0, 1, 2, 3, 4, 5, 6, 9, 12, 13, 14, 15, 18, 19, 20, 23, 24, 27, 28, 31, 32, 35, 38, 39]
def p_p_X0_countingAsClosed : List Nat := [0, 1, 4, 5, 8, 9, 12, 13, 14, 15, 16]
def p_p_X0_endsFirst : List Nat := [0, 1, 2, 3, 4, 5, 6, 9, 12, 13, 14, 17, 20, 21, 22, 25, 26, 29, 30, 31, 32, 35, 36, 37, 40, 41, 42, 45, 48, 49]
def p_p_X0_placeOfKey : List Nat := [0, 1, 2, 3, 4, 7, 10, 11, 14, 15, 16, 17, 20, 21, 24, 25, 28, 31, 32, 33, 36, 39, 40]
def p_p_X0_keysInLocks : List Nat := [0, 1, 2, 3, 4, 5, 6, 9, 12, 13, 14, 17, 20, 21, 24, 25, 28, 31, 34, 37, 40, 41]
def p_p_X0_guardAllows : List Nat := [0, 1, 4, 5, 6, 7, 10, 11, 14, 15, 18, 19, 20, 23, 26, 27, 30, 31]
def p_p_X0_canBeTested : List Nat := [0, 1, 2, 5, 8, 9, 12, 13, 16, 19, 20, 23, 24, 25, 28, 29, 32, 33]
def p_p_X0_beginTest : List Nat := [0, 1, 4, 5, 6, 7, 8, 11, 12, 13, 16, 18, 19, 20, 21, 24, 25, 26]
def p_p_X0_openSensor : List Nat := [0, 1, 2, 5, 6, 7, 10, 13, 14, 17, 18, 19, 20, 23, 24, 27, 28, 29, 30]
def p_p_X0_closeSensor : List Nat := [0, 1, 2, 5, 6, 7, 10, 13, 14, 17, 18, 19, 20, 23, 24, 27, 28, 29, 30, 31, 34, 35, 36, 39, 40, 41, 42, 45, 46, 47, 50]
def p_p_X0_tick : List Nat := [0, 1, 2, 5, 6, 7, 10, 11, 12, 13, 14, 17, 20, 21, 24, 25, 26, 29, 30, 33, 34, 35, 36, 37, 38, 39, 40, 43, 44, 45, 46, 47, 48, 49, 50, 53, 54, 57, 58, 59, 62, 63, 66, 67, 68, 69, 72, 75]
def p_p_X1_init : List Nat := [0, 1, 4, 5, 6, 9, 10, 12, 14, 17, 18, 20, 22, 25, 26, 28, 30, 33, 34, 36, 38, 41, 42, 44, 46, 49, 50, 52, 54, 57, 58, 60, 62, 65, 66, 68, 70, 73, 74, 76, 78, 81, 82, 83, 84, 86, 89, 90, 93, 94, 95, 96, 97, 100, 101, 102, 103, 106, 109]
def p_p_X1_copyFrom : List Nat := [0, 1, 2, 5, 8, 9, 12, 13, 16, 19, 20, 23, 24, 27, 30, 31, 34, 35, 38, 41, 42, 45, 46, 49, 52, 53, 56, 57, 60, 63, 64, 67, 68, 71, 74, 75, 78, 79, 82, 85, 86, 89, 90, 93, 96, 97, 100, 101, 104, 107]
def p_p_X1_rowAt : List Nat := [0, 1, 4, 5, 6, 7, 8, 9, 10]
def p_p_X1_addRow : List Nat := [0, 1, 4, 5, 6, 7, 8, 11, 12, 13, 14, 15, 16, 17, 20, 21, 22, 23, 24, 25, 26, 27, 30, 31, 32]
def p_p_X1_inputsOf : List Nat := [0, 1, 2, 3, 4, 7, 8, 9, 10, 11, 12, 15]
def p_p_X1_inputsOfRows : List Nat := [0, 1, 2, 3, 5, 7, 8, 11, 12, 13, 16, 17, 19, 22, 25, 26, 27, 28, 30, 33, 34, 35, 38, 41, 42]
def p_p_X1_isPermitted : List Nat := [0, 1, 2, 3, 4, 7, 8, 9, 12, 13, 14, 15, 18, 19, 20, 21, 22, 25, 26, 27, 30, 33, 34]
def p_p_X1_permittedOnes : List Nat := [0, 1, 2, 3, 4, 5, 7, 10, 11, 12, 13, 16, 19, 22, 25, 28, 29]
def p_p_X1_withFirstOut : List Nat := [0, 1, 2, 3, 4, 5, 7, 10, 11, 14, 15, 16, 17, 20, 23, 26, 29, 30]
def p_p_X1_fewestOpen : List Nat := [0, 1, 2, 3, 6, 7, 8, 9, 10, 11, 12, 14, 16, 17, 20, 21, 22, 25, 26, 27, 29, 32, 33, 34, 35, 36, 38, 40, 43, 44, 47, 50, 52, 53, 56, 59, 60]
def p_p_X1_begin : List Nat := [0, 1, 2, 5, 6, 7, 10, 13, 14, 17, 18, 19, 20, 21, 22, 23, 24, 27, 28, 29, 30]
def p_p_X1_stopUnpermitted : List Nat := [0, 1, 3, 4, 6, 8, 10, 13, 14, 17, 19, 22, 25, 26, 28, 29, 32, 35, 36, 37, 40, 42, 43, 46, 49, 50, 53, 55, 56, 58, 61, 62, 63, 64, 65, 66, 69, 70, 71, 74, 76, 77, 78, 79, 82, 84, 85, 86, 87, 88, 89, 92, 95, 98, 100]
def p_p_X1_leastOpened : List Nat := [0, 1, 2, 3, 4, 5, 8, 9, 12, 13, 16]
def p_p_X1_countTick : List Nat := [0, 1, 2, 3, 5, 8, 9, 12, 13, 16, 19, 20, 23, 24, 25, 26, 27, 28, 29, 30, 33, 34, 35, 36, 37, 38, 39, 42, 45]
def p_p_X2_init : List Nat := [0, 1, 4, 5, 8, 9, 12, 15, 16, 19, 20, 23, 26]
def p_p_X2_copyFrom : List Nat := [0, 1, 4, 5, 8, 11, 12, 15, 16, 19, 22]
def p_p_X3_init : List Nat := [0, 1, 4, 5, 7, 9, 12, 13, 14, 17]
def p_p_X3_endOfRow : List Nat := [0, 1, 2, 3, 4, 7, 10, 11, 14, 15, 16, 18, 21, 22, 23, 26, 29, 30, 33]
def p_p_X3_isRow : List Nat := [0, 1, 2, 5, 8, 9, 10, 11, 12, 15, 16, 19, 20, 21, 23, 24, 27, 30, 31, 34, 35, 36, 37, 38, 40, 43, 44, 45, 46, 47, 48, 49, 50, 52, 54, 55, 58, 59, 62, 64, 65, 68, 71, 72, 73, 76, 79, 82, 83, 86, 88, 89, 91, 94, 95, 98, 99, 100, 103, 104, 105, 108, 111, 112, 115, 116, 119, 120]
def p_p_X3_isDigit : List Nat := [0, 1, 3, 6, 7, 9, 12, 13, 16, 17]
def p_p_X3_motionOfRow : List Nat := [0, 1, 4, 5, 6, 8, 9]
def p_p_X3_highestInputOfRow : List Nat := [0, 1, 2, 3, 5, 6, 7, 8, 10, 12, 13, 16, 17, 20, 22, 23, 25, 28, 29, 32, 34, 36, 37, 38, 41, 43, 44, 45, 47, 48, 50, 51, 53, 56, 57, 60, 63, 64]
def p_p_X3_inputsOfRow : List Nat := [0, 1, 2, 3, 5, 6, 7, 8, 10, 12, 13, 16, 17, 20, 22, 23, 25, 28, 29, 31, 32, 35, 36, 37, 39, 42, 44, 46, 47, 48, 51, 53, 54, 55, 57, 58, 60, 63, 66, 67, 69, 70, 73]
def p_p_X3_rowsOfMotion : List Nat := [0, 1, 2, 3, 5, 7, 8, 11, 12, 15, 17, 18, 20, 23, 24, 26, 27, 28, 31, 32, 35, 38, 41, 44, 45]
def p_p_X4_init : List Nat := [0, 1, 4, 5, 8, 9, 12, 15, 16, 17, 20, 23, 24, 25, 26, 27, 30, 31, 34, 35, 38, 39, 42, 43, 46, 49, 50, 51, 54, 55, 56, 59, 62, 63, 64, 65, 66, 69, 70, 73, 74, 77, 78, 81, 82, 85, 88, 89, 90, 93, 94, 97, 98, 101, 104]
def p_p_X4_sensor : List Nat := [0, 1, 4, 5, 8, 11, 12, 13, 14, 17, 20, 23, 25, 28, 30, 31, 32, 35, 36, 39, 42, 43, 44, 45, 48]
def p_p_X4_lock : List Nat := [0, 1, 4, 7, 8, 9, 12, 13, 14, 17, 20, 21, 22, 23, 26, 29, 32, 34, 37, 39, 40, 41, 44, 45, 48, 51, 52, 53, 54, 57]
def p_p_X4_essential : List Nat := [0, 1, 2, 5, 8, 9, 12, 15, 16, 17, 18, 19, 22, 23, 26, 29, 32, 33, 36, 39, 41, 42, 43, 46, 47, 50, 53, 56, 57, 60, 61, 62, 65, 68, 69, 72, 75, 78, 79, 80, 81, 84, 85, 88, 89, 92, 95, 96]
def p_p_X4_input : List Nat := [0, 1, 2, 5, 8, 9, 12, 15, 16, 17, 18, 21, 24, 25, 28, 31, 33, 34, 35, 38, 39, 42, 45, 48, 49, 50, 51, 54, 55, 58, 61, 62, 65, 68, 69, 72, 75, 76, 79, 80, 81, 84]
def p_p_X4_inputInfo : List Nat := [0, 1, 2, 5, 8, 9, 10, 11, 14, 17, 18, 19, 80, 81, 82, 85, 88, 89, 92, 93, 94, 95, 98, 99, 102, 103, 104, 107, 108, 111, 112, 113, 116, 117, 120, 121, 122, 125, 126, 129, 130, 131, 134, 135, 136, 137, 138, 141, 142, 143, 144, 145, 148, 149, 150, 151, 152, 155, 156, 157, 158, 159, 162, 163, 164, 165, 166, 169, 170, 171, 174, 175, 176, 179, 180, 181, 184, 185, 186]
def p_p_X4_keyIn : List Nat := [0, 1, 4, 7, 8, 9, 12, 15, 16, 17, 18, 21, 24, 25, 28, 29, 32, 33, 36, 39, 42, 43, 44, 45, 48, 50, 51, 52, 55, 56, 59, 62, 63, 66, 69, 72, 73, 74, 77, 80, 81, 84, 87, 90]
def p_p_X4_keyOut : List Nat := [0, 1, 4, 7, 8, 9, 10, 13, 16, 17, 20, 21, 22, 23, 26, 27, 30, 33, 34, 37, 40, 42, 43, 44, 47, 48, 51, 54, 57, 58, 59, 62, 65, 66, 69, 72, 75, 76, 77, 80, 83, 84, 85, 88]
def p_p_X4_key : List Nat := [0, 1, 4, 7, 8, 9, 10, 13, 16, 17, 20, 23]
def p_p_X4_bridge : List Nat := [0, 1, 2, 5, 8, 9, 10, 13, 14, 17, 20, 21, 22, 23, 26, 29, 32, 33, 34, 37, 40, 43, 44, 47, 50, 51, 52, 55, 58, 60, 61, 62, 65, 66, 69, 71, 72, 73, 76, 77, 80, 83, 86, 87, 88, 89, 90, 93, 96, 99, 102]
def p_p_X4_unbridge : List Nat := [0, 1, 2, 5, 8, 9, 10, 11, 14, 17, 20, 21, 24, 27, 29, 30, 31, 34, 35, 38, 41, 44, 45, 46, 49, 52, 55, 56, 57, 58, 59, 60, 63]
def p_p_X4_bridged : List Nat := [0, 1, 4, 5, 6, 7, 10, 13, 16, 17, 18, 19, 22, 25, 27, 28, 29, 30, 31, 32, 35, 36, 37, 40, 43, 44, 47, 48, 51, 52, 55, 58, 59, 62, 65, 66, 69]
def p_p_X4_row : List Nat := [0, 1, 4, 7, 8, 11, 12, 13, 16, 19, 22, 23, 24, 25, 28, 29, 30, 31, 34, 37, 40, 41, 44, 47, 49, 50, 51, 54, 57, 60, 61, 62, 63, 66, 68, 69, 70, 73, 74, 77, 80, 81, 82, 85]
def p_p_X4_dropRows : List Nat := [0, 1, 4, 7, 8, 9, 10, 13, 16, 19, 20, 23, 26, 28, 29, 30, 33, 34, 37, 40, 43, 44, 45, 46, 47, 50, 53, 56, 57, 58, 59, 60]
def p_p_X4_exclude : List Nat := [0, 1, 4, 7, 8, 11, 14, 15, 16, 19, 20, 23, 26, 27, 28, 29, 32, 35, 37, 38, 39, 42, 44, 47, 48, 51, 54, 56, 59, 60, 63, 66, 68, 69, 70, 73, 75, 78, 79, 80, 81, 84, 86, 88, 91, 92, 94, 97, 98, 99, 100, 101, 102, 105, 106, 109, 110, 113, 114, 116, 119, 120, 122, 125, 126, 127, 128, 129, 130, 133, 134, 137, 138, 141, 142, 144]
def p_p_X4_start : List Nat := [0, 1, 4, 7, 8, 9, 10, 11, 14, 17, 19, 20, 21, 24, 25, 28, 31, 32, 35, 36, 39, 42, 45, 48]
def p_p_X4_why : List Nat := [0, 1, 4, 7, 8, 9, 10, 11, 14]
def p_p_X4_stop : List Nat := [0, 1, 4, 7, 8, 9, 10, 13, 16, 19, 20, 23, 26, 28, 29, 30, 33, 34, 37, 40, 41, 44, 47, 50, 51, 52, 55, 58, 59, 62, 65, 68, 69, 70]
def p_p_X4_reset : List Nat := [0, 1, 4, 7, 8, 9, 10, 13, 16, 19, 20, 21, 22, 23, 24, 27, 29, 30, 31, 34, 35, 38, 41, 44, 45, 46, 47, 48]
def p_p_X4_motion : List Nat := [0, 1, 4, 7, 8, 9, 10, 13, 16, 17, 18, 84, 85, 88, 89, 90, 91, 92, 93, 96, 99, 100, 103, 104, 105, 106, 109, 110, 113, 114, 115, 118, 119, 120, 123, 124, 125, 128, 129, 130, 133, 134, 135, 138, 139, 140, 141, 142, 145, 146, 147, 148, 149, 152, 153, 154, 155, 156, 157, 158, 160, 161, 164, 165, 166, 169, 170, 171, 172, 173]
def p_p_X4_ways : List Nat := [0, 1, 4, 7, 8, 9, 10, 13, 16, 17, 20, 21, 22, 25, 27, 30, 32, 33, 34, 35, 36, 38, 39, 40, 43, 44, 46, 47, 49, 51, 53, 56, 57, 60, 63, 64, 66, 69, 72, 75, 77, 78, 79, 80, 81, 83, 86, 89, 90]
def p_p_X4_waysAgain : List Nat := [0, 1, 4, 7, 8, 9, 10, 13, 16, 17, 20, 21, 22, 25, 27, 30, 32, 33, 34, 35, 36, 37, 40, 43, 46, 47, 48, 49, 51, 52, 54, 56, 58, 61, 62, 63, 66, 69, 70, 72, 75, 76, 77, 78, 80, 81, 83, 86, 87, 89, 91, 94, 95, 96, 97, 100, 101, 104, 105, 107, 108, 110, 113, 115, 118, 120, 121, 122, 123, 126, 129, 130]
def p_p_X4_needed : List Nat := [0, 1, 4, 7, 8, 9, 10, 13, 16, 19, 20, 21, 24, 26, 27, 28, 31, 34, 35, 36, 39, 42, 45, 48]
def p_p_X4_test : List Nat := [0, 1, 2, 5, 8, 9, 10, 11, 14, 17, 18, 21, 24, 26, 27, 28, 31, 32, 35, 38, 39, 42]
def p_p_X4_run : List Nat := [0, 1, 2, 5, 6, 9, 12, 13, 14, 15, 18, 21, 24, 25, 26, 28, 31, 33, 34, 35, 38, 39, 40, 41, 44, 47, 50, 51, 52, 54, 56, 57, 60, 61, 64, 67, 70, 71, 74, 77, 80, 82, 83, 84, 87, 90, 91, 93, 94, 97, 100, 103, 106, 107, 108, 109, 112, 115, 118, 120, 121, 124, 127, 128]
def p_p_X4_count : List Nat := [0, 1, 4, 7, 8, 9, 12, 15, 16, 17, 100, 101, 104, 105, 106, 109, 112, 113, 114, 117, 120, 121, 122, 125, 128, 129, 130, 133, 134, 135, 138, 141, 142, 143, 144, 147, 150, 151, 152, 155, 156, 157, 160, 161, 162, 165, 168, 169, 170, 173, 176, 177, 178, 181, 184, 185, 186, 189, 192, 193, 194, 197, 198, 199, 202, 203, 204, 207, 210, 211, 212, 215, 218, 219, 220]
def p_p_X4_snapshot : List Nat := [0, 1, 4, 7, 8, 9, 10, 13, 14, 15, 16, 19, 22, 23, 24, 27, 28, 29, 32, 35, 36, 39, 42]
def p_p_X4_restore : List Nat := [0, 1, 4, 7, 8, 9, 10, 13, 14, 17, 20, 22, 23, 24, 27, 28, 31, 32, 35, 36, 37, 40, 41, 44, 47, 50]
def p_p_X4_undo : List Nat := [0, 1, 4, 7, 9, 10, 11, 12, 15, 16, 17, 20, 21, 24, 25, 28, 29, 32, 33, 36, 37, 40]
def p_p_X4_type : List Nat := [0, 1, 3, 6, 7, 9, 12, 13, 14, 15, 18, 21, 23, 26, 28, 29, 30, 33, 36, 37, 40, 43, 44, 45, 46, 47, 50, 51, 54, 55, 56, 59, 60, 63, 66]
def p_p_X4_clearText : List Nat := [0, 1, 4, 7, 8, 9, 12, 13, 16, 17]
def p_p_X4_fault : List Nat := [0, 1, 4, 5, 6, 9, 10, 11, 12, 15, 16, 17, 18, 21, 23, 24, 25, 28, 29, 32, 33, 34, 35, 38, 39, 42, 45]
def p_p_X4_read : List Nat := [0, 1, 4, 5, 8, 10, 11, 12, 15, 16, 17, 18, 19, 20, 21, 22, 23, 26, 29, 32, 33, 36, 39, 40, 41, 43, 46, 47, 50, 53, 54, 57, 58, 61, 62, 65, 66, 67, 70, 73, 74, 77, 78, 79, 80, 81, 84, 87, 88]
def p_p_X4_isInput : List Nat := [0, 1, 4, 5, 6, 9, 12, 15, 18, 19, 22, 23]
def p_p_X4_isKey : List Nat := [0, 1, 4, 5, 7, 10, 11, 14, 15]
def p_p_X4_isMotion : List Nat := [0, 1, 4, 5, 7, 10, 11, 14, 15]
def p_p_X4_isSnapshotPlace : List Nat := [0, 1, 4, 5, 6, 9, 10, 13, 14]
def p_p_X4_isYesOrNo : List Nat := [0, 1, 4, 5, 6, 9, 10, 13, 14]
def p_p_X4_has : List Nat := [0, 1, 2, 5, 6, 9, 10, 13, 14]
def p_p_X4_bitOf : List Nat := [0, 1, 2, 3, 4, 5]
def p_p_X4_with : List Nat := [0, 1, 2, 3, 4, 5, 8, 9, 10, 11, 14, 15, 16, 17, 18, 19]
def p_p_X4_least : List Nat := [0, 1, 2, 3, 5, 8, 9, 10, 13, 16, 17, 18, 21, 24, 25]
def p_p_X4_sum : List Nat := [0, 1, 2, 3, 4, 5, 6, 7, 8, 10, 12, 13, 16, 17, 19, 20, 22, 23, 25, 26, 27, 30, 33, 34]
def p_p_X4_copyAll : List Nat := [0, 1, 2, 3, 4, 5, 6, 7, 8, 11, 14]
def p_p_X4_orNotFound : List Nat := [0, 1, 2, 5, 7, 10, 11]
def p_p_X4_rowOrNotFound : List Nat := [0, 1, 2, 5, 8, 11, 12, 13, 16, 18, 19, 20, 23, 26, 27, 28, 31]
def p_p_X4_isPermitted : List Nat := [0, 1, 4, 7, 8, 9, 12, 15, 18, 21]
def p_p_X4_reasonAgainstStart : List Nat := [0, 1, 4, 7, 8, 9, 12, 13, 16, 19, 20, 21, 22, 25, 26, 27, 28, 31, 32, 33, 34, 35, 38, 41, 42, 43, 44, 47, 48, 51, 52, 53, 54, 57, 58, 61, 62]
def p_p_X4_remember : List Nat := [0, 1, 4, 5, 8, 9, 12, 13, 16, 17, 20, 21, 22, 25, 28, 29, 30, 33, 34, 35, 38]
def p_p_X4_forgetOldest : List Nat := [0, 1, 4, 5, 6, 7, 8, 9, 10, 11, 14, 15, 18, 19, 20, 21, 22, 25, 26, 27, 28, 31, 34, 35, 38, 39, 40, 41, 42, 43, 46]
def p_p_X4_lookAtMotions : List Nat := [0, 1, 4, 7, 8, 9, 12, 15, 18, 19, 22, 25, 28, 31]
def p_p_X4_placeOfFault : List Nat := [0, 1, 2, 3, 4, 5, 6, 9, 12, 15, 16, 19, 22, 23, 24, 26, 29, 30, 31, 32, 35, 38, 39, 40, 41, 42, 43, 44, 47, 50, 51, 52, 55, 58, 61, 62, 65, 66]
def p_p_X4_faultOfRow : List Nat := [0, 1, 4, 5, 6, 9, 12, 13, 14, 15, 18, 19, 20, 23, 24, 27, 30, 33, 36, 37, 38, 39, 42, 43, 46, 47, 48, 51, 54, 57, 58, 61, 64, 65, 66, 67, 70, 73, 76, 77, 78, 79, 82, 83, 84, 87, 88, 90, 92, 93, 96, 97, 100, 101]
def p_p_J6_bitCount_0f7a4 : List Nat := [0, 1, 2, 3, 4, 7, 8, 9, 10, 11, 14, 15, 16, 17, 18, 21, 22, 23, 24, 25, 26, 27, 28, 29, 32, 33, 34, 35, 36, 38, 39, 40, 41, 42, 43, 45, 46, 47, 48, 49, 51, 52]
def p_p_L_part : List Nat := [0, 1, 3, 4, 5, 6]
def p_p_L_take : List Nat := [0, 1, 2, 5, 8, 9, 10, 11, 12, 15, 16, 17, 18, 19, 20, 21, 22, 24, 25, 26, 27, 28, 29, 30, 32, 33, 34, 35, 37, 38, 39]
def p_p_L_mixed : List Nat := [0, 3, 4, 5, 6, 7]
def p_p_L_state : List Nat := [0, 3, 4, 5, 6, 7, 9, 12, 13, 14, 15, 18, 19, 22, 23, 26, 29, 30, 31, 32, 34, 35, 36, 39, 40, 43, 44, 45, 46, 48, 49, 50, 52, 53, 56, 57, 60, 61, 64, 67, 68, 69, 70, 72, 75, 76, 77, 78, 80, 81, 82, 84, 85, 88, 89, 92, 93, 96, 99, 100, 101, 102, 104, 107, 108, 109, 110, 113, 114, 117, 118, 119, 122, 123, 126, 127, 128, 131, 132, 135, 136, 139, 142, 143]
def p_p_L_refusesMotions : List Nat := [0, 1, 2, 3, 4, 7, 8, 11, 13, 16, 17, 18, 19, 20, 21, 24, 25, 28, 29, 30, 33, 34, 37, 38, 39, 40, 41, 44, 45, 48, 49, 50, 51, 52, 55, 56, 59, 60, 61, 64, 65, 68, 69, 70, 73, 74, 77, 78, 79, 82, 83, 86, 87, 88, 91, 92, 95, 96, 97, 98, 101, 102, 105, 106, 107, 110, 111, 114, 115, 116, 119, 120, 123, 124, 125, 128, 129, 132, 133, 134, 135, 138, 139, 142, 143, 144, 147, 148, 151, 152, 153, 156, 157, 160, 161, 162, 163, 166, 167, 170, 171, 172, 175, 178, 179, 180, 181, 184, 185, 186, 187, 188, 189, 190, 191, 194, 195, 198, 199, 200, 201, 204, 205, 208, 209, 210, 211, 212, 213, 216, 217, 220, 221, 222, 223, 224, 227, 228, 231, 232, 233, 234, 235, 238, 239, 242, 243, 244, 245, 246, 249, 250, 253, 254, 255, 257, 260, 261, 264, 265, 266, 267, 270, 271, 274, 275, 278, 279]
def p_p_L_refused : List Nat := [0, 1, 4, 5, 7, 10, 11, 14, 15, 17, 20, 21, 24, 25, 27, 30, 31, 34, 35, 36, 37, 40, 41, 42, 45, 48, 49, 50, 53, 54, 57, 58, 61, 64, 65, 68, 69, 70, 71, 74, 75, 78, 79, 80, 82, 85, 86, 89, 90, 91, 94, 95, 98, 99, 100, 103, 105, 108, 109, 110, 113, 114, 117, 118, 121, 124, 125, 128, 129, 130, 133, 134, 137, 138, 140, 143, 144, 147, 148, 149, 152, 153, 156, 157, 158, 161, 162, 165, 166, 167, 170, 171, 174, 175, 176, 179, 180, 183, 184, 186, 189, 190, 193, 194, 196, 199, 200, 203, 204, 205, 208, 209, 212, 213, 214, 217, 218, 221, 222, 223, 224, 226, 228, 229, 232, 234, 237, 238, 241, 242, 244, 245, 247, 248, 251, 252, 255, 256, 258, 259, 262, 263, 266, 267, 269, 270, 273, 274, 277, 278, 279, 281, 284, 285, 288, 289, 291, 292, 295, 296, 299, 300, 302, 305, 306, 309, 310, 312, 315, 316, 319, 320, 321, 324, 327, 328, 331, 332, 333, 334, 337, 338, 341, 342, 343, 344, 347, 348, 351, 352, 353, 354, 357, 358, 361, 362, 363, 364, 367, 368, 371, 372, 373, 375, 378, 379, 382, 383, 384, 385, 388, 389, 392, 393, 394, 395, 398, 399, 402, 403, 404, 407, 410, 411, 414, 415, 416, 417, 420, 421, 423, 426, 427, 430, 431, 433, 436, 437, 440, 441, 443, 446, 447, 450, 451, 452, 455, 456, 459, 460]
def p_p_L_types : List Nat := [0, 2, 3, 4, 7, 8, 10, 11, 12, 13, 16, 17, 18, 20, 22, 25, 26, 28, 31, 32, 35, 38]
def p_p_L_isFault : List Nat := [0, 1, 4, 5, 6, 7, 10, 11, 12, 15, 16, 18, 21, 22, 23, 26, 28, 31, 32, 33, 36, 38, 41, 42, 45, 46]
def p_p_L_texts : List Nat := [0, 3, 4, 7, 8, 9, 10, 11, 12, 15, 16, 17, 20, 21, 24, 27, 28, 29, 30, 33, 36, 37, 38, 39, 42, 43, 46, 47, 48, 51, 52, 55, 56, 59, 62, 63, 64, 65, 68, 69, 70, 72, 74, 77, 80, 81, 84, 85, 86, 87, 88, 91, 94, 95, 98, 99, 100, 101, 102, 105, 108, 109, 112, 113, 114, 116, 118, 121, 124, 125, 126, 127, 130, 131, 132, 133, 134, 137, 140, 141, 144, 145, 146, 147, 148, 151, 154, 155, 158, 159, 160, 161, 162, 165, 168, 169, 172, 173, 174, 176, 178, 181, 184, 185, 186, 187, 190, 193, 194, 196, 197, 200, 203, 204, 207, 210, 213, 215, 216, 219, 222, 223, 226, 227, 228, 229, 230, 233, 236, 237, 240, 241, 242, 243, 244, 247, 250, 251, 252, 253, 256, 257, 258, 259, 260, 263, 266, 267, 270, 271, 272, 273, 274, 277, 280, 281, 282, 283, 284, 286, 288, 291, 294, 295, 298, 299, 300, 301, 302, 305, 308, 309, 310, 311, 314, 317, 318, 319, 320, 323, 326, 327, 330, 331, 332, 333, 334, 337, 340, 341, 344, 345, 346, 347, 348, 351, 354, 355, 358, 361, 362, 363, 364, 367, 370, 371, 372, 373, 376, 379, 380, 382, 384, 387, 390, 391, 394, 395, 398, 399, 400, 402, 405, 407, 410, 411, 412, 414, 417, 418, 421, 422, 423, 425, 428, 430, 433, 434, 437, 438, 441, 442, 443, 444, 447, 448, 451, 452, 453, 456, 459, 460, 461, 464, 465, 468, 469, 472, 474, 477, 478, 481, 483, 486, 487, 488, 489, 490, 491, 493, 496, 497, 499, 502, 503, 506, 507, 508, 511, 514, 515, 517, 520, 522, 525, 526, 528, 531, 532, 535, 536, 537, 540, 541, 544, 545, 548, 550, 553, 554, 557, 558]
def p_p_L_known : List Nat := [0, 3, 4, 7, 8, 9, 12, 14, 17, 18, 19, 22, 24, 27, 28, 29, 32, 34, 37, 38, 39, 42, 45, 46, 47, 50, 53, 54, 55, 58, 59, 62, 63, 64, 67, 70, 71, 73, 76, 77, 80, 81, 82, 83, 86, 87, 90, 91, 92, 93, 96, 97, 100, 101, 102, 104, 107, 108, 111, 112, 113, 115, 118, 121, 122, 123, 125, 128, 130, 133, 134, 135, 137, 140, 142, 145, 146, 147, 149, 152, 154, 157, 158, 159, 160, 161, 162, 165, 166, 169, 170, 171, 172, 175, 176, 179, 180, 181, 182, 185, 187, 190, 191, 192, 193, 196, 198, 201, 202, 203, 204, 207, 209, 212, 213, 214, 217, 219, 222, 223, 224, 227, 229, 232, 233, 234, 235, 238, 240, 243, 244, 245, 246, 249, 252, 253, 254, 257, 260, 261, 262, 265, 267, 270, 271, 272, 273, 276, 277, 280, 281, 282, 283, 284, 285, 288, 289, 292, 293, 294, 297, 298, 301, 302, 303, 306, 307, 310, 311, 312, 313, 316, 319, 320, 321, 324, 327, 328, 329, 332, 333, 336, 337, 338, 341, 342, 345, 346, 347, 348, 351, 353, 356, 357, 358, 361, 363, 366, 367, 368, 371, 373, 376, 377, 379, 382, 385, 386, 387, 388, 391, 393, 396, 397, 398, 401, 402, 405, 406, 407, 408, 411, 412, 415, 416, 417, 418, 421, 423, 426, 427, 428, 429, 432, 434, 437, 438, 439, 441, 444, 445, 448, 449, 450, 451, 454, 455, 458, 459, 460, 461, 464, 465, 468, 469, 470, 471, 474, 477, 478, 479, 482, 483, 486, 487, 488, 491, 492, 495, 496, 497, 500, 501, 504, 505, 506, 509, 511, 514, 515, 516, 517, 518, 521, 523, 526, 527, 528, 531, 533, 536, 537, 538, 541, 543, 546, 547, 548, 550, 553, 554, 557, 558, 559, 560, 563, 566, 567, 568, 570, 573, 574, 577, 578, 580, 583, 586, 587, 588, 589, 592, 595, 596, 597, 599, 602, 605, 606, 607, 609, 612, 614, 617, 618, 620, 623, 624, 627, 628, 629, 632, 635, 636, 637, 640, 642, 645, 646, 647, 648, 651, 654, 655, 656, 659, 661, 664, 665, 667, 670, 673, 674, 675, 677, 680, 683, 684, 685, 686, 689, 692, 693, 694, 696, 699, 701, 704, 705, 706, 707, 710, 711, 714, 715, 717, 720, 721, 724, 725, 726, 727, 728, 729, 732, 733, 736, 737, 738, 741, 744, 745, 746, 749, 750, 753, 754, 755, 757, 760, 761, 764, 765, 766, 769, 770, 773, 774, 775, 778, 780, 783, 784, 785, 786, 789, 791, 794, 795, 796, 797, 800, 802, 805, 806, 807, 810, 813, 814, 815, 817, 820, 821, 824, 825, 826, 829, 830, 833, 834, 835, 837, 840, 841, 844, 845, 846, 848, 851, 854, 855, 857, 860, 861, 864, 865, 866, 867, 870, 871, 874, 875, 876, 877, 880, 882, 885, 886, 887, 889, 892, 893, 896, 897, 898, 901, 903, 906, 907, 908, 911, 912, 915, 916, 917, 918, 921, 924, 925, 926, 927, 930, 932, 935, 936, 937, 938, 941, 942, 945, 946, 947, 948, 949, 952, 955, 956, 957, 958, 961, 962, 965, 966, 967, 968, 971, 972, 975, 976, 977, 979, 982, 983, 986, 987, 988, 991, 992, 995, 996, 997, 998, 1001, 1004, 1005, 1006, 1009, 1010, 1013, 1014, 1015, 1016, 1019, 1020, 1023, 1024, 1025, 1028, 1029, 1032, 1033, 1034, 1037, 1038, 1041, 1042, 1043, 1046, 1047, 1050, 1051, 1052, 1055, 1056, 1059, 1060, 1061, 1062, 1063, 1066, 1069, 1070, 1071, 1073, 1076, 1077, 1080, 1081, 1082, 1084, 1087, 1088, 1091, 1092, 1093, 1094, 1095, 1098, 1099, 1102, 1103, 1104, 1106, 1109, 1112, 1113, 1114, 1115, 1116, 1118, 1121, 1122, 1125, 1126, 1127, 1129, 1132, 1133, 1136, 1137, 1138, 1139, 1142, 1143, 1146, 1147, 1148, 1149, 1152, 1154, 1157, 1158, 1159, 1162, 1163, 1166, 1167, 1168, 1171, 1174, 1175, 1176, 1179, 1180, 1183, 1184, 1185, 1188, 1189, 1192, 1193, 1194, 1195, 1196, 1199, 1202, 1203, 1204, 1207, 1208, 1211, 1212, 1213, 1216, 1217, 1220, 1221, 1222, 1225, 1226, 1229, 1230, 1231, 1234, 1236, 1239, 1240, 1241, 1244, 1247, 1248, 1249, 1252, 1253, 1256, 1257, 1258, 1261, 1264, 1265, 1266, 1269, 1270, 1273, 1274, 1275, 1276, 1277, 1280, 1281, 1284, 1285, 1286, 1289, 1290, 1293, 1294, 1295, 1296, 1297, 1298, 1299, 1302, 1304, 1307, 1308, 1309, 1312, 1313, 1316, 1317, 1318, 1319, 1322, 1323, 1326, 1327, 1328, 1329, 1332, 1333, 1336, 1337, 1338, 1341, 1342, 1345, 1346, 1349, 1350]
def p_p_L_law : List Nat := [0, 3, 4, 7, 8, 9, 12, 15, 18, 21, 24, 27, 28, 29, 30, 31, 32, 34, 37, 38, 39, 42, 43, 44, 45, 46, 47, 50, 51, 52, 54, 57, 58, 59, 60, 61, 62, 63, 66, 67, 68, 71, 74, 75, 76, 77, 80, 83, 84, 87, 88, 89, 90, 92, 95, 98, 99, 102, 103, 104, 107, 110, 111, 112, 115, 117, 120, 121, 122, 125, 126, 129, 130, 131, 133, 136, 137, 140, 141, 142, 144, 147, 149, 152, 153, 156, 159, 160, 161, 162, 163, 164, 166, 169, 170, 171, 173, 174, 175, 176, 178, 179, 180, 183, 185, 188, 189, 192, 193, 194, 195, 196, 198, 199, 200, 203, 204, 205, 208, 211, 212, 213, 215, 218, 219, 222, 223, 224, 225, 228, 230, 233, 234, 235, 237, 240, 241, 244, 245, 246, 249, 251, 254, 255, 256, 259, 261, 264, 265, 266, 269, 270, 273, 274, 275, 276, 279, 280, 283, 284, 285, 287, 289, 290, 291, 292, 293, 295, 296, 298, 300, 302, 305, 306, 308, 310, 311, 314, 316, 318, 319, 320, 322, 325, 327, 329, 331, 334, 336, 337, 338, 339, 342, 343, 345, 347, 350, 351, 352, 353, 355, 356, 357, 360, 361, 364, 365, 367, 370, 371, 374, 375, 376, 378, 379, 382, 383, 385, 387, 389, 390, 391, 394, 397, 398, 401, 402, 405, 408, 410, 411, 414, 415, 417, 418, 420, 422, 423, 425, 428, 429, 432, 435, 437, 438, 441, 442, 443, 445, 447, 448, 450, 453, 454, 457, 460, 462, 463, 466, 467, 469, 471, 472, 474, 477, 480, 483, 485, 487, 490, 491, 493, 496, 499, 501, 503, 506, 507, 509, 511, 512, 514, 517, 519, 522, 525, 526, 528, 530, 531, 533, 536, 539, 541, 542, 544, 547, 548, 551, 552, 553, 554, 556, 559, 560, 563, 564, 565, 566, 567, 570, 571, 574, 575, 578, 579, 582, 583, 584, 587, 590, 591, 594, 597, 598, 599, 600, 601, 602, 605, 606, 607, 608, 611, 613, 616, 617, 618, 621, 622, 624, 627, 630, 631, 634, 636, 637, 640, 641, 643, 646, 647, 650, 651, 654, 655, 657, 660, 663, 664, 665, 666, 669, 670, 673, 674, 677, 678, 679, 680, 681, 684, 685, 686, 687, 689, 691, 692, 695, 697, 698, 701, 702, 705, 706, 708, 709, 712, 713, 716, 717, 718, 720, 721, 722, 723, 726, 727, 728, 731, 734, 735, 736, 739, 740, 743, 745, 748, 749, 752, 753]
def p_pcs : List (List Nat) := [p_p_X0_init, p_p_X0_copyFrom, p_p_X0_add, p_p_X0_all, p_p_X0_isLock, p_p_X0_overdueOnes, p_p_X0_bridgedOnes, p_p_X0_countingAsClosed, p_p_X0_endsFirst, p_p_X0_placeOfKey, p_p_X0_keysInLocks, p_p_X0_guardAllows, p_p_X0_canBeTested, p_p_X0_beginTest, p_p_X0_openSensor, p_p_X0_closeSensor, p_p_X0_tick, p_p_X1_init, p_p_X1_copyFrom, p_p_X1_rowAt, p_p_X1_addRow, p_p_X1_inputsOf, p_p_X1_inputsOfRows, p_p_X1_isPermitted, p_p_X1_permittedOnes, p_p_X1_withFirstOut, p_p_X1_fewestOpen, p_p_X1_begin, p_p_X1_stopUnpermitted, p_p_X1_leastOpened, p_p_X1_countTick, p_p_X2_init, p_p_X2_copyFrom, p_p_X3_init, p_p_X3_endOfRow, p_p_X3_isRow, p_p_X3_isDigit, p_p_X3_motionOfRow, p_p_X3_highestInputOfRow, p_p_X3_inputsOfRow, p_p_X3_rowsOfMotion, p_p_X4_init, p_p_X4_sensor, p_p_X4_lock, p_p_X4_essential, p_p_X4_input, p_p_X4_inputInfo, p_p_X4_keyIn, p_p_X4_keyOut, p_p_X4_key, p_p_X4_bridge, p_p_X4_unbridge, p_p_X4_bridged, p_p_X4_row, p_p_X4_dropRows, p_p_X4_exclude, p_p_X4_start, p_p_X4_why, p_p_X4_stop, p_p_X4_reset, p_p_X4_motion, p_p_X4_ways, p_p_X4_waysAgain, p_p_X4_needed, p_p_X4_test, p_p_X4_run, p_p_X4_count, p_p_X4_snapshot, p_p_X4_restore, p_p_X4_undo, p_p_X4_type, p_p_X4_clearText, p_p_X4_fault, p_p_X4_read, p_p_X4_isInput, p_p_X4_isKey, p_p_X4_isMotion, p_p_X4_isSnapshotPlace, p_p_X4_isYesOrNo, p_p_X4_has, p_p_X4_bitOf, p_p_X4_with, p_p_X4_least, p_p_X4_sum, p_p_X4_copyAll, p_p_X4_orNotFound, p_p_X4_rowOrNotFound, p_p_X4_isPermitted, p_p_X4_reasonAgainstStart, p_p_X4_remember, p_p_X4_forgetOldest, p_p_X4_lookAtMotions, p_p_X4_placeOfFault, p_p_X4_faultOfRow, p_p_J6_bitCount_0f7a4, p_p_L_part, p_p_L_take, p_p_L_mixed, p_p_L_state, p_p_L_refusesMotions, p_p_L_refused, p_p_L_types, p_p_L_isFault, p_p_L_texts, p_p_L_known, p_p_L_law]
/-- a method: name, code, locals, answer, (kind 0 static 1 virtual 2 init, arguments with the receiver, frames, locals' words), (class, places of its words: code, instanceMethod or static, selects) -/
abbrev pM : Type := MethodName × ByteArray × Nat × Option FieldType × (Nat × Nat × Nat × Nat) × (Nat × Nat × Nat × Nat)
def p_mts : List pM := [(yX0_init, cX0_init, 1, none, (2, 1, 1, 20), (0, 36, 35, 0)),
  (yX0_copyFrom, cX0_copyFrom, 2, none, (1, 2, 2, 47), (0, 201, 199, 200)),
  (yX0_add, cX0_add, 5, (some .int), (1, 4, 0, 0), (0, 219, 217, 218)),
  (yX0_all, cX0_all, 1, (some .int), (1, 1, 0, 0), (0, 339, 337, 338)),
  (yX0_isLock, cX0_isLock, 2, (some .boolean), (1, 2, 0, 0), (0, 241, 239, 240)),
  (yX0_overdueOnes, cX0_overdueOnes, 4, (some .int), (1, 1, 1, 23), (0, 256, 254, 255)),
  (yX0_bridgedOnes, cX0_bridgedOnes, 3, (some .int), (1, 1, 1, 23), (0, 249, 247, 248)),
  (yX0_countingAsClosed, cX0_countingAsClosed, 1, (some .int), (1, 1, 2, 46), (0, 245, 243, 244)),
  (yX0_endsFirst, cX0_endsFirst, 4, (some .int), (1, 2, 2, 42), (0, 514, 512, 513)),
  (yX0_placeOfKey, cX0_placeOfKey, 3, (some .int), (1, 2, 2, 42), (0, 310, 308, 309)),
  (yX0_keysInLocks, cX0_keysInLocks, 3, (some .int), (1, 1, 2, 42), (0, 316, 314, 315)),
  (yX0_guardAllows, cX0_guardAllows, 2, (some .boolean), (1, 2, 3, 66), (0, 505, 503, 504)),
  (yX0_canBeTested, cX0_canBeTested, 2, (some .boolean), (1, 2, 2, 42), (0, 386, 384, 385)),
  (yX0_beginTest, cX0_beginTest, 2, (some .int), (1, 2, 0, 0), (0, 390, 388, 389)),
  (yX0_openSensor, cX0_openSensor, 2, none, (1, 2, 1, 23), (0, 264, 262, 263)),
  (yX0_closeSensor, cX0_closeSensor, 2, none, (1, 2, 1, 23), (0, 260, 258, 259)),
  (yX0_tick, cX0_tick, 2, none, (1, 1, 0, 0), (0, 399, 397, 398)),
  (yX1_init, cX1_init, 2, none, (2, 1, 1, 20), (1, 95, 94, 0)),
  (yX1_copyFrom, cX1_copyFrom, 2, none, (1, 2, 2, 47), (1, 214, 212, 213)),
  (yX1_rowAt, cX1_rowAt, 3, (some .int), (1, 3, 0, 0), (1, 286, 284, 285)),
  (yX1_addRow, cX1_addRow, 3, (some .int), (1, 3, 0, 0), (1, 343, 341, 342)),
  (yX1_inputsOf, cX1_inputsOf, 2, (some .int), (1, 2, 3, 66), (1, 291, 289, 290)),
  (yX1_inputsOfRows, cX1_inputsOfRows, 5, (some .int), (1, 3, 2, 42), (1, 295, 293, 294)),
  (yX1_isPermitted, cX1_isPermitted, 4, (some .boolean), (1, 3, 1, 22), (1, 282, 280, 281)),
  (yX1_permittedOnes, cX1_permittedOnes, 4, (some .int), (1, 2, 2, 45), (1, 412, 410, 411)),
  (yX1_withFirstOut, cX1_withFirstOut, 3, (some .int), (1, 1, 0, 0), (1, 416, 414, 415)),
  (yX1_fewestOpen, cX1_fewestOpen, 6, (some .int), (1, 3, 1, 22), (1, 482, 480, 481)),
  (yX1_begin, cX1_begin, 2, none, (1, 2, 1, 23), (1, 364, 362, 363)),
  (yX1_stopUnpermitted, cX1_stopUnpermitted, 6, (some .int), (1, 4, 4, 87), (1, 272, 270, 271)),
  (yX1_leastOpened, cX1_leastOpened, 3, (some .int), (0, 2, 3, 63), (1, 298, 297, 0)),
  (yX1_countTick, cX1_countTick, 2, none, (1, 1, 2, 42), (1, 403, 401, 402)),
  (yX2_init, cX2_init, 1, none, (2, 1, 2, 41), (2, 30, 29, 0)),
  (yX2_copyFrom, cX2_copyFrom, 2, none, (1, 2, 3, 68), (2, 197, 195, 196)),
  (yX3_init, cX3_init, 1, none, (2, 1, 1, 20), (3, 151, 150, 0)),
  (yX3_endOfRow, cX3_endOfRow, 3, (some .int), (1, 2, 0, 0), (3, 558, 556, 557)),
  (yX3_isRow, cX3_isRow, 5, (some .boolean), (1, 3, 1, 20), (3, 534, 532, 533)),
  (yX3_isDigit, cX3_isDigit, 1, (some .boolean), (0, 1, 0, 0), (3, 538, 537, 0)),
  (yX3_motionOfRow, cX3_motionOfRow, 2, (some .int), (1, 2, 0, 0), (3, 549, 547, 548)),
  (yX3_highestInputOfRow, cX3_highestInputOfRow, 6, (some .int), (1, 3, 1, 26), (3, 542, 540, 541)),
  (yX3_inputsOfRow, cX3_inputsOfRow, 6, (some .int), (1, 3, 1, 23), (3, 577, 575, 576)),
  (yX3_rowsOfMotion, cX3_rowsOfMotion, 5, (some .int), (1, 3, 1, 21), (3, 553, 551, 552)),
  (yX4_init, cX4_init, 2, none, (2, 1, 3, 61), (4, 22, 21, 0)),
  (yX4_sensor, cX4_sensor, 2, (some .int), (1, 2, 5, 109), (4, 185, 183, 184)),
  (yX4_lock, cX4_lock, 3, (some .int), (1, 3, 5, 109), (4, 223, 221, 222)),
  (yX4_essential, cX4_essential, 4, (some .int), (1, 3, 5, 109), (4, 562, 560, 561)),
  (yX4_input, cX4_input, 4, (some .int), (1, 3, 6, 133), (4, 234, 232, 233)),
  (yX4_inputInfo, cX4_inputInfo, 4, (some .int), (1, 3, 3, 66), (4, 454, 452, 453)),
  (yX4_keyIn, cX4_keyIn, 3, (some .int), (1, 3, 5, 109), (4, 306, 304, 305)),
  (yX4_keyOut, cX4_keyOut, 4, (some .int), (1, 2, 6, 133), (4, 501, 499, 500)),
  (yX4_key, cX4_key, 2, (some .int), (1, 2, 3, 64), (4, 470, 468, 469)),
  (yX4_bridge, cX4_bridge, 4, (some .int), (1, 3, 5, 109), (4, 321, 319, 320)),
  (yX4_unbridge, cX4_unbridge, 3, (some .int), (1, 2, 6, 133), (4, 566, 564, 565)),
  (yX4_bridged, cX4_bridged, 4, (some .int), (1, 2, 3, 65), (4, 510, 508, 509)),
  (yX4_row, cX4_row, 3, (some .int), (1, 3, 5, 109), (4, 332, 330, 331)),
  (yX4_dropRows, cX4_dropRows, 3, (some .int), (1, 2, 5, 109), (4, 347, 345, 346)),
  (yX4_exclude, cX4_exclude, 6, (some .int), (1, 4, 5, 109), (4, 493, 491, 492)),
  (yX4_start, cX4_start, 2, (some .int), (1, 2, 5, 109), (4, 351, 349, 350)),
  (yX4_why, cX4_why, 2, (some .int), (1, 2, 5, 109), (4, 474, 472, 473)),
  (yX4_stop, cX4_stop, 2, (some .int), (1, 2, 5, 109), (4, 497, 495, 496)),
  (yX4_reset, cX4_reset, 3, (some .int), (1, 2, 5, 109), (4, 368, 366, 367)),
  (yX4_motion, cX4_motion, 4, (some .int), (1, 3, 4, 87), (4, 461, 459, 460)),
  (yX4_ways, cX4_ways, 7, (some .int), (1, 2, 4, 87), (4, 372, 370, 371)),
  (yX4_waysAgain, cX4_waysAgain, 9, (some .int), (1, 2, 4, 87), (4, 377, 375, 376)),
  (yX4_needed, cX4_needed, 2, (some .int), (1, 2, 3, 66), (4, 478, 476, 477)),
  (yX4_test, cX4_test, 2, (some .int), (1, 2, 5, 109), (4, 382, 380, 381)),
  (yX4_run, cX4_run, 6, (some .int), (1, 2, 5, 112), (4, 394, 392, 393)),
  (yX4_count, cX4_count, 4, (some .int), (1, 2, 3, 68), (4, 407, 405, 406)),
  (yX4_snapshot, cX4_snapshot, 2, (some .int), (1, 2, 4, 89), (4, 423, 421, 422)),
  (yX4_restore, cX4_restore, 2, (some .int), (1, 2, 5, 109), (4, 430, 428, 429)),
  (yX4_undo, cX4_undo, 1, (some .int), (1, 1, 4, 89), (4, 434, 432, 433)),
  (yX4_type, cX4_type, 2, (some .int), (1, 2, 0, 0), (4, 518, 516, 517)),
  (yX4_clearText, cX4_clearText, 2, (some .int), (1, 1, 0, 0), (4, 586, 584, 585)),
  (yX4_fault, cX4_fault, 3, (some .int), (1, 2, 4, 97), (4, 522, 520, 521)),
  (yX4_read, cX4_read, 4, (some .int), (1, 1, 5, 109), (4, 573, 571, 572)),
  (yX4_isInput, cX4_isInput, 2, (some .boolean), (1, 2, 0, 0), (4, 230, 229, 2)),
  (yX4_isKey, cX4_isKey, 1, (some .boolean), (0, 1, 0, 0), (4, 226, 225, 0)),
  (yX4_isMotion, cX4_isMotion, 1, (some .boolean), (0, 1, 0, 0), (4, 335, 334, 0)),
  (yX4_isSnapshotPlace, cX4_isSnapshotPlace, 1, (some .boolean), (0, 1, 0, 0), (4, 426, 425, 0)),
  (yX4_isYesOrNo, cX4_isYesOrNo, 1, (some .boolean), (0, 1, 0, 0), (4, 237, 236, 0)),
  (yX4_has, cX4_has, 2, (some .boolean), (0, 2, 1, 21), (4, 275, 274, 0)),
  (yX4_bitOf, cX4_bitOf, 2, (some .int), (0, 2, 0, 0), (4, 278, 277, 0)),
  (yX4_with, cX4_with, 4, (some .int), (0, 3, 0, 0), (4, 252, 251, 0)),
  (yX4_least, cX4_least, 2, (some .int), (0, 1, 2, 42), (4, 301, 300, 0)),
  (yX4_sum, cX4_sum, 6, (some .int), (0, 1, 0, 0), (4, 419, 418, 0)),
  (yX4_copyAll, cX4_copyAll, 2, none, (0, 2, 1, 26), (4, 204, 203, 0)),
  (yX4_orNotFound, cX4_orNotFound, 1, (some .int), (0, 1, 0, 0), (4, 457, 456, 0)),
  (yX4_rowOrNotFound, cX4_rowOrNotFound, 3, (some .int), (1, 3, 1, 22), (4, 465, 464, 6)),
  (yX4_isPermitted, cX4_isPermitted, 2, (some .boolean), (1, 2, 3, 66), (4, 359, 358, 5)),
  (yX4_reasonAgainstStart, cX4_reasonAgainstStart, 3, (some .int), (1, 2, 4, 87), (4, 355, 354, 4)),
  (yX4_remember, cX4_remember, 1, none, (1, 1, 4, 89), (4, 189, 188, 0)),
  (yX4_forgetOldest, cX4_forgetOldest, 3, none, (1, 1, 0, 0), (4, 193, 192, 1)),
  (yX4_lookAtMotions, cX4_lookAtMotions, 2, (some .int), (1, 2, 5, 112), (4, 268, 267, 3)),
  (yX4_placeOfFault, cX4_placeOfFault, 3, (some .int), (1, 1, 3, 75), (4, 526, 525, 7)),
  (yX4_faultOfRow, cX4_faultOfRow, 5, (some .int), (1, 3, 2, 51), (4, 530, 529, 8)),
  (yJ6_bitCount_0f7a4, cJ6_bitCount_0f7a4, 1, (some .int), (0, 1, 0, 0), (7, 325, 324, 0)),
  (yL_part, cL_part, 2, (some .int), (0, 2, 0, 0), (6, 437, 436, 0)),
  (yL_take, cL_take, 2, (some .int), (0, 2, 0, 0), (6, 441, 440, 0)),
  (yL_mixed, cL_mixed, 4, (some .long), (0, 2, 0, 0), (6, 449, 448, 0)),
  (yL_state, cL_state, 4, (some .long), (0, 1, 6, 130), (6, 445, 444, 0)),
  (yL_refusesMotions, cL_refusesMotions, 3, (some .boolean), (0, 1, 7, 156), (6, 489, 488, 0)),
  (yL_refused, cL_refused, 6, (some .boolean), (0, 1, 8, 178), (6, 486, 485, 0)),
  (yL_types, cL_types, 5, none, (0, 2, 1, 21), (6, 589, 588, 0)),
  (yL_isFault, cL_isFault, 9, (some .boolean), (0, 6, 5, 119), (6, 582, 581, 0)),
  (yL_texts, cL_texts, 2, (some .boolean), (0, 0, 7, 156), (6, 569, 568, 0)),
  (yL_known, cL_known, 1, (some .boolean), (0, 0, 7, 156), (6, 618, 617, 0)),
  (yL_law, cL_law, 11, (some .boolean), (0, 1, 9, 203), (6, 0, 0, 0))]
/-- the upper halves of the places of longs -/
def p_ups : List (Nat × List Nat) := [(97, [1, 3]), (98, [2]), (100, [2]), (101, [2]), (102, [2, 4, 6]), (105, [5])]
def p_FL : List (Nat × Nat × Nat × Nat × Nat) := [(0, 9, 0, 0, 38), (0, 15, 0, 1, 40), (0, 18, 0, 2, 42), (0, 21, 0, 3, 44), (0, 24, 0, 4, 46), (0, 27, 0, 5, 48), (0, 31, 0, 6, 50), (0, 34, 0, 7, 52), (0, 37, 0, 8, 54), (0, 40, 0, 9, 56), (0, 43, 0, 10, 58), (0, 46, 0, 11, 60), (0, 49, 0, 12, 62), (1, 9, 1, 0, 97), (1, 15, 1, 1, 99), (1, 19, 1, 2, 100), (1, 22, 1, 3, 102), (1, 25, 1, 4, 104), (1, 28, 1, 5, 106), (1, 31, 1, 6, 108), (1, 34, 1, 7, 110), (1, 37, 1, 8, 112), (1, 40, 1, 9, 114), (2, 10, 2, 0, 137), (2, 19, 2, 1, 139), (3, 9, 3, 0, 153), (3, 15, 3, 1, 155), (4, 10, 4, 0, 163), (4, 16, 4, 1, 164), (4, 20, 4, 2, 165), (4, 24, 4, 3, 166), (4, 27, 4, 4, 167), (4, 33, 4, 5, 168), (4, 37, 2, 0, 138), (4, 41, 0, 0, 39), (4, 71, 0, 4, 47), (4, 99, 0, 3, 45), (4, 105, 0, 7, 53), (4, 109, 0, 8, 55), (4, 112, 0, 9, 57), (4, 115, 0, 10, 59), (4, 118, 0, 11, 61), (4, 121, 0, 5, 49), (4, 127, 0, 6, 51), (4, 153, 2, 1, 140), (4, 157, 1, 0, 98), (4, 162, 1, 2, 101), (4, 168, 1, 3, 103), (4, 177, 1, 8, 113), (4, 180, 1, 4, 105), (4, 186, 1, 5, 107), (4, 189, 1, 9, 115), (4, 192, 1, 7, 111), (4, 195, 1, 6, 109), (4, 218, 0, 1, 41), (4, 241, 0, 2, 43), (4, 244, 3, 1, 156), (4, 254, 3, 0, 154)]
/-- links of methods: class, entry, method, 0 plain or 1 of a nest mate, place -/
def p_ML : List (Nat × Nat × Nat × Nat × Nat) := [(0, 52, 84, 1, 202), (0, 56, 81, 1, 250), (0, 60, 6, 0, 246), (0, 64, 5, 0, 253), (0, 67, 79, 1, 311), (0, 71, 4, 0, 317), (0, 75, 7, 0, 506), (1, 43, 84, 1, 215), (1, 47, 22, 0, 292), (1, 51, 79, 1, 273), (1, 55, 19, 0, 283), (1, 58, 23, 0, 279), (1, 61, 94, 0, 483), (1, 67, 81, 1, 287), (1, 71, 21, 0, 288), (1, 74, 29, 0, 296), (1, 77, 82, 1, 299), (2, 9, 0, 1, 34), (2, 18, 17, 0, 93), (2, 23, 1, 0, 198), (2, 27, 18, 0, 211), (3, 19, 76, 1, 535), (3, 23, 36, 0, 536), (3, 33, 81, 1, 578), (3, 37, 37, 0, 554), (4, 9, 31, 1, 28), (4, 32, 33, 1, 149), (4, 46, 89, 0, 186), (4, 49, 2, 0, 216), (4, 53, 75, 0, 224), (4, 57, 74, 0, 227), (4, 60, 78, 0, 235), (4, 63, 6, 0, 322), (4, 67, 79, 0, 302), (4, 74, 80, 0, 276), (4, 78, 81, 0, 312), (4, 82, 4, 0, 238), (4, 85, 7, 0, 242), (4, 88, 15, 0, 257), (4, 92, 14, 0, 261), (4, 95, 91, 0, 265), (4, 102, 5, 0, 408), (4, 124, 85, 0, 455), (4, 130, 9, 0, 307), (4, 133, 10, 0, 313), (4, 136, 11, 0, 502), (4, 139, 94, 0, 323), (4, 144, 8, 0, 511), (4, 147, 76, 0, 333), (4, 150, 3, 0, 336), (4, 165, 20, 0, 340), (4, 171, 88, 0, 352), (4, 174, 27, 0, 361), (4, 183, 87, 0, 356), (4, 198, 86, 0, 462), (4, 201, 21, 0, 373), (4, 204, 23, 0, 360), (4, 206, 22, 0, 378), (4, 209, 26, 0, 479), (4, 212, 12, 0, 383), (4, 215, 13, 0, 387), (4, 222, 16, 0, 396), (4, 225, 28, 0, 269), (4, 228, 30, 0, 400), (4, 231, 24, 0, 409), (4, 234, 25, 0, 413), (4, 237, 83, 0, 417), (4, 247, 77, 0, 424), (4, 250, 32, 0, 194), (4, 258, 92, 0, 523), (4, 261, 34, 0, 555), (4, 264, 93, 0, 527), (4, 267, 37, 0, 546), (4, 270, 39, 0, 574), (4, 284, 19, 0, 466), (4, 287, 90, 0, 190), (4, 290, 35, 0, 531), (4, 293, 38, 0, 539), (4, 296, 40, 0, 550), (6, 13, 66, 0, 404), (6, 19, 97, 0, 447), (6, 25, 46, 0, 451), (6, 29, 60, 0, 458), (6, 32, 49, 0, 467), (6, 35, 57, 0, 471), (6, 38, 63, 0, 475), (6, 41, 53, 0, 329), (6, 44, 54, 0, 344), (6, 47, 55, 0, 490), (6, 51, 56, 0, 348), (6, 54, 58, 0, 494), (6, 57, 59, 0, 365), (6, 60, 61, 0, 369), (6, 63, 62, 0, 374), (6, 66, 43, 0, 220), (6, 69, 48, 0, 498), (6, 72, 47, 0, 303), (6, 75, 98, 0, 443), (6, 79, 99, 0, 487), (6, 83, 42, 0, 182), (6, 86, 52, 0, 507), (6, 89, 65, 0, 391), (6, 92, 67, 0, 420), (6, 95, 68, 0, 427), (6, 98, 70, 0, 515), (6, 101, 72, 0, 519), (6, 104, 44, 0, 559), (6, 107, 45, 0, 231), (6, 110, 50, 0, 318), (6, 113, 51, 0, 563), (6, 116, 64, 0, 379), (6, 121, 71, 0, 583), (6, 125, 101, 0, 587), (6, 129, 41, 0, 20), (6, 130, 73, 0, 570), (6, 135, 102, 0, 580), (6, 189, 69, 0, 431), (6, 192, 100, 0, 484), (6, 195, 103, 0, 567), (6, 199, 104, 0, 616), (6, 202, 96, 0, 439), (6, 206, 95, 0, 435)]
def p_NL : List (Nat × Nat × Nat × Nat) := [(2, 7, 0, 32), (2, 16, 1, 91), (4, 7, 2, 26), (4, 30, 3, 147), (6, 14, 4, 18)]
def p_OL : List (Nat × Nat × Nat) := [(0, 3, 37), (1, 3, 96), (2, 1, 31), (3, 3, 152), (4, 1, 23)]
def p_KL : List (Nat × Nat × Nat × Nat) := [(3, 27, 26, 543), (4, 273, 27, 205)]
end
section
/-! THE PURE MACHINE: the same instructions over a heap of cells at the places 0, 1, 2 .. (place 0 is the script); what it runs, the Java machine runs (part 05) -/
abbrev pR : Type := Nat → Nat → Int32
abbrev pF : Type := Nat → Nat → Option Nat
/-- kind and size of each cell, the numbers in them, the references in them -/
abbrev pH : Type := List (Nat × Nat) × pR × pF
abbrev pL : Type := List (Option Value)
def u2 (f : pR) (k j : Nat) (v : Int32) : pR := fun a => if a = k then upd (f k) j v else f a
def q2 (f : pF) (k j : Nat) (v : Option Nat) : pF := fun a => if a = k then va_up (f k) j v else f a
def z2 (f : pR) (k : Nat) : pR := fun a => if a = k then (fun _ => 0) else f a
def n2 (f : pF) (k : Nat) : pF := fun a => if a = k then (fun _ => none) else f a
def c2 (f : pR) (s d sp dp n : Nat) : pR := fun a => if a = d then va_cpy (f s) (f d) sp dp n else f a
abbrev p_cl : List vw_C := [(RX0, TX0, 13), (RX1, TX1, 10), (RX2, TX2, 2), (RX3, TX3, 2), (RX4, TX4, 6), (RX0, TX0, 13)]
def p_cn (o : Nat) : String := match o with
  | 0 => RX0 | 1 => RX1 | 2 => RX2 | 3 => RX3 | 4 => RX4 | 5 => RX0 | 6 => RL | 7 => RJ6 | _ => RJ9
def p_T (a : Nat) : u_T := match a with
  | 0 => TX0 | 1 => TX1 | 2 => TX2 | 3 => TX3 | 4 => TX4 | _ => TX0
def p_ty (a : Nat) : Nat → FieldType := match a with
  | 0 => tyX0 | 1 => tyX1 | 2 => tyX2 | 3 => tyX3 | 4 => tyX4 | _ => tyX0
def p_N (a : Nat) : Nat := match a with
  | 0 => 13 | 1 => 10 | 2 => 2 | 3 => 2 | 4 => 6 | _ => 13
def p_tyI (t : FieldType) : Bool := match t with
  | .int => true
  | .boolean => true
  | _ => false
def p_isI (a j : Nat) : Bool := p_tyI (p_ty a j)
def p_isZ (a j : Nat) : Bool := match p_ty a j with
  | .boolean => true
  | _ => false
def p_mt (k : Nat) : pM := p_mts.getD k (yL_law, code, 0, none, (0, 0, 0, 0), (0, 0, 0, 0))
def p_y (k : Nat) : MethodName := (p_mt k).1
def p_by (k : Nat) : ByteArray := (p_mt k).2.1
def p_ml (k : Nat) : Nat := (p_mt k).2.2.1
def p_rt (k : Nat) : Option FieldType := (p_mt k).2.2.2.1
def p_kd (k : Nat) : Nat := (p_mt k).2.2.2.2.1.1
def p_na (k : Nat) : Nat := (p_mt k).2.2.2.2.1.2.1
def p_fr (k : Nat) : Nat := (p_mt k).2.2.2.2.1.2.2.1
def p_lo (k : Nat) : Nat := (p_mt k).2.2.2.2.1.2.2.2
def p_ow (k : Nat) : Nat := (p_mt k).2.2.2.2.2.1
def p_wc (k : Nat) : Nat := (p_mt k).2.2.2.2.2.2.1
def p_wi (k : Nat) : Nat := (p_mt k).2.2.2.2.2.2.2.1
def p_wl (k : Nat) : Nat := (p_mt k).2.2.2.2.2.2.2.2
def p_alu (a : Nat) (x y : Int32) : Int32 := match a with
  | 0 => x + y
  | 1 => x - y
  | 2 => x * y
  | 3 => x &&& y
  | 4 => x ||| y
  | 5 => x ^^^ y
  | 6 => x <<< (y &&& 31)
  | 7 => x >>> (y &&& 31)
  | _ => (x.toUInt32 >>> (y.toUInt32 &&& Int32.toUInt32 31)).toInt32
def p_cmp (a : Nat) (x y : Int32) : Bool := match a with
  | 0 => decide (x = y)
  | 1 => decide (¬ x = y)
  | 2 => decide (x < y)
  | 3 => decide (y ≤ x)
  | 4 => decide (y < x)
  | _ => decide (x ≤ y)
def p_c1 (S : List Value) : Bool := S.all fun v => v.category == 1
def p_in (i : Int32) (n : Nat) : Bool := decide (¬ (i < 0 ∨ n ≤ i.toNatClampNeg))
def p_fit (b : Nat) (x : Int32) : Bool := match b with
  | 10 => true
  | 11 => decide (vp_nar .char x = x)
  | 12 => decide (vp_nar .boolean x = x)
  | _ => false
def p_z (a : Bool) (x : Int32) : Bool := !a || (x == 0 || x == 1)
abbrev pO : Type := Option (pL × List Value × pH)
def o1 (a : Nat) (L : pL) (S : List Value) (h : pH) : pO := match L[a]? with
  | some (some (.int x)) => some (L, .int x :: S, h)
  | _ => none
def o2 (a : Nat) (L : pL) (S : List Value) (h : pH) : pO := match L[a]? with
  | some (some (.ref x)) => some (L, .ref x :: S, h)
  | _ => none
def o3 (a : Nat) (L : pL) (S : List Value) (h : pH) : pO := match S with
  | .int x :: S => if a < L.length then some (L.set a (some (.int x)), S, h) else none
  | _ => none
def o4 (a : Nat) (L : pL) (S : List Value) (h : pH) : pO := match S with
  | .ref x :: S => if a < L.length then some (L.set a (some (.ref x)), S, h) else none
  | _ => none
def o5 (a : Nat) (z : Int32) (L : pL) (S : List Value) (h : pH) : pO := match L[a]? with
  | some (some (.int x)) => some (L.set a (some (.int (x + z))), S, h)
  | _ => none
def o6 (a : Nat) (L : pL) (S : List Value) (h : pH) : pO := match S with
  | .int y :: .int x :: S => some (L, .int (p_alu a x y) :: S, h)
  | _ => none
def o7 (L : pL) (S : List Value) (h : pH) : pO := match S with
  | .int x :: S => some (L, .int (-x) :: S, h)
  | _ => none
def o8 (L : pL) (S : List Value) (h : pH) : pO := match S with
  | .int y :: .int x :: S => if y = 0 then none else some (L, .int (x - x / y * y) :: S, h)
  | _ => none
def o9 (L : pL) (S : List Value) (h : pH) : pO := match S with
  | .int x :: S => some (L, .int ((x.toUInt32 % 65536).toInt32) :: S, h)
  | _ => none
def o10 (L : pL) (S : List Value) (h : pH) : pO := match S with
  | v :: S => if v.category = 1 then some (L, v :: v :: S, h) else none
  | _ => none
def o11 (L : pL) (S : List Value) (h : pH) : pO := match S with
  | v :: w :: S => if v.category = 1 ∧ w.category = 1 then some (L, v :: w :: v :: w :: S, h) else none
  | _ => none
def o12 (L : pL) (S : List Value) (h : pH) : pO := match S with
  | v :: S => if v.category = 1 then some (L, S, h) else none
  | _ => none
def o13 (b : Nat) (L : pL) (S : List Value) (h : pH) : pO := match S with
  | .int i :: .ref o :: S => match h.1[o]? with
    | some (kd, n) => if kd = b ∧ p_in i n = true then some (L, .int (h.2.1 o i.toNatClampNeg) :: S, h) else none
    | none => none
  | _ => none
def o14 (L : pL) (S : List Value) (h : pH) : pO := match S with
  | .int i :: .ref o :: S => match h.1[o]? with
    | some (kd, n) => if kd = 13 ∧ 1 ≤ o ∧ p_in i n = true then some (L, va_rf (h.2.2 o i.toNatClampNeg) :: S, h) else none
    | none => none
  | _ => none
def o15 (b : Nat) (L : pL) (S : List Value) (h : pH) : pO := match S with
  | .int x :: .int i :: .ref o :: S => match h.1[o]? with
    | some (kd, n) => if kd = b ∧ 1 ≤ o ∧ p_in i n = true ∧ p_fit b x = true then some (L, S, h.1, u2 h.2.1 o i.toNatClampNeg x, h.2.2) else none
    | none => none
  | _ => none
def o16 (L : pL) (S : List Value) (h : pH) : pO := match S with
  | .ref v :: .int i :: .ref o :: S => match h.1[o]?, h.1[v]? with
    | some (kd, n), some (kv, nv) => if kd = 13 ∧ 1 ≤ o ∧ p_in i n = true ∧ kv = 2 ∧ 1 ≤ v then some (L, S, h.1, h.2.1, q2 h.2.2 o i.toNatClampNeg (some v)) else none
    | _, _ => none
  | _ => none
def o17 (L : pL) (S : List Value) (h : pH) : pO := match S with
  | .ref o :: S => match h.1[o]? with
    | some (kd, n) => if 10 ≤ kd ∧ kd ≤ 13 then some (L, .int (Int32.ofNat n) :: S, h) else none
    | none => none
  | _ => none
def o18 (a b : Nat) (L : pL) (S : List Value) (h : pH) : pO := match S with
  | .ref o :: S => match h.1[o]? with
    | some (kd, n) => if kd = a ∧ a < 6 ∧ n = p_N a ∧ b < n ∧ 1 ≤ o then some (L, (if p_isI a b = true then .int (h.2.1 o b) else va_rf (h.2.2 o b)) :: S, h) else none
    | none => none
  | _ => none
def o19 (a b : Nat) (L : pL) (S : List Value) (h : pH) : pO := match S with
  | .int x :: .ref o :: S => match h.1[o]? with
    | some (kd, n) => if kd = a ∧ a < 6 ∧ n = p_N a ∧ b < n ∧ 1 ≤ o ∧ p_isI a b = true ∧ p_z (p_isZ a b) x = true then some (L, S, h.1, u2 h.2.1 o b x, h.2.2) else none
    | none => none
  | .ref x :: .ref o :: S => match h.1[o]? with
    | some (kd, n) => if kd = a ∧ a < 6 ∧ n = p_N a ∧ b < n ∧ 1 ≤ o ∧ p_isI a b = false then some (L, S, h.1, h.2.1, q2 h.2.2 o b (some x)) else none
    | none => none
  | _ => none
def o21 (a : Nat) (L : pL) (S : List Value) (h : pH) : pO :=
  if a < 6 ∧ 1 ≤ h.1.length then some (L, .ref h.1.length :: S, h.1 ++ [(a, p_N a)], z2 h.2.1 h.1.length, n2 h.2.2 h.1.length) else none
def o22 (a : Nat) (L : pL) (S : List Value) (h : pH) : pO := match S with
  | .int n :: S => if ¬ n < 0 ∧ n.toNatClampNeg ≤ 100000 ∧ 1 ≤ h.1.length ∧ (a = 10 ∨ a = 11 ∨ a = 12) then some (L, .ref h.1.length :: S, h.1 ++ [(a, n.toNatClampNeg)], z2 h.2.1 h.1.length, n2 h.2.2 h.1.length) else none
  | _ => none
def o23 (L : pL) (S : List Value) (h : pH) : pO := match S with
  | .int n :: S => if ¬ n < 0 ∧ n.toNatClampNeg ≤ 100000 ∧ 1 ≤ h.1.length then some (L, .ref h.1.length :: S, h.1 ++ [(13, n.toNatClampNeg)], z2 h.2.1 h.1.length, n2 h.2.2 h.1.length) else none
  | _ => none
def o24 (L : pL) (S : List Value) (h : pH) : pO := match S with
  | .ref _ :: S => if S.length ≤ 8 ∧ p_c1 S = true then some (L, S, h) else none
  | _ => none
def o25 (L : pL) (S : List Value) (h : pH) : pO := match S with
  | [.int n, .int dp, .ref d, .int sp, .ref s] => match h.1[s]?, h.1[d]? with
    | some (k1, n1), some (k2, n2) => if k1 = 10 ∧ k2 = 10 ∧ 1 ≤ s ∧ 1 ≤ d ∧ ¬ sp < 0 ∧ ¬ dp < 0 ∧ ¬ n < 0 ∧ sp.toNatClampNeg + n.toNatClampNeg ≤ n1 ∧ dp.toNatClampNeg + n.toNatClampNeg ≤ n2 then some (L, [], h.1, c2 h.2.1 s d sp.toNatClampNeg dp.toNatClampNeg n.toNatClampNeg, h.2.2) else none
    | _, _ => none
  | _ => none
/-- a long in the cells of references: its bits as a natural -/
def p_l (r : Option Nat) : Int64 := match r with
  | some n => Int64.ofNat n
  | none => 0
/-- longs -/
def ol0 (b : Nat) (L : pL) (S : List Value) (h : pH) : pO := some (L, .long (Int64.ofNat b) :: S, h)
def ol1 (b : Nat) (L : pL) (S : List Value) (h : pH) : pO := match L[b]? with
  | some (some (.long x)) => some (L, .long x :: S, h)
  | _ => none
def ol2 (b : Nat) (L : pL) (S : List Value) (h : pH) : pO := match S with
  | .long x :: S => if b + 1 < L.length then some ((L.set b (some (.long x))).set (b + 1) none, S, h) else none
  | _ => none
def ol3 (a : Nat) (L : pL) (S : List Value) (h : pH) : pO := match S with
  | .long y :: .long x :: S => some (L, (if a = 3 then .long (x + y) else if a = 4 then .long (x * y) else if a = 5 then .long (x &&& y) else .int (lg_cmp x y)) :: S, h)
  | _ => none
def ol6 (L : pL) (S : List Value) (h : pH) : pO := match S with
  | .int y :: .long x :: S => some (L, .long (x >>> (y.toInt64 &&& 63)) :: S, h)
  | _ => none
def ol8 (L : pL) (S : List Value) (h : pH) : pO := match S with
  | .int x :: S => some (L, .long x.toInt64 :: S, h)
  | _ => none
def ol9 (L : pL) (S : List Value) (h : pH) : pO := match S with
  | .long x :: S => some (L, .int x.toInt32 :: S, h)
  | _ => none
def ol10 (L : pL) (S : List Value) (h : pH) : pO := match S with
  | .int i :: .ref o :: S => match h.1[o]? with
    | some (kd, n) => if kd = 12 ∧ 1 ≤ o ∧ p_in i n = true then some (L, .long (p_l (h.2.2 o i.toNatClampNeg)) :: S, h) else none
    | none => none
  | _ => none
def ol11 (L : pL) (S : List Value) (h : pH) : pO := match S with
  | .long x :: .int i :: .ref o :: S => match h.1[o]? with
    | some (kd, n) => if kd = 12 ∧ 1 ≤ o ∧ p_in i n = true then some (L, S, h.1, h.2.1, q2 h.2.2 o i.toNatClampNeg (some x.toUInt64.toNat)) else none
    | none => none
  | _ => none
def ol12 (L : pL) (S : List Value) (h : pH) : pO := match S with
  | .int y :: .int x :: S => if y = 0 then none else some (L, .int (x / y) :: S, h)
  | _ => none
def o28 (a b : Nat) (L : pL) (S : List Value) (h : pH) : pO := match a with
  | 0 => ol0 b L S h
  | 1 => ol1 b L S h
  | 2 => ol2 b L S h
  | 3 => ol3 3 L S h
  | 4 => ol3 4 L S h
  | 5 => ol3 5 L S h
  | 6 => ol6 L S h
  | 7 => ol3 7 L S h
  | 8 => ol8 L S h
  | 9 => ol9 L S h
  | 10 => ol10 L S h
  | 11 => ol11 L S h
  | 12 => ol12 L S h
  | _ => none
/-- Math.max (26), Math.min (27) -/
def o26 (L : pL) (S : List Value) (h : pH) : pO := match S with
  | .int y :: .int x :: S => if S.length ≤ 8 ∧ p_c1 S = true then some (L, .int (if x < y then y else x) :: S, h) else none
  | _ => none
def o27 (L : pL) (S : List Value) (h : pH) : pO := match S with
  | .int y :: .int x :: S => if S.length ≤ 8 ∧ p_c1 S = true then some (L, .int (if y < x then y else x) :: S, h) else none
  | _ => none
def p_op (o a b : Nat) (z : Int32) (L : pL) (S : List Value) (h : pH) : pO := match o with
  | 0 => some (L, .int z :: S, h)
  | 1 => o1 a L S h
  | 2 => o2 a L S h
  | 3 => o3 a L S h
  | 4 => o4 a L S h
  | 5 => o5 a z L S h
  | 6 => o6 a L S h
  | 7 => o7 L S h
  | 8 => o8 L S h
  | 9 => o9 L S h
  | 10 => o10 L S h
  | 11 => o11 L S h
  | 12 => o12 L S h
  | 13 => o13 b L S h
  | 14 => o14 L S h
  | 15 => o15 b L S h
  | 16 => o16 L S h
  | 17 => o17 L S h
  | 18 => o18 a b L S h
  | 19 => o19 a b L S h
  | 20 => o19 a b L S h
  | 21 => o21 a L S h
  | 22 => o22 a L S h
  | 23 => o23 L S h
  | 24 => o24 L S h
  | 25 => o25 L S h
  | 26 => o26 L S h
  | 27 => o27 L S h
  | 28 => o28 a b L S h
  | _ => none
/-- a branch: where it goes -/
def p_br (o a b : Nat) (z : Int32) (t : List Nat) (i : Nat) (S : List Value) : Option (Nat × List Value) := match o with
  | 30 => some (b, S)
  | 31 => match S with
    | .int y :: .int x :: S => some (if p_cmp a x y = true then b else i + 1, S)
    | _ => none
  | 32 => match S with
    | .int x :: S => some (if p_cmp a x 0 = true then b else i + 1, S)
    | _ => none
  | 33 => match S with
    | .int x :: S => some (if x.toInt < z.toInt ∨ z.toInt + t.length ≤ x.toInt then b else t.getD (x.toInt - z.toInt).toNat 0, S)
    | _ => none
  | _ => none
/-- what a call asks of its arguments -/
def p_call (o a : Nat) (args : List Value) (h : pH) : Bool := match o with
  | 40 => true
  | 41 => match args with
    | .ref r :: _ => match h.1[r]? with
      | some (kd, _) => kd == p_ow a && (decide (1 ≤ r) && decide (kd < 6))
      | none => false
    | _ => false
  | 42 => match args with
    | .ref _ :: _ => true
    | _ => false
  | 43 => true
  | 44 => match args with
    | .ref r :: _ => match h.1[r]? with
      | some (kd, _) => kd == p_ow a && (decide (1 ≤ r) && decide (kd < 6))
      | none => false
    | _ => false
  | _ => false
/-- an answer -/
def p_ret (o : Nat) (S : List Value) : Option (Option Value) := match o with
  | 50 => match S with
    | [] => some none
    | _ => none
  | 51 => match S with
    | [.int x] => some (some (.int x))
    | _ => none
  | 52 => match S with
    | [.int x] => if x = 0 ∨ x = 1 then some (some (.int x)) else none
    | _ => none
  | 53 => match S with
    | [.long x] => some (some (.long x))
    | _ => none
  | _ => none
/-- arguments as they lie in the locals: a long takes two places -/
def p_e2 : List Value → pL
  | [] => []
  | v :: vs => if v.category = 2 then some v :: none :: p_e2 vs else some v :: p_e2 vs
def p_ent (k : Nat) (args : List Value) : pL := p_e2 args ++ List.replicate (p_ml k - (p_e2 args).length) none
def p_cs (S : List Value) : Nat := (S.map fun v => v.category).sum
def p_up (k : Nat) : List Nat := match p_ups.find? (fun q => q.1 == k) with
  | some q => q.2
  | none => []
def p_ok2 (up : List Nat) : Nat → List Value → Bool
  | _, [] => true
  | i, v :: vs => if v.category = 2 then up.contains (i + 1) && p_ok2 up (i + 2) vs else p_ok2 up (i + 1) vs
/-- what a call asks of the stack -/
def p_cc (o a b : Nat) (S : List Value) : Bool :=
  if o < 43 then decide (b ≤ S.length) && (decide ((S.drop b).length ≤ 8) && p_c1 S)
  else decide (b ≤ S.length) && (decide (p_cs (S.drop b) ≤ 8) && (p_ok2 (p_up a) 0 (S.take b).reverse && decide ((p_e2 (S.take b).reverse).length ≤ p_ml a)))
def pex : Nat → List pI → Nat → pL → List Value → pH → Option (Option Value × pH)
  | 0, _, _, _, _, _ => none
  | n + 1, cd, i, L, S, h => match cd[i]? with
    | none => none
    | some (o, a, b, z, t) =>
      if o < 30 then match p_op o a b z L S h with
        | none => none
        | some (L', S', h') => pex n cd (i + 1) L' S' h'
      else if o < 40 then match p_br o a b z t i S with
        | none => none
        | some (i', S') => pex n cd i' L S' h
      else if o < 50 then
        if p_cc o a b S = true ∧ p_call o a (S.take b).reverse h = true then
          match pex n (p_cd a) 0 (p_ent a (S.take b).reverse) [] h with
          | none => none
          | some (r, h') => pex n cd (i + 1) L (r.toList ++ S.drop b) h'
        else none
      else match p_ret o S with
        | none => none
        | some r => some (r, h)
end
section
/-! every instruction of every method is what the printed bytes decode to, and every link stands in the tables -/
def p_f4 (a : Nat) : Fin 4 := ⟨a % 4, Nat.mod_lt _ (by decide)⟩
def p_cnd (a : Nat) : Jvm.ClassFile.Cond := match a with
  | 0 => .eq | 1 => .ne | 2 => .lt | 3 => .ge | 4 => .gt | _ => .le
def p_at (a : Nat) : Jvm.ClassFile.ArrayType := match a with
  | 10 => .int | 11 => .char | _ => .long
def p_pc (k i : Nat) : Nat := (p_pcs.getD k []).getD i 0
def p_dj (k i : Nat) (ins : Jvm.ClassFile.Instr) (len : Nat) : Bool := decide (decode (p_by k) (p_pc k i) = .ok (ins, len))
def p_de (k i : Nat) (ins : Jvm.ClassFile.Instr) (len : Nat) : Bool := p_dj k i ins len && p_pc k (i + 1) == p_pc k i + len
def p_off (k i b : Nat) : Int := (p_pc k b : Int) - (p_pc k i : Int)
def p_inv (k i a b idx : Nat) (kd : Nat) : Bool := p_ML.any (fun q => q.1 == p_ow k && q.2.1 == idx && q.2.2.1 == a) && p_kd a == kd && b == p_na a && decide (p_fr a + 1 ≤ p_fr k) && decide (8 + (p_ml a + 11) + p_lo a ≤ p_lo k) && decide (a < 105)
def p_fl (k a b idx : Nat) : Bool := p_FL.any (fun q => q.1 == p_ow k && q.2.1 == idx && q.2.2.1 == a && q.2.2.2.1 == b)
def p_ck (k i o a b : Nat) (z : Int32) (t : List Nat) : Bool := match o with
  | 0 => match a with
    | 0 => p_de k i (.iconst z.toInt) 1 && decide (Int32.ofInt z.toInt = z)
    | 1 => p_de k i (.bipush z.toInt) 2 && decide ((Int8.ofInt z.toInt).toInt32 = z)
    | 2 => p_de k i (.sipush z.toInt) 3 && decide ((Int16.ofInt z.toInt).toInt32 = z)
    | 3 => p_de k i (.ldc (t.getD 0 0)) 2 && decide (lw_tbl[t.getD 1 0]? = some (.constant (p_cn (p_ow k)) (t.getD 0 0) z))
    | _ => p_de k i (.ldc_w (t.getD 0 0)) 3 && decide (lw_tbl[t.getD 1 0]? = some (.constant (p_cn (p_ow k)) (t.getD 0 0) z))
  | 1 => if b = 0 then p_de k i (.iload_n (p_f4 a)) 1 && decide (a < 4) else p_de k i (.iload a) 2
  | 2 => if b = 0 then p_de k i (.aload_n (p_f4 a)) 1 && decide (a < 4) else p_de k i (.aload a) 2
  | 3 => (if b = 0 then p_de k i (.istore_n (p_f4 a)) 1 && decide (a < 4) else p_de k i (.istore a) 2) && !(p_up k).contains a
  | 4 => (if b = 0 then p_de k i (.astore_n (p_f4 a)) 1 && decide (a < 4) else p_de k i (.astore a) 2) && !(p_up k).contains a
  | 5 => (p_de k i (.iinc a z.toInt) 3 && decide (Int32.ofInt z.toInt = z)) && !(p_up k).contains a
  | 6 => match a with
    | 0 => p_de k i .iadd 1
    | 1 => p_de k i .isub 1
    | 2 => p_de k i .imul 1
    | 3 => p_de k i .iand 1
    | 4 => p_de k i .ior 1
    | 5 => p_de k i .ixor 1
    | 6 => p_de k i .ishl 1
    | 7 => p_de k i .ishr 1
    | _ => p_de k i .iushr 1
  | 7 => p_de k i .ineg 1
  | 8 => p_de k i .irem 1
  | 9 => p_de k i .i2c 1
  | 10 => p_de k i .dup 1
  | 11 => p_de k i .dup2 1
  | 12 => p_de k i .pop 1
  | 13 => match b with
    | 10 => p_de k i .iaload 1
    | 11 => p_de k i .caload 1
    | _ => false
  | 14 => p_de k i .aaload 1
  | 15 => match b with
    | 10 => p_de k i .iastore 1
    | 11 => p_de k i .castore 1
    | _ => false
  | 16 => p_de k i .aastore 1
  | 17 => p_de k i .arraylength 1
  | 18 => p_de k i (.getfield (t.getD 0 0)) 3 && p_fl k a b (t.getD 0 0)
  | 19 => p_de k i (.putfield (t.getD 0 0)) 3 && p_fl k a b (t.getD 0 0) && !(p_T a b).2.2.2
  | 20 => p_de k i (.putfield (t.getD 0 0)) 3 && p_fl k a b (t.getD 0 0) && (p_T a b).2.2.2 && p_kd k == 2 && decide ((p_T a b).1 = p_cn (p_ow k))
  | 21 => p_de k i (.new (t.getD 0 0)) 3 && p_NL.any (fun q => q.1 == p_ow k && q.2.1 == t.getD 0 0 && q.2.2.1 == a)
  | 22 => p_de k i (.newarray (p_at a)) 2
  | 23 => p_de k i (.anewarray (t.getD 0 0)) 3 && p_NL.any (fun q => q.1 == p_ow k && q.2.1 == t.getD 0 0 && q.2.2.1 == 2)
  | 24 => p_de k i (.invokespecial (t.getD 0 0)) 3 && p_OL.any (fun q => q.1 == p_ow k && q.2.1 == t.getD 0 0) && decide (1 ≤ p_fr k) && decide (20 ≤ p_lo k)
  | 25 => p_de k i (.invokestatic 278) 3 && p_ow k == 4 && decide (1 ≤ p_fr k) && decide (26 ≤ p_lo k)
  | 26 => p_de k i (.invokestatic (t.getD 0 0)) 3 && p_KL.any (fun q => q.1 == p_ow k && q.2.1 == t.getD 0 0 && q.2.2.1 == 26) && decide (1 ≤ p_fr k) && decide (26 ≤ p_lo k)
  | 27 => p_de k i (.invokestatic (t.getD 0 0)) 3 && p_KL.any (fun q => q.1 == p_ow k && q.2.1 == t.getD 0 0 && q.2.2.1 == 27) && decide (1 ≤ p_fr k) && decide (26 ≤ p_lo k)
  | 28 => match a with
    | 0 => if z = 0 then p_de k i (.lconst (⟨b % 2, Nat.mod_lt _ (by decide)⟩ : Fin 2)) 1 && decide (b < 2) else p_de k i (.ldc2_w (t.getD 0 0)) 3 && decide (lw_tbl[t.getD 1 0]? = some (.constantLong (p_cn (p_ow k)) (t.getD 0 0) (Int64.ofNat b)))
    | 1 => if z = 0 then p_de k i (.lload_n (p_f4 b)) 1 && decide (b < 4) else p_de k i (.lload b) 2
    | 2 => (if z = 0 then p_de k i (.lstore_n (p_f4 b)) 1 && decide (b < 4) else p_de k i (.lstore b) 2) && (!(p_up k).contains b && (p_up k).contains (b + 1))
    | 3 => p_de k i .ladd 1
    | 4 => p_de k i .lmul 1
    | 5 => p_de k i .land 1
    | 6 => p_de k i .lshr 1
    | 7 => p_de k i .lcmp 1
    | 8 => p_de k i .i2l 1
    | 9 => p_de k i .l2i 1
    | 10 => p_de k i .laload 1
    | 11 => p_de k i .lastore 1
    | 12 => p_de k i .idiv 1
    | _ => false
  | 30 => p_dj k i (.goto (p_off k i b)) 3
  | 31 => p_de k i (.if_icmp (p_cnd a) (p_off k i b)) 3
  | 32 => p_de k i (.ifCond (p_cnd a) (p_off k i b)) 3
  | 33 => match decode (p_by k) (p_pc k i) with
    | .ok (ins, _) => decide (ins = .tableswitch (p_off k i b) z.toInt (z.toInt + t.length - 1) (t.map (p_off k i)).toArray)
    | _ => false
  | 40 => p_de k i (.invokestatic (t.getD 0 0)) 3 && p_inv k i a b (t.getD 0 0) 0
  | 41 => p_de k i (.invokevirtual (t.getD 0 0)) 3 && p_inv k i a b (t.getD 0 0) 1
  | 42 => p_de k i (.invokespecial (t.getD 0 0)) 3 && p_inv k i a b (t.getD 0 0) 2
  | 43 => p_de k i (.invokestatic (t.getD 0 0)) 3 && p_inv k i a b (t.getD 0 0) 0
  | 44 => p_de k i (.invokevirtual (t.getD 0 0)) 3 && p_inv k i a b (t.getD 0 0) 1
  | 50 => p_dj k i .return_ 1 && decide (p_rt k = none)
  | 51 => p_dj k i .ireturn 1 && decide (p_rt k = some .int)
  | 52 => p_dj k i .ireturn 1 && decide (p_rt k = some .boolean)
  | 53 => p_dj k i .lreturn 1 && decide (p_rt k = some .long)
  | _ => false
def p_cka (k : Nat) : Bool := (p_cd k).zipIdx.all fun q => p_ck k q.2 q.1.1 q.1.2.1 q.1.2.2.1 q.1.2.2.2.1 q.1.2.2.2.2
theorem p_ck0 : (List.range' 0 20).all p_cka = true := by decide +kernel
theorem p_ck20 : (List.range' 20 20).all p_cka = true := by decide +kernel
theorem p_ck40 : (List.range' 40 20).all p_cka = true := by decide +kernel
theorem p_ck60 : (List.range' 60 20).all p_cka = true := by decide +kernel
theorem p_ck80 : (List.range' 80 19).all p_cka = true := by decide +kernel
theorem p_ck101 : (List.range' 101 2).all p_cka = true := by decide +kernel
def p_ckr (k f n : Nat) : Bool := (((p_cd k).drop f).take n).zipIdx.all fun q => p_ck k (f + q.2) q.1.1 q.1.2.1 q.1.2.2.1 q.1.2.2.2.1 q.1.2.2.2.2
theorem p_ckr_at {k f n i : Nat} (h : p_ckr k f n = true) (h1 : f ≤ i) (h2 : i < f + n) {o a b : Nat} {z : Int32} {t : List Nat} (hc : (p_cd k)[i]? = some (o, a, b, z, t)) : p_ck k i o a b z t = true := by
  have hm : ((o, a, b, z, t), i - f) ∈ (((p_cd k).drop f).take n).zipIdx := by
    refine List.mem_zipIdx_iff_getElem?.mpr ?_
    show (((p_cd k).drop f).take n)[i - f]? = some (o, a, b, z, t)
    rw [List.getElem?_take, if_pos (by omega), List.getElem?_drop, show f + (i - f) = i by omega]
    exact hc
  have h3 := List.all_eq_true.mp h _ hm
  have e : f + (i - f) = i := by omega
  simpa only [e] using h3
theorem p_ckl_99_0 : p_ckr 99 0 40 = true := by decide +kernel
theorem p_ckl_99_40 : p_ckr 99 40 40 = true := by decide +kernel
theorem p_ckl_99_80 : p_ckr 99 80 40 = true := by decide +kernel
theorem p_ckl_99_120 : p_ckr 99 120 40 = true := by decide +kernel
theorem p_ckl_99_160 : p_ckr 99 160 40 = true := by decide +kernel
theorem p_len_99 : (p_cd 99).length = 168 := by decide +kernel
theorem p_ckb_99 {i o a b : Nat} {z : Int32} {t : List Nat} (hc : (p_cd 99)[i]? = some (o, a, b, z, t)) : p_ck 99 i o a b z t = true := by
  have hi : i < 168 := by rw [← p_len_99]; exact (List.getElem?_eq_some_iff.mp hc).1
  rcases (show (0 ≤ i ∧ i < 40) ∨ (40 ≤ i ∧ i < 80) ∨ (80 ≤ i ∧ i < 120) ∨ (120 ≤ i ∧ i < 160) ∨ (160 ≤ i ∧ i < 200) by omega) with q | q | q | q | q
  · exact p_ckr_at p_ckl_99_0 (by omega) (by omega) hc
  · exact p_ckr_at p_ckl_99_40 (by omega) (by omega) hc
  · exact p_ckr_at p_ckl_99_80 (by omega) (by omega) hc
  · exact p_ckr_at p_ckl_99_120 (by omega) (by omega) hc
  · exact p_ckr_at p_ckl_99_160 (by omega) (by omega) hc
theorem p_ckl_100_0 : p_ckr 100 0 40 = true := by decide +kernel
theorem p_ckl_100_40 : p_ckr 100 40 40 = true := by decide +kernel
theorem p_ckl_100_80 : p_ckr 100 80 40 = true := by decide +kernel
theorem p_ckl_100_120 : p_ckr 100 120 40 = true := by decide +kernel
theorem p_ckl_100_160 : p_ckr 100 160 40 = true := by decide +kernel
theorem p_ckl_100_200 : p_ckr 100 200 40 = true := by decide +kernel
theorem p_ckl_100_240 : p_ckr 100 240 40 = true := by decide +kernel
theorem p_len_100 : (p_cd 100).length = 250 := by decide +kernel
theorem p_ckb_100 {i o a b : Nat} {z : Int32} {t : List Nat} (hc : (p_cd 100)[i]? = some (o, a, b, z, t)) : p_ck 100 i o a b z t = true := by
  have hi : i < 250 := by rw [← p_len_100]; exact (List.getElem?_eq_some_iff.mp hc).1
  rcases (show (0 ≤ i ∧ i < 40) ∨ (40 ≤ i ∧ i < 80) ∨ (80 ≤ i ∧ i < 120) ∨ (120 ≤ i ∧ i < 160) ∨ (160 ≤ i ∧ i < 200) ∨ (200 ≤ i ∧ i < 240) ∨ (240 ≤ i ∧ i < 280) by omega) with q | q | q | q | q | q | q
  · exact p_ckr_at p_ckl_100_0 (by omega) (by omega) hc
  · exact p_ckr_at p_ckl_100_40 (by omega) (by omega) hc
  · exact p_ckr_at p_ckl_100_80 (by omega) (by omega) hc
  · exact p_ckr_at p_ckl_100_120 (by omega) (by omega) hc
  · exact p_ckr_at p_ckl_100_160 (by omega) (by omega) hc
  · exact p_ckr_at p_ckl_100_200 (by omega) (by omega) hc
  · exact p_ckr_at p_ckl_100_240 (by omega) (by omega) hc
theorem p_ckl_103_0 : p_ckr 103 0 40 = true := by decide +kernel
theorem p_ckl_103_40 : p_ckr 103 40 40 = true := by decide +kernel
theorem p_ckl_103_80 : p_ckr 103 80 40 = true := by decide +kernel
theorem p_ckl_103_120 : p_ckr 103 120 40 = true := by decide +kernel
theorem p_ckl_103_160 : p_ckr 103 160 40 = true := by decide +kernel
theorem p_ckl_103_200 : p_ckr 103 200 40 = true := by decide +kernel
theorem p_ckl_103_240 : p_ckr 103 240 40 = true := by decide +kernel
theorem p_ckl_103_280 : p_ckr 103 280 40 = true := by decide +kernel
theorem p_len_103 : (p_cd 103).length = 302 := by decide +kernel
theorem p_ckb_103 {i o a b : Nat} {z : Int32} {t : List Nat} (hc : (p_cd 103)[i]? = some (o, a, b, z, t)) : p_ck 103 i o a b z t = true := by
  have hi : i < 302 := by rw [← p_len_103]; exact (List.getElem?_eq_some_iff.mp hc).1
  rcases (show (0 ≤ i ∧ i < 40) ∨ (40 ≤ i ∧ i < 80) ∨ (80 ≤ i ∧ i < 120) ∨ (120 ≤ i ∧ i < 160) ∨ (160 ≤ i ∧ i < 200) ∨ (200 ≤ i ∧ i < 240) ∨ (240 ≤ i ∧ i < 280) ∨ (280 ≤ i ∧ i < 320) by omega) with q | q | q | q | q | q | q | q
  · exact p_ckr_at p_ckl_103_0 (by omega) (by omega) hc
  · exact p_ckr_at p_ckl_103_40 (by omega) (by omega) hc
  · exact p_ckr_at p_ckl_103_80 (by omega) (by omega) hc
  · exact p_ckr_at p_ckl_103_120 (by omega) (by omega) hc
  · exact p_ckr_at p_ckl_103_160 (by omega) (by omega) hc
  · exact p_ckr_at p_ckl_103_200 (by omega) (by omega) hc
  · exact p_ckr_at p_ckl_103_240 (by omega) (by omega) hc
  · exact p_ckr_at p_ckl_103_280 (by omega) (by omega) hc
theorem p_ckl_104_0 : p_ckr 104 0 40 = true := by decide +kernel
theorem p_ckl_104_40 : p_ckr 104 40 40 = true := by decide +kernel
theorem p_ckl_104_80 : p_ckr 104 80 40 = true := by decide +kernel
theorem p_ckl_104_120 : p_ckr 104 120 40 = true := by decide +kernel
theorem p_ckl_104_160 : p_ckr 104 160 40 = true := by decide +kernel
theorem p_ckl_104_200 : p_ckr 104 200 40 = true := by decide +kernel
theorem p_ckl_104_240 : p_ckr 104 240 40 = true := by decide +kernel
theorem p_ckl_104_280 : p_ckr 104 280 40 = true := by decide +kernel
theorem p_ckl_104_320 : p_ckr 104 320 40 = true := by decide +kernel
theorem p_ckl_104_360 : p_ckr 104 360 40 = true := by decide +kernel
theorem p_ckl_104_400 : p_ckr 104 400 40 = true := by decide +kernel
theorem p_ckl_104_440 : p_ckr 104 440 40 = true := by decide +kernel
theorem p_ckl_104_480 : p_ckr 104 480 40 = true := by decide +kernel
theorem p_ckl_104_520 : p_ckr 104 520 40 = true := by decide +kernel
theorem p_ckl_104_560 : p_ckr 104 560 40 = true := by decide +kernel
theorem p_ckl_104_600 : p_ckr 104 600 40 = true := by decide +kernel
theorem p_ckl_104_640 : p_ckr 104 640 40 = true := by decide +kernel
theorem p_ckl_104_680 : p_ckr 104 680 40 = true := by decide +kernel
theorem p_ckl_104_720 : p_ckr 104 720 40 = true := by decide +kernel
theorem p_len_104 : (p_cd 104).length = 739 := by decide +kernel
theorem p_ckb_104 {i o a b : Nat} {z : Int32} {t : List Nat} (hc : (p_cd 104)[i]? = some (o, a, b, z, t)) : p_ck 104 i o a b z t = true := by
  have hi : i < 739 := by rw [← p_len_104]; exact (List.getElem?_eq_some_iff.mp hc).1
  rcases (show (0 ≤ i ∧ i < 40) ∨ (40 ≤ i ∧ i < 80) ∨ (80 ≤ i ∧ i < 120) ∨ (120 ≤ i ∧ i < 160) ∨ (160 ≤ i ∧ i < 200) ∨ (200 ≤ i ∧ i < 240) ∨ (240 ≤ i ∧ i < 280) ∨ (280 ≤ i ∧ i < 320) ∨ (320 ≤ i ∧ i < 360) ∨ (360 ≤ i ∧ i < 400) ∨ (400 ≤ i ∧ i < 440) ∨ (440 ≤ i ∧ i < 480) ∨ (480 ≤ i ∧ i < 520) ∨ (520 ≤ i ∧ i < 560) ∨ (560 ≤ i ∧ i < 600) ∨ (600 ≤ i ∧ i < 640) ∨ (640 ≤ i ∧ i < 680) ∨ (680 ≤ i ∧ i < 720) ∨ (720 ≤ i ∧ i < 760) by omega) with q | q | q | q | q | q | q | q | q | q | q | q | q | q | q | q | q | q | q
  · exact p_ckr_at p_ckl_104_0 (by omega) (by omega) hc
  · exact p_ckr_at p_ckl_104_40 (by omega) (by omega) hc
  · exact p_ckr_at p_ckl_104_80 (by omega) (by omega) hc
  · exact p_ckr_at p_ckl_104_120 (by omega) (by omega) hc
  · exact p_ckr_at p_ckl_104_160 (by omega) (by omega) hc
  · exact p_ckr_at p_ckl_104_200 (by omega) (by omega) hc
  · exact p_ckr_at p_ckl_104_240 (by omega) (by omega) hc
  · exact p_ckr_at p_ckl_104_280 (by omega) (by omega) hc
  · exact p_ckr_at p_ckl_104_320 (by omega) (by omega) hc
  · exact p_ckr_at p_ckl_104_360 (by omega) (by omega) hc
  · exact p_ckr_at p_ckl_104_400 (by omega) (by omega) hc
  · exact p_ckr_at p_ckl_104_440 (by omega) (by omega) hc
  · exact p_ckr_at p_ckl_104_480 (by omega) (by omega) hc
  · exact p_ckr_at p_ckl_104_520 (by omega) (by omega) hc
  · exact p_ckr_at p_ckl_104_560 (by omega) (by omega) hc
  · exact p_ckr_at p_ckl_104_600 (by omega) (by omega) hc
  · exact p_ckr_at p_ckl_104_640 (by omega) (by omega) hc
  · exact p_ckr_at p_ckl_104_680 (by omega) (by omega) hc
  · exact p_ckr_at p_ckl_104_720 (by omega) (by omega) hc
theorem p_ckl_105_0 : p_ckr 105 0 40 = true := by decide +kernel
theorem p_ckl_105_40 : p_ckr 105 40 40 = true := by decide +kernel
theorem p_ckl_105_80 : p_ckr 105 80 40 = true := by decide +kernel
theorem p_ckl_105_120 : p_ckr 105 120 40 = true := by decide +kernel
theorem p_ckl_105_160 : p_ckr 105 160 40 = true := by decide +kernel
theorem p_ckl_105_200 : p_ckr 105 200 40 = true := by decide +kernel
theorem p_ckl_105_240 : p_ckr 105 240 40 = true := by decide +kernel
theorem p_ckl_105_280 : p_ckr 105 280 40 = true := by decide +kernel
theorem p_ckl_105_320 : p_ckr 105 320 40 = true := by decide +kernel
theorem p_ckl_105_360 : p_ckr 105 360 40 = true := by decide +kernel
theorem p_ckl_105_400 : p_ckr 105 400 40 = true := by decide +kernel
theorem p_len_105 : (p_cd 105).length = 411 := by decide +kernel
theorem p_ckb_105 {i o a b : Nat} {z : Int32} {t : List Nat} (hc : (p_cd 105)[i]? = some (o, a, b, z, t)) : p_ck 105 i o a b z t = true := by
  have hi : i < 411 := by rw [← p_len_105]; exact (List.getElem?_eq_some_iff.mp hc).1
  rcases (show (0 ≤ i ∧ i < 40) ∨ (40 ≤ i ∧ i < 80) ∨ (80 ≤ i ∧ i < 120) ∨ (120 ≤ i ∧ i < 160) ∨ (160 ≤ i ∧ i < 200) ∨ (200 ≤ i ∧ i < 240) ∨ (240 ≤ i ∧ i < 280) ∨ (280 ≤ i ∧ i < 320) ∨ (320 ≤ i ∧ i < 360) ∨ (360 ≤ i ∧ i < 400) ∨ (400 ≤ i ∧ i < 440) by omega) with q | q | q | q | q | q | q | q | q | q | q
  · exact p_ckr_at p_ckl_105_0 (by omega) (by omega) hc
  · exact p_ckr_at p_ckl_105_40 (by omega) (by omega) hc
  · exact p_ckr_at p_ckl_105_80 (by omega) (by omega) hc
  · exact p_ckr_at p_ckl_105_120 (by omega) (by omega) hc
  · exact p_ckr_at p_ckl_105_160 (by omega) (by omega) hc
  · exact p_ckr_at p_ckl_105_200 (by omega) (by omega) hc
  · exact p_ckr_at p_ckl_105_240 (by omega) (by omega) hc
  · exact p_ckr_at p_ckl_105_280 (by omega) (by omega) hc
  · exact p_ckr_at p_ckl_105_320 (by omega) (by omega) hc
  · exact p_ckr_at p_ckl_105_360 (by omega) (by omega) hc
  · exact p_ckr_at p_ckl_105_400 (by omega) (by omega) hc
theorem p_ck_at {k i : Nat} (hk : k < 106) {o a b : Nat} {z : Int32} {t : List Nat} (h : (p_cd k)[i]? = some (o, a, b, z, t)) : p_ck k i o a b z t = true := by
  have g : ∀ a n, (List.range' a n).all p_cka = true → a ≤ k → k < a + n → p_cka k = true := fun a n e h1 h2 => List.all_eq_true.mp e k (List.mem_range'.mpr ⟨k - a, by omega, by omega⟩)
  have g2 : p_cka k = true → p_ck k i o a b z t = true := fun e => List.all_eq_true.mp e ((o, a, b, z, t), i) (List.mem_zipIdx_iff_getElem?.mpr h)
  rcases (show (0 ≤ k ∧ k < 20) ∨ (20 ≤ k ∧ k < 40) ∨ (40 ≤ k ∧ k < 60) ∨ (60 ≤ k ∧ k < 80) ∨ (80 ≤ k ∧ k < 99) ∨ (101 ≤ k ∧ k < 103) ∨ k = 99 ∨ k = 100 ∨ k = 103 ∨ k = 104 ∨ k = 105 by omega) with q | q | q | q | q | q | rfl | rfl | rfl | rfl | rfl
  · exact g2 (g 0 20 p_ck0 (by omega) (by omega))
  · exact g2 (g 20 20 p_ck20 (by omega) (by omega))
  · exact g2 (g 40 20 p_ck40 (by omega) (by omega))
  · exact g2 (g 60 20 p_ck60 (by omega) (by omega))
  · exact g2 (g 80 19 p_ck80 (by omega) (by omega))
  · exact g2 (g 101 2 p_ck101 (by omega) (by omega))
  · exact p_ckb_99 h
  · exact p_ckb_100 h
  · exact p_ckb_103 h
  · exact p_ckb_104 h
  · exact p_ckb_105 h
theorem p_FL_ok : ∀ q ∈ p_FL, q.2.2.1 < 6 ∧ q.2.2.2.1 < p_N q.2.2.1 ∧ lw_tbl[q.2.2.2.2]? = some (.fieldLink (p_cn q.1) q.2.1 (p_cn q.2.2.1) (p_T q.2.2.1 q.2.2.2.1).2.1 (p_T q.2.2.1 q.2.2.2.1).2.2.1) := by decide +kernel
theorem p_ML_ok : ∀ q ∈ p_ML, q.2.2.1 < 105 ∧ ((q.2.2.2.1 = 0 ∧ lw_tbl[q.2.2.2.2]? = some (.methodLink (p_cn q.1) q.2.1 (p_y q.2.2.1))) ∨ (q.2.2.2.1 = 1 ∧ lw_tbl[q.2.2.2.2]? = some (.methodLinkNest (p_cn q.1) q.2.1 (p_y q.2.2.1) "InterlockBoard"))) := by decide +kernel
theorem p_NL_ok : ∀ q ∈ p_NL, lw_tbl[q.2.2.2]? = some (.classLink (p_cn q.1) q.2.1 (p_cn q.2.2.1)) := by decide +kernel
theorem p_KL_ok : ∀ q ∈ p_KL, lw_tbl[q.2.2.2]? = some (.methodLink (p_cn q.1) q.2.1 (if q.2.2.1 = 26 then Lib.Math.max.name else Lib.Math.min.name)) := by decide +kernel
theorem p_OL_ok : ∀ q ∈ p_OL, lw_tbl[q.2.2]? = some (.methodLink (p_cn q.1) q.2.1 objectInit) := by decide +kernel
def p_mok (k : Nat) : Bool := decide (lw_tbl[p_wc k]? = some (.code (p_y k) (p_by k) (p_ml k) (p_rt k))) &&
  (match p_kd k with
    | 0 => decide (lw_tbl[p_wi k]? = some (.static (p_y k)))
    | 1 => decide (lw_tbl[p_wi k]? = some (.instanceMethod (p_y k))) && decide (lw_tbl[p_wl k]? = some (.selects (p_cn (p_ow k)) (p_y k) (p_y k)))
    | 2 => decide (lw_tbl[p_wi k]? = some (.instanceMethod (p_y k))) && decide ((p_y k).name = "<init>") && decide (p_rt k = none)
    | _ => false) &&
  decide ((p_y k).cls = p_cn (p_ow k)) && decide ((p_y k).cls ≠ "java/lang/invoke/MethodHandle") && decide ((p_y k).cls ≠ "java/lang/invoke/VarHandle") &&
  decide ((parseMethodDescriptor (p_y k).desc).map (fun d => d.parameters.length) = some (p_na k - (if p_kd k = 0 then 0 else 1))) && plainName (p_y k).cls && decide (p_na k ≤ p_ml k) && decide (p_kd k = 0 ∨ 1 ≤ p_na k) && decide (p_ow k < 9)
theorem p_mok_0 : (List.range' 0 15).all p_mok = true := by decide +kernel
theorem p_mok_15 : (List.range' 15 15).all p_mok = true := by decide +kernel
theorem p_mok_30 : (List.range' 30 15).all p_mok = true := by decide +kernel
theorem p_mok_45 : (List.range' 45 15).all p_mok = true := by decide +kernel
theorem p_mok_60 : (List.range' 60 15).all p_mok = true := by decide +kernel
theorem p_mok_75 : (List.range' 75 15).all p_mok = true := by decide +kernel
theorem p_mok_90 : (List.range' 90 15).all p_mok = true := by decide +kernel
theorem p_mok_all : ∀ k, k < 105 → p_mok k = true := by
  intro k hk
  have g : ∀ a n, (List.range' a n).all p_mok = true → a ≤ k → k < a + n → p_mok k = true := fun a n e h1 h2 => List.all_eq_true.mp e k (List.mem_range'.mpr ⟨k - a, by omega, by omega⟩)
  rcases (show (0 ≤ k ∧ k < 15) ∨ (15 ≤ k ∧ k < 30) ∨ (30 ≤ k ∧ k < 45) ∨ (45 ≤ k ∧ k < 60) ∨ (60 ≤ k ∧ k < 75) ∨ (75 ≤ k ∧ k < 90) ∨ (90 ≤ k ∧ k < 105) by omega) with q | q | q | q | q | q | q
  · exact g 0 15 p_mok_0 (by omega) (by omega)
  · exact g 15 15 p_mok_15 (by omega) (by omega)
  · exact g 30 15 p_mok_30 (by omega) (by omega)
  · exact g 45 15 p_mok_45 (by omega) (by omega)
  · exact g 60 15 p_mok_60 (by omega) (by omega)
  · exact g 75 15 p_mok_75 (by omega) (by omega)
  · exact g 90 15 p_mok_90 (by omega) (by omega)
theorem p_ini : ∀ o, o < 9 → lw_tbl[[12, 13, 11, 14, 10, 12, 9, 15, 16].getD o 0]? = some (.initialized (p_cn o)) := by decide +kernel
theorem p_ins : ∀ o, o < 6 → lw_tbl[[33, 92, 27, 148, 19, 33].getD o 0]? = some (.instantiable (p_cn o) (p_N o)) := by decide +kernel
theorem p_lay : ∀ a, a < 6 → ∀ w ∈ u_ws (p_cn a) (p_T a) (p_N a), w ∈ lw_tbl := by decide +kernel
theorem p_tyok : ∀ a, a < 6 → ∀ j, j < p_N a → parseFieldDescriptor (p_T a j).2.2.1 = some (p_ty a j) := by decide +kernel
theorem p_nm : ∀ a, a < 6 → ∀ x, x < p_N a → ∀ y, y < p_N a → x ≠ y → (p_T a x).2.1 ≠ (p_T a y).2.1 := by decide +kernel
theorem p_own : ∀ a, a < 6 → ∀ j, j < p_N a → (p_T a j).1 = p_cn a := by decide +kernel
theorem p_cls : ∀ a, a < 6 → p_cl[a]? = some (p_cn a, p_T a, p_N a) := fun a h => match a, h with
  | 0, _ => rfl
  | 1, _ => rfl
  | 2, _ => rfl
  | 3, _ => rfl
  | 4, _ => rfl
  | 5, _ => rfl
  | n + 6, h => absurd h (by omega)
/-- the good ones of the tables' words: they hold wherever they held -/
def p_G : List Cond := lw_tbl.filter goodWord
theorem p_GG : GoodIn p_G p_G := fun w h => ⟨h, good_of_word (List.mem_filter.mp h).2⟩
theorem p_Gm {i : Nat} {w : Cond} (h : lw_tbl[i]? = some w) (hg : goodWord w = true) : w ∈ p_G := List.mem_filter.mpr ⟨List.mem_of_getElem? h, hg⟩
end
