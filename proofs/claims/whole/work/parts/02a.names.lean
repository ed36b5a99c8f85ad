/-! ===== BEGIN words of one list among another's, by their places ===== -/
theorem goodIn_r {big : List Cond} (ws : List Cond) (ps : List Nat) (hp : ws = ps.filterMap (fun i => big[i]?)) (h : ws.all goodWord = true) : GoodIn big ws := by
  intro w hw
  have h1 := List.all_eq_true.mp h w hw
  rw [hp] at hw
  obtain ⟨i, -, hi⟩ := List.mem_filterMap.mp hw
  have hm : w ∈ big := by first | exact List.mem_of_getElem? hi | exact List.getElem?_mem hi
  exact ⟨hm, good_of_word h1⟩
theorem goodIn_app {big a b : List Cond} (ha : GoodIn big a) (hb : GoodIn big b) : GoodIn big (a ++ b) := fun w h => (List.mem_append.mp h).elim (ha w) (hb w)
theorem goodIn_ca {big a b : List Cond} {c : Cond} (ha : GoodIn big (c :: a)) (hb : GoodIn big b) : GoodIn big (c :: (a ++ b)) := fun w h => (List.mem_cons.mp h).elim (fun e => ha w (List.mem_cons.mpr (Or.inl e))) (fun h => (List.mem_append.mp h).elim (fun h => ha w (List.mem_cons.mpr (Or.inr h))) (hb w))
theorem goodIn_sub {big ws : List Cond} (hm : ∀ w ∈ ws, w ∈ big) (h : ws.all goodWord = true) : GoodIn big ws := fun w hw => ⟨hm w hw, good_of_word (List.all_eq_true.mp h w hw)⟩
/-! ===== END ===== -/

/-! ===== BEGIN printed: names, fields, word lists, decode rows ===== -/
def RX0 : String := "HlcStore$Key"
def TX0 : u_T := fun k => match k with
  | 0 => ("HlcStore$Key", "bit", "I", true)
  | 1 => ("HlcStore$Key", "owner", "LHlcStore$Node;", true)
  | 2 => ("HlcStore$Key", "stamps", "[J", true)
  | 3 => ("HlcStore$Key", "values", "[I", true)
  | 4 => ("HlcStore$Key", "count", "I", false)
  | 5 => ("HlcStore$Key", "readMark", "J", false)
  | 6 => ("HlcStore$Key", "holder", "LHlcStore$Transaction;", false)
  | _ => ("HlcStore$Key", "intentValue", "I", false)
def tyX0 : Nat → FieldType := fun k => match k with
  | 0 => .int
  | 1 => .object "HlcStore$Node"
  | 2 => .array .long
  | 3 => .array .int
  | 4 => .int
  | 5 => .long
  | 6 => .object "HlcStore$Transaction"
  | _ => .int
abbrev wsX00 : List Cond := u_ws RX0 TX0 8
theorem nmX0 : ∀ a, a < 8 → ∀ b, b < 8 → a ≠ b → (TX0 a).2.1 ≠ (TX0 b).2.1 := by decide +kernel
theorem tyX0_ok : ∀ k, k < 8 → parseFieldDescriptor (TX0 k).2.2.1 = some (tyX0 k) := by decide +kernel
abbrev cX0_init : ByteArray := prog_2_method_1_code
def yX0_init : MethodName := ⟨RX0, "<init>", "(ILHlcStore$Node;)V"⟩
abbrev cX0_raiseReadMark : ByteArray := prog_2_method_2_code
def yX0_raiseReadMark : MethodName := ⟨RX0, "raiseReadMark", "(J)V"⟩
abbrev cX0_greatestStampIn : ByteArray := prog_2_method_3_code
def yX0_greatestStampIn : MethodName := ⟨RX0, "greatestStampIn", "(JJ)J"⟩
abbrev cX0_valueAt : ByteArray := prog_2_method_4_code
def yX0_valueAt : MethodName := ⟨RX0, "valueAt", "(J)I"⟩
abbrev cX0_newestIn : ByteArray := prog_2_method_5_code
def yX0_newestIn : MethodName := ⟨RX0, "newestIn", "(JJ)I"⟩
abbrev cX0_settleIntent : ByteArray := prog_2_method_6_code
def yX0_settleIntent : MethodName := ⟨RX0, "settleIntent", "()V"⟩
abbrev cX0_addVersion : ByteArray := prog_2_method_7_code
def yX0_addVersion : MethodName := ⟨RX0, "addVersion", "(JI)V"⟩
def RX1 : String := "HlcStore$Node"
def TX1 : u_T := fun k => match k with
  | 0 => ("HlcStore$Node", "reading", "I", false)
  | _ => ("HlcStore$Node", "clock", "J", false)
def tyX1 : Nat → FieldType := fun k => match k with
  | 0 => .int
  | _ => .long
abbrev wsX10 : List Cond := u_ws RX1 TX1 2
theorem nmX1 : ∀ a, a < 2 → ∀ b, b < 2 → a ≠ b → (TX1 a).2.1 ≠ (TX1 b).2.1 := by decide +kernel
theorem tyX1_ok : ∀ k, k < 2 → parseFieldDescriptor (TX1 k).2.2.1 = some (tyX1 k) := by decide +kernel
abbrev cX1_init : ByteArray := prog_3_method_1_code
def yX1_init : MethodName := ⟨RX1, "<init>", "()V"⟩
abbrev cX1_takeIn : ByteArray := prog_3_method_2_code
def yX1_takeIn : MethodName := ⟨RX1, "takeIn", "(J)V"⟩
abbrev cX1_haveEvent : ByteArray := prog_3_method_3_code
def yX1_haveEvent : MethodName := ⟨RX1, "haveEvent", "()V"⟩
def RX2 : String := "HlcStore$Transaction"
def TX2 : u_T := fun k => match k with
  | 0 => ("HlcStore$Transaction", "state", "I", false)
  | 1 => ("HlcStore$Transaction", "gateway", "LHlcStore$Node;", false)
  | 2 => ("HlcStore$Transaction", "lastBeat", "I", false)
  | 3 => ("HlcStore$Transaction", "place", "I", false)
  | 4 => ("HlcStore$Transaction", "readStamp", "J", false)
  | 5 => ("HlcStore$Transaction", "writeStamp", "J", false)
  | 6 => ("HlcStore$Transaction", "limit", "J", false)
  | 7 => ("HlcStore$Transaction", "keysRead", "I", false)
  | _ => ("HlcStore$Transaction", "hurt", "Z", false)
def tyX2 : Nat → FieldType := fun k => match k with
  | 0 => .int
  | 1 => .object "HlcStore$Node"
  | 2 => .int
  | 3 => .int
  | 4 => .long
  | 5 => .long
  | 6 => .long
  | 7 => .int
  | _ => .boolean
abbrev wsX20 : List Cond := u_ws RX2 TX2 9
theorem nmX2 : ∀ a, a < 9 → ∀ b, b < 9 → a ≠ b → (TX2 a).2.1 ≠ (TX2 b).2.1 := by decide +kernel
theorem tyX2_ok : ∀ k, k < 9 → parseFieldDescriptor (TX2 k).2.2.1 = some (tyX2 k) := by decide +kernel
abbrev cX2_init : ByteArray := prog_4_method_1_code
def yX2_init : MethodName := ⟨RX2, "<init>", "(LHlcStore$Node;)V"⟩
abbrev cX2_start : ByteArray := prog_4_method_2_code
def yX2_start : MethodName := ⟨RX2, "start", "(LHlcStore$Node;I)V"⟩
abbrev cX2_codeOfState : ByteArray := prog_4_method_3_code
def yX2_codeOfState : MethodName := ⟨RX2, "codeOfState", "()I"⟩
abbrev cX2_takeStoppingCode : ByteArray := prog_4_method_4_code
def yX2_takeStoppingCode : MethodName := ⟨RX2, "takeStoppingCode", "()I"⟩
abbrev cX2_abortIfSilent : ByteArray := prog_4_method_5_code
def yX2_abortIfSilent : MethodName := ⟨RX2, "abortIfSilent", "()V"⟩
abbrev cX2_pushWriteStampAbove : ByteArray := prog_4_method_6_code
def yX2_pushWriteStampAbove : MethodName := ⟨RX2, "pushWriteStampAbove", "(J)V"⟩
abbrev cX2_moveTo : ByteArray := prog_4_method_7_code
def yX2_moveTo : MethodName := ⟨RX2, "moveTo", "(J)V"⟩
def RX3 : String := "HlcStore"
def TX3 : u_T := fun k => match k with
  | 0 => ("HlcStore", "nodes", "[LHlcStore$Node;", true)
  | 1 => ("HlcStore", "keys", "[LHlcStore$Key;", true)
  | 2 => ("HlcStore", "slots", "[LHlcStore$Transaction;", true)
  | 3 => ("HlcStore", "commitStamps", "[J", true)
  | 4 => ("HlcStore", "commits", "I", false)
  | _ => ("HlcStore", "begins", "I", false)
def tyX3 : Nat → FieldType := fun k => match k with
  | 0 => .array (.object "HlcStore$Node")
  | 1 => .array (.object "HlcStore$Key")
  | 2 => .array (.object "HlcStore$Transaction")
  | 3 => .array .long
  | 4 => .int
  | _ => .int
abbrev wsX30 : List Cond := u_ws RX3 TX3 6
theorem nmX3 : ∀ a, a < 6 → ∀ b, b < 6 → a ≠ b → (TX3 a).2.1 ≠ (TX3 b).2.1 := by decide +kernel
theorem tyX3_ok : ∀ k, k < 6 → parseFieldDescriptor (TX3 k).2.2.1 = some (tyX3 k) := by decide +kernel
abbrev cX3_init : ByteArray := prog_1_method_1_code
def yX3_init : MethodName := ⟨RX3, "<init>", "()V"⟩
abbrev cX3_tick : ByteArray := prog_1_method_2_code
def yX3_tick : MethodName := ⟨RX3, "tick", "(II)I"⟩
abbrev cX3_reading : ByteArray := prog_1_method_3_code
def yX3_reading : MethodName := ⟨RX3, "reading", "(I)I"⟩
abbrev cX3_clock : ByteArray := prog_1_method_4_code
def yX3_clock : MethodName := ⟨RX3, "clock", "(I)J"⟩
abbrev cX3_begin : ByteArray := prog_1_method_5_code
def yX3_begin : MethodName := ⟨RX3, "begin", "(I)I"⟩
abbrev cX3_read : ByteArray := prog_1_method_6_code
def yX3_read : MethodName := ⟨RX3, "read", "(II)J"⟩
abbrev cX3_write : ByteArray := prog_1_method_7_code
def yX3_write : MethodName := ⟨RX3, "write", "(III)I"⟩
abbrev cX3_commit : ByteArray := prog_1_method_8_code
def yX3_commit : MethodName := ⟨RX3, "commit", "(I)I"⟩
abbrev cX3_abort : ByteArray := prog_1_method_9_code
def yX3_abort : MethodName := ⟨RX3, "abort", "(I)I"⟩
abbrev cX3_heartbeat : ByteArray := prog_1_method_10_code
def yX3_heartbeat : MethodName := ⟨RX3, "heartbeat", "(I)I"⟩
abbrev cX3_clean : ByteArray := prog_1_method_11_code
def yX3_clean : MethodName := ⟨RX3, "clean", "(I)I"⟩
abbrev cX3_state : ByteArray := prog_1_method_12_code
def yX3_state : MethodName := ⟨RX3, "state", "(I)I"⟩
abbrev cX3_stamp : ByteArray := prog_1_method_13_code
def yX3_stamp : MethodName := ⟨RX3, "stamp", "(I)J"⟩
abbrev cX3_versions : ByteArray := prog_1_method_14_code
def yX3_versions : MethodName := ⟨RX3, "versions", "(I)I"⟩
abbrev cX3_committed : ByteArray := prog_1_method_15_code
def yX3_committed : MethodName := ⟨RX3, "committed", "(I)J"⟩
abbrev cX3_nodeAt : ByteArray := prog_1_method_16_code
def yX3_nodeAt : MethodName := ⟨RX3, "nodeAt", "(I)LHlcStore$Node;"⟩
abbrev cX3_keyAt : ByteArray := prog_1_method_17_code
def yX3_keyAt : MethodName := ⟨RX3, "keyAt", "(I)LHlcStore$Key;"⟩
abbrev cX3_transactionAt : ByteArray := prog_1_method_18_code
def yX3_transactionAt : MethodName := ⟨RX3, "transactionAt", "(I)LHlcStore$Transaction;"⟩
abbrev cX3_leastFreeSlot : ByteArray := prog_1_method_19_code
def yX3_leastFreeSlot : MethodName := ⟨RX3, "leastFreeSlot", "()I"⟩
abbrev cX3_runsAhead : ByteArray := prog_1_method_20_code
def yX3_runsAhead : MethodName := ⟨RX3, "runsAhead", "(LHlcStore$Node;I)Z"⟩
abbrev cX3_readAtOwner : ByteArray := prog_1_method_21_code
def yX3_readAtOwner : MethodName := ⟨RX3, "readAtOwner", "(LHlcStore$Transaction;LHlcStore$Key;)J"⟩
abbrev cX3_writeAtOwner : ByteArray := prog_1_method_22_code
def yX3_writeAtOwner : MethodName := ⟨RX3, "writeAtOwner", "(LHlcStore$Transaction;LHlcStore$Key;I)I"⟩
abbrev cX3_moveReadsToWriteStamp : ByteArray := prog_1_method_23_code
def yX3_moveReadsToWriteStamp : MethodName := ⟨RX3, "moveReadsToWriteStamp", "(LHlcStore$Transaction;)Z"⟩
abbrev cX3_moveReadToWriteStamp : ByteArray := prog_1_method_24_code
def yX3_moveReadToWriteStamp : MethodName := ⟨RX3, "moveReadToWriteStamp", "(LHlcStore$Transaction;LHlcStore$Key;)Z"⟩
abbrev cX3_lookUp : ByteArray := prog_1_method_25_code
def yX3_lookUp : MethodName := ⟨RX3, "lookUp", "(LHlcStore$Key;LHlcStore$Transaction;)LHlcStore$Transaction;"⟩
abbrev cX3_restart : ByteArray := prog_1_method_26_code
def yX3_restart : MethodName := ⟨RX3, "restart", "(LHlcStore$Transaction;J)V"⟩
abbrev cX3_logCommit : ByteArray := prog_1_method_27_code
def yX3_logCommit : MethodName := ⟨RX3, "logCommit", "(J)V"⟩
def RX4 : String := "HlcStoreModel"
def TX4 : u_T := fun k => match k with
  | 0 => ("HlcStoreModel", "shown", "[I", true)
  | 1 => ("HlcStoreModel", "hlc", "[J", true)
  | 2 => ("HlcStoreModel", "phase", "[I", true)
  | 3 => ("HlcStoreModel", "gate", "[I", true)
  | 4 => ("HlcStoreModel", "beat", "[I", true)
  | 5 => ("HlcStoreModel", "birth", "[J", true)
  | 6 => ("HlcStoreModel", "rts", "[J", true)
  | 7 => ("HlcStoreModel", "wts", "[J", true)
  | 8 => ("HlcStoreModel", "limit", "[J", true)
  | 9 => ("HlcStoreModel", "hurt", "[Z", true)
  | 10 => ("HlcStoreModel", "seen", "[Z", true)
  | 11 => ("HlcStoreModel", "births", "J", false)
  | 12 => ("HlcStoreModel", "commits", "I", false)
  | 13 => ("HlcStoreModel", "commitAt", "[J", true)
  | 14 => ("HlcStoreModel", "lastRead", "[J", true)
  | 15 => ("HlcStoreModel", "holder", "[I", true)
  | 16 => ("HlcStoreModel", "planned", "[I", true)
  | 17 => ("HlcStoreModel", "held", "I", false)
  | 18 => ("HlcStoreModel", "vKey", "[I", true)
  | 19 => ("HlcStoreModel", "vAt", "[J", true)
  | _ => ("HlcStoreModel", "vValue", "[I", true)
def tyX4 : Nat → FieldType := fun k => match k with
  | 0 => .array .int
  | 1 => .array .long
  | 2 => .array .int
  | 3 => .array .int
  | 4 => .array .int
  | 5 => .array .long
  | 6 => .array .long
  | 7 => .array .long
  | 8 => .array .long
  | 9 => .array .boolean
  | 10 => .array .boolean
  | 11 => .long
  | 12 => .int
  | 13 => .array .long
  | 14 => .array .long
  | 15 => .array .int
  | 16 => .array .int
  | 17 => .int
  | 18 => .array .int
  | 19 => .array .long
  | _ => .array .int
abbrev wsX40 : List Cond := u_ws RX4 TX4 21
theorem nmX4 : ∀ a, a < 21 → ∀ b, b < 21 → a ≠ b → (TX4 a).2.1 ≠ (TX4 b).2.1 := by decide +kernel
theorem tyX4_ok : ∀ k, k < 21 → parseFieldDescriptor (TX4 k).2.2.1 = some (tyX4 k) := by decide +kernel
abbrev cX4_init : ByteArray := prog_6_method_1_code
def yX4_init : MethodName := ⟨RX4, "<init>", "()V"⟩
abbrev cX4_receive : ByteArray := prog_6_method_2_code
def yX4_receive : MethodName := ⟨RX4, "receive", "(IJ)V"⟩
abbrev cX4_event : ByteArray := prog_6_method_3_code
def yX4_event : MethodName := ⟨RX4, "event", "(I)V"⟩
abbrev cX4_tick : ByteArray := prog_6_method_4_code
def yX4_tick : MethodName := ⟨RX4, "tick", "(II)I"⟩
abbrev cX4_reading : ByteArray := prog_6_method_5_code
def yX4_reading : MethodName := ⟨RX4, "reading", "(I)I"⟩
abbrev cX4_clock : ByteArray := prog_6_method_6_code
def yX4_clock : MethodName := ⟨RX4, "clock", "(I)J"⟩
abbrev cX4_find : ByteArray := prog_6_method_7_code
def yX4_find : MethodName := ⟨RX4, "find", "(IJJ)I"⟩
abbrev cX4_versions : ByteArray := prog_6_method_8_code
def yX4_versions : MethodName := ⟨RX4, "versions", "(I)I"⟩
abbrev cX4_settle : ByteArray := prog_6_method_9_code
def yX4_settle : MethodName := ⟨RX4, "settle", "(I)V"⟩
abbrev cX4_meet : ByteArray := prog_6_method_10_code
def yX4_meet : MethodName := ⟨RX4, "meet", "(I)I"⟩
abbrev cX4_restart : ByteArray := prog_6_method_11_code
def yX4_restart : MethodName := ⟨RX4, "restart", "(IJ)V"⟩
abbrev cX4_begin : ByteArray := prog_6_method_12_code
def yX4_begin : MethodName := ⟨RX4, "begin", "(I)I"⟩
abbrev cX4_refused : ByteArray := prog_6_method_13_code
def yX4_refused : MethodName := ⟨RX4, "refused", "(I)I"⟩
abbrev cX4_stopped : ByteArray := prog_6_method_14_code
def yX4_stopped : MethodName := ⟨RX4, "stopped", "(I)I"⟩
abbrev cX4_read : ByteArray := prog_6_method_15_code
def yX4_read : MethodName := ⟨RX4, "read", "(II)J"⟩
abbrev cX4_write : ByteArray := prog_6_method_16_code
def yX4_write : MethodName := ⟨RX4, "write", "(III)I"⟩
abbrev cX4_commit : ByteArray := prog_6_method_17_code
def yX4_commit : MethodName := ⟨RX4, "commit", "(I)I"⟩
abbrev cX4_abort : ByteArray := prog_6_method_18_code
def yX4_abort : MethodName := ⟨RX4, "abort", "(I)I"⟩
abbrev cX4_heartbeat : ByteArray := prog_6_method_19_code
def yX4_heartbeat : MethodName := ⟨RX4, "heartbeat", "(I)I"⟩
abbrev cX4_clean : ByteArray := prog_6_method_20_code
def yX4_clean : MethodName := ⟨RX4, "clean", "(I)I"⟩
abbrev cX4_state : ByteArray := prog_6_method_21_code
def yX4_state : MethodName := ⟨RX4, "state", "(I)I"⟩
abbrev cX4_stamp : ByteArray := prog_6_method_22_code
def yX4_stamp : MethodName := ⟨RX4, "stamp", "(I)J"⟩
abbrev cX4_committed : ByteArray := prog_6_method_23_code
def yX4_committed : MethodName := ⟨RX4, "committed", "(I)J"⟩
def RJ9 : String := "java/lang/Math"
def TJ9 : u_T := fun k => match k with
  | _ => ("", "", "", false)
def tyJ9 : Nat → FieldType := fun k => match k with
  | _ => .int
abbrev wsJ90 : List Cond := u_ws RJ9 TJ9 0
theorem nmJ9 : ∀ a, a < 0 → ∀ b, b < 0 → a ≠ b → (TJ9 a).2.1 ≠ (TJ9 b).2.1 := by decide +kernel
theorem tyJ9_ok : ∀ k, k < 0 → parseFieldDescriptor (TJ9 k).2.2.1 = some (tyJ9 k) := by decide +kernel
abbrev cJ9_max_f86c9 : ByteArray := prog_7_method_66_code
def yJ9_max_f86c9 : MethodName := ⟨RJ9, "max", "(JJ)J"⟩
def RL : String := "HlcStoreLaw"
abbrev cL_law : ByteArray := code
def yL_law : MethodName := ⟨RL, "law", "([I)Z"⟩
def wsX0_init : List Cond := .code yX0_init cX0_init 3 none :: ([.methodLink RX0 3 objectInit, .instanceMethod objectInit, .code objectInit ⟨#[0xb1]⟩ 1 none, .fieldLink RX0 9 "HlcStore$Key" "bit" "I", .fieldLink RX0 15 "HlcStore$Key" "owner" "LHlcStore$Node;", .arrayClass .long, .fieldLink RX0 19 "HlcStore$Key" "stamps" "[J", .arrayClass .int, .fieldLink RX0 23 "HlcStore$Key" "values" "[I"] ++ wsX00)
def wsX0_raiseReadMark : List Cond := .code yX0_raiseReadMark cX0_raiseReadMark 3 none :: ([.fieldLink RX0 27 "HlcStore$Key" "readMark" "J", .methodLink RX0 31 Lib.MathLoose.max_long.x, .static Lib.MathLoose.max_long.x, .initialized "java/lang/Math", .code Lib.MathLoose.max_long.x Lib.MathLoose.max_long.code 4 (some .long)] ++ wsX00)
def wsX0_newestIn : List Cond := .code yX0_newestIn cX0_newestIn 9 (some .int) :: ([.fieldLink RX0 43 "HlcStore$Key" "count" "I", .fieldLink RX0 19 "HlcStore$Key" "stamps" "[J"] ++ wsX00)
def wsX0_greatestStampIn : List Cond := .code yX0_greatestStampIn cX0_greatestStampIn 6 (some .long) :: ([.constantLong RX0 41 (-1), .fieldLink RX0 19 "HlcStore$Key" "stamps" "[J", .methodLink RX0 37 yX0_newestIn, .instanceMethod yX0_newestIn, .selects RX0 yX0_newestIn yX0_newestIn, .initialized RX0, .code yX0_newestIn cX0_newestIn 9 (some .int), .fieldLink RX0 43 "HlcStore$Key" "count" "I"] ++ wsX00)
def wsX0_valueAt : List Cond := .code yX0_valueAt cX0_valueAt 4 (some .int) :: ([.constantLong RX0 41 (-1), .fieldLink RX0 23 "HlcStore$Key" "values" "[I", .methodLink RX0 37 yX0_newestIn, .instanceMethod yX0_newestIn, .selects RX0 yX0_newestIn yX0_newestIn, .initialized RX0, .code yX0_newestIn cX0_newestIn 9 (some .int), .fieldLink RX0 43 "HlcStore$Key" "count" "I", .fieldLink RX0 19 "HlcStore$Key" "stamps" "[J"] ++ wsX00)
def wsX0_addVersion : List Cond := .code yX0_addVersion cX0_addVersion 4 none :: ([.fieldLink RX0 43 "HlcStore$Key" "count" "I", .fieldLink RX0 19 "HlcStore$Key" "stamps" "[J", .fieldLink RX0 23 "HlcStore$Key" "values" "[I"] ++ wsX00)
def wsX0_settleIntent : List Cond := .code yX0_settleIntent cX0_settleIntent 1 none :: ([.fieldLink RX0 46 "HlcStore$Key" "holder" "LHlcStore$Transaction;", .fieldLink RX0 58 "HlcStore$Key" "intentValue" "I", .methodLink RX0 61 yX0_addVersion, .instanceMethod yX0_addVersion, .selects RX0 yX0_addVersion yX0_addVersion, .initialized RX0, .code yX0_addVersion cX0_addVersion 4 none, .fieldLink RX0 43 "HlcStore$Key" "count" "I", .fieldLink RX0 19 "HlcStore$Key" "stamps" "[J", .fieldLink RX0 23 "HlcStore$Key" "values" "[I"] ++ wsX00 ++ wsX20)
def wsX1_init : List Cond := .code yX1_init cX1_init 1 none :: ([.methodLink RX1 3 objectInit, .instanceMethod objectInit, .code objectInit ⟨#[0xb1]⟩ 1 none])
def wsX1_takeIn : List Cond := .code yX1_takeIn cX1_takeIn 3 none :: ([.fieldLink RX1 9 "HlcStore$Node" "clock" "J", .methodLink RX1 15 Lib.MathLoose.max_long.x, .static Lib.MathLoose.max_long.x, .initialized "java/lang/Math", .code Lib.MathLoose.max_long.x Lib.MathLoose.max_long.code 4 (some .long), .fieldLink RX1 21 "HlcStore$Node" "reading" "I", .constantLong RX1 25 (1048576)] ++ wsX10)
def wsX1_haveEvent : List Cond := .code yX1_haveEvent cX1_haveEvent 1 none :: ([.fieldLink RX1 9 "HlcStore$Node" "clock" "J", .methodLink RX1 27 yX1_takeIn, .instanceMethod yX1_takeIn, .selects RX1 yX1_takeIn yX1_takeIn, .initialized RX1, .code yX1_takeIn cX1_takeIn 3 none, .methodLink RX1 15 Lib.MathLoose.max_long.x, .static Lib.MathLoose.max_long.x, .initialized "java/lang/Math", .code Lib.MathLoose.max_long.x Lib.MathLoose.max_long.code 4 (some .long), .fieldLink RX1 21 "HlcStore$Node" "reading" "I", .constantLong RX1 25 (1048576)] ++ wsX10)
def wsX2_init : List Cond := .code yX2_init cX2_init 2 none :: ([.methodLink RX2 3 objectInit, .instanceMethod objectInit, .code objectInit ⟨#[0xb1]⟩ 1 none, .fieldLink RX2 9 "HlcStore$Transaction" "gateway" "LHlcStore$Node;"] ++ wsX20)
def wsX2_start : List Cond := .code yX2_start cX2_start 3 none :: ([.fieldLink RX2 15 "HlcStore$Transaction" "state" "I", .fieldLink RX2 9 "HlcStore$Transaction" "gateway" "LHlcStore$Node;", .fieldLink RX2 24 "HlcStore$Transaction" "lastBeat" "I", .fieldLink RX2 27 "HlcStore$Transaction" "place" "I", .fieldLink RX2 34 "HlcStore$Transaction" "readStamp" "J", .fieldLink RX2 37 "HlcStore$Transaction" "writeStamp" "J", .constantLong RX2 40 (1048576), .constantLong RX2 42 (10), .constantLong RX2 44 (1048575), .fieldLink RX2 46 "HlcStore$Transaction" "limit" "J", .fieldLink RX2 49 "HlcStore$Transaction" "keysRead" "I", .fieldLink RX2 52 "HlcStore$Transaction" "hurt" "Z"] ++ wsX20 ++ wsX10)
def wsX2_codeOfState : List Cond := .code yX2_codeOfState cX2_codeOfState 1 (some .int) :: ([.fieldLink RX2 15 "HlcStore$Transaction" "state" "I"] ++ wsX20)
def wsX2_takeStoppingCode : List Cond := .code yX2_takeStoppingCode cX2_takeStoppingCode 2 (some .int) :: ([.fieldLink RX2 52 "HlcStore$Transaction" "hurt" "Z", .methodLink RX2 56 yX2_codeOfState, .instanceMethod yX2_codeOfState, .selects RX2 yX2_codeOfState yX2_codeOfState, .initialized RX2, .code yX2_codeOfState cX2_codeOfState 1 (some .int), .fieldLink RX2 15 "HlcStore$Transaction" "state" "I"] ++ wsX20)
def wsX2_abortIfSilent : List Cond := .code yX2_abortIfSilent cX2_abortIfSilent 1 none :: ([.fieldLink RX2 15 "HlcStore$Transaction" "state" "I", .fieldLink RX2 9 "HlcStore$Transaction" "gateway" "LHlcStore$Node;", .fieldLink RX2 24 "HlcStore$Transaction" "lastBeat" "I"] ++ wsX20 ++ wsX10)
def wsX2_pushWriteStampAbove : List Cond := .code yX2_pushWriteStampAbove cX2_pushWriteStampAbove 3 none :: ([.fieldLink RX2 37 "HlcStore$Transaction" "writeStamp" "J", .methodLink RX2 60 Lib.MathLoose.max_long.x, .static Lib.MathLoose.max_long.x, .initialized "java/lang/Math", .code Lib.MathLoose.max_long.x Lib.MathLoose.max_long.code 4 (some .long)] ++ wsX20)
def wsX2_moveTo : List Cond := .code yX2_moveTo cX2_moveTo 3 none :: ([.fieldLink RX2 49 "HlcStore$Transaction" "keysRead" "I", .fieldLink RX2 37 "HlcStore$Transaction" "writeStamp" "J", .methodLink RX2 60 Lib.MathLoose.max_long.x, .static Lib.MathLoose.max_long.x, .initialized "java/lang/Math", .code Lib.MathLoose.max_long.x Lib.MathLoose.max_long.code 4 (some .long), .fieldLink RX2 34 "HlcStore$Transaction" "readStamp" "J", .fieldLink RX2 46 "HlcStore$Transaction" "limit" "J"] ++ wsX20)
def wsX3_init_r1 : List Cond := [Cond.methodLink RX3 1 objectInit, Cond.instanceMethod objectInit, Cond.code objectInit ⟨#[0xb1]⟩ 1 none, Cond.classLink RX3 9 RX1, Cond.fieldLink RX3 11 "HlcStore" "nodes" "[LHlcStore$Node;", Cond.instantiable RX1 2, Cond.initialized RX1, Cond.classLink RX3 16 RX0, Cond.fieldLink RX3 18 "HlcStore" "keys" "[LHlcStore$Key;", Cond.instantiable RX0 8, Cond.initialized RX0, Cond.classLink RX3 25 RX2, Cond.fieldLink RX3 27 "HlcStore" "slots" "[LHlcStore$Transaction;", Cond.instantiable RX2 9, Cond.initialized RX2, Cond.arrayClass .long, Cond.fieldLink RX3 34 "HlcStore" "commitStamps" "[J", Cond.instanceMethod yX1_init, Cond.code yX1_init cX1_init 1 none, Cond.methodLink RX1 3 objectInit, Cond.instanceMethod yX0_init, Cond.code yX0_init cX0_init 3 none, Cond.methodLink RX0 3 objectInit, Cond.fieldLink RX0 9 "HlcStore$Key" "bit" "I"]
def wsX3_init_r2 : List Cond := [Cond.fieldLink RX0 15 "HlcStore$Key" "owner" "LHlcStore$Node;", Cond.fieldLink RX0 19 "HlcStore$Key" "stamps" "[J", Cond.arrayClass .int, Cond.fieldLink RX0 23 "HlcStore$Key" "values" "[I", Cond.instanceMethod yX2_init, Cond.code yX2_init cX2_init 2 none, Cond.methodLink RX2 3 objectInit, Cond.fieldLink RX2 9 "HlcStore$Transaction" "gateway" "LHlcStore$Node;"]
def wsX3_init : List Cond := .code yX3_init cX3_init 2 none :: ((wsX3_init_r1 ++ wsX3_init_r2) ++ wsX30 ++ wsX10 ++ wsX00 ++ wsX20)
def wsX3_nodeAt : List Cond := .code yX3_nodeAt cX3_nodeAt 2 (some (.object "HlcStore$Node")) :: ([.fieldLink RX3 11 "HlcStore" "nodes" "[LHlcStore$Node;"] ++ wsX30)
def wsX3_runsAhead : List Cond := .code yX3_runsAhead cX3_runsAhead 7 (some .boolean) :: ([.fieldLink RX3 11 "HlcStore" "nodes" "[LHlcStore$Node;"] ++ wsX30 ++ wsX10)
def wsX3_tick_r1 : List Cond := [Cond.methodLink RX3 38 yX3_nodeAt, Cond.instanceMethod yX3_nodeAt, Cond.selects RX3 yX3_nodeAt yX3_nodeAt, Cond.initialized RX3, Cond.code yX3_nodeAt cX3_nodeAt 2 (some (.object "HlcStore$Node")), Cond.fieldLink RX3 11 "HlcStore" "nodes" "[LHlcStore$Node;", Cond.methodLink RX3 46 yX3_runsAhead, Cond.instanceMethod yX3_runsAhead, Cond.selects RX3 yX3_runsAhead yX3_runsAhead, Cond.code yX3_runsAhead cX3_runsAhead 7 (some .boolean), Cond.instanceMethod yX1_haveEvent, Cond.initialized RX1, Cond.selects RX1 yX1_haveEvent yX1_haveEvent, Cond.code yX1_haveEvent cX1_haveEvent 1 none, Cond.fieldLink RX1 9 "HlcStore$Node" "clock" "J", Cond.methodLink RX1 27 yX1_takeIn, Cond.instanceMethod yX1_takeIn, Cond.selects RX1 yX1_takeIn yX1_takeIn, Cond.code yX1_takeIn cX1_takeIn 3 none, Cond.methodLink RX1 15 Lib.MathLoose.max_long.x, Cond.static Lib.MathLoose.max_long.x, Cond.initialized "java/lang/Math", Cond.code Lib.MathLoose.max_long.x Lib.MathLoose.max_long.code 4 (some .long), Cond.fieldLink RX1 21 "HlcStore$Node" "reading" "I"]
def wsX3_tick_r2 : List Cond := [Cond.constantLong RX1 25 (1048576)]
def wsX3_tick : List Cond := .code yX3_tick cX3_tick 4 (some .int) :: ((wsX3_tick_r1 ++ wsX3_tick_r2) ++ wsX10 ++ wsX30)
def wsX3_reading : List Cond := .code yX3_reading cX3_reading 3 (some .int) :: ([.methodLink RX3 38 yX3_nodeAt, .instanceMethod yX3_nodeAt, .selects RX3 yX3_nodeAt yX3_nodeAt, .initialized RX3, .code yX3_nodeAt cX3_nodeAt 2 (some (.object "HlcStore$Node")), .fieldLink RX3 11 "HlcStore" "nodes" "[LHlcStore$Node;"] ++ wsX10 ++ wsX30)
def wsX3_clock : List Cond := .code yX3_clock cX3_clock 3 (some .long) :: ([.constantLong RX3 53 (-1), .methodLink RX3 38 yX3_nodeAt, .instanceMethod yX3_nodeAt, .selects RX3 yX3_nodeAt yX3_nodeAt, .initialized RX3, .code yX3_nodeAt cX3_nodeAt 2 (some (.object "HlcStore$Node")), .fieldLink RX3 11 "HlcStore" "nodes" "[LHlcStore$Node;"] ++ wsX10 ++ wsX30)
def wsX3_leastFreeSlot : List Cond := .code yX3_leastFreeSlot cX3_leastFreeSlot 2 (some .int) :: ([.fieldLink RX3 27 "HlcStore" "slots" "[LHlcStore$Transaction;"] ++ wsX30 ++ wsX20)
def wsX3_begin_r1 : List Cond := [Cond.fieldLink RX3 27 "HlcStore" "slots" "[LHlcStore$Transaction;", Cond.fieldLink RX3 63 "HlcStore" "begins" "I", Cond.methodLink RX3 38 yX3_nodeAt, Cond.instanceMethod yX3_nodeAt, Cond.selects RX3 yX3_nodeAt yX3_nodeAt, Cond.initialized RX3, Cond.code yX3_nodeAt cX3_nodeAt 2 (some (.object "HlcStore$Node")), Cond.fieldLink RX3 11 "HlcStore" "nodes" "[LHlcStore$Node;", Cond.methodLink RX3 59 yX3_leastFreeSlot, Cond.instanceMethod yX3_leastFreeSlot, Cond.selects RX3 yX3_leastFreeSlot yX3_leastFreeSlot, Cond.code yX3_leastFreeSlot cX3_leastFreeSlot 2 (some .int), Cond.instanceMethod yX1_haveEvent, Cond.initialized RX1, Cond.selects RX1 yX1_haveEvent yX1_haveEvent, Cond.code yX1_haveEvent cX1_haveEvent 1 none, Cond.fieldLink RX1 9 "HlcStore$Node" "clock" "J", Cond.methodLink RX1 27 yX1_takeIn, Cond.instanceMethod yX1_takeIn, Cond.selects RX1 yX1_takeIn yX1_takeIn, Cond.code yX1_takeIn cX1_takeIn 3 none, Cond.methodLink RX1 15 Lib.MathLoose.max_long.x, Cond.static Lib.MathLoose.max_long.x, Cond.initialized "java/lang/Math"]
def wsX3_begin_r2 : List Cond := [Cond.code Lib.MathLoose.max_long.x Lib.MathLoose.max_long.code 4 (some .long), Cond.fieldLink RX1 21 "HlcStore$Node" "reading" "I", Cond.constantLong RX1 25 (1048576), Cond.instanceMethod yX2_start, Cond.initialized RX2, Cond.selects RX2 yX2_start yX2_start, Cond.code yX2_start cX2_start 3 none, Cond.fieldLink RX2 15 "HlcStore$Transaction" "state" "I", Cond.fieldLink RX2 9 "HlcStore$Transaction" "gateway" "LHlcStore$Node;", Cond.fieldLink RX2 24 "HlcStore$Transaction" "lastBeat" "I", Cond.fieldLink RX2 27 "HlcStore$Transaction" "place" "I", Cond.fieldLink RX2 34 "HlcStore$Transaction" "readStamp" "J", Cond.fieldLink RX2 37 "HlcStore$Transaction" "writeStamp" "J", Cond.constantLong RX2 40 (1048576), Cond.constantLong RX2 42 (10), Cond.constantLong RX2 44 (1048575), Cond.fieldLink RX2 46 "HlcStore$Transaction" "limit" "J", Cond.fieldLink RX2 49 "HlcStore$Transaction" "keysRead" "I", Cond.fieldLink RX2 52 "HlcStore$Transaction" "hurt" "Z"]
def wsX3_begin : List Cond := .code yX3_begin cX3_begin 4 (some .int) :: ((wsX3_begin_r1 ++ wsX3_begin_r2) ++ wsX30 ++ wsX20 ++ wsX10)
def wsX3_transactionAt : List Cond := .code yX3_transactionAt cX3_transactionAt 2 (some (.object "HlcStore$Transaction")) :: ([.fieldLink RX3 27 "HlcStore" "slots" "[LHlcStore$Transaction;"] ++ wsX30)
def wsX3_keyAt : List Cond := .code yX3_keyAt cX3_keyAt 2 (some (.object "HlcStore$Key")) :: ([.fieldLink RX3 18 "HlcStore" "keys" "[LHlcStore$Key;"] ++ wsX30)
def wsX3_lookUp_r1 : List Cond := [Cond.instanceMethod yX1_takeIn, Cond.initialized RX1, Cond.selects RX1 yX1_takeIn yX1_takeIn, Cond.code yX1_takeIn cX1_takeIn 3 none, Cond.fieldLink RX1 9 "HlcStore$Node" "clock" "J", Cond.methodLink RX1 15 Lib.MathLoose.max_long.x, Cond.static Lib.MathLoose.max_long.x, Cond.initialized "java/lang/Math", Cond.code Lib.MathLoose.max_long.x Lib.MathLoose.max_long.code 4 (some .long), Cond.fieldLink RX1 21 "HlcStore$Node" "reading" "I", Cond.constantLong RX1 25 (1048576), Cond.instanceMethod yX2_abortIfSilent, Cond.initialized RX2, Cond.selects RX2 yX2_abortIfSilent yX2_abortIfSilent, Cond.code yX2_abortIfSilent cX2_abortIfSilent 1 none, Cond.fieldLink RX2 15 "HlcStore$Transaction" "state" "I", Cond.fieldLink RX2 9 "HlcStore$Transaction" "gateway" "LHlcStore$Node;", Cond.fieldLink RX2 24 "HlcStore$Transaction" "lastBeat" "I", Cond.instanceMethod yX0_settleIntent, Cond.initialized RX0, Cond.selects RX0 yX0_settleIntent yX0_settleIntent, Cond.code yX0_settleIntent cX0_settleIntent 1 none, Cond.fieldLink RX0 46 "HlcStore$Key" "holder" "LHlcStore$Transaction;", Cond.fieldLink RX0 58 "HlcStore$Key" "intentValue" "I"]
def wsX3_lookUp_r2 : List Cond := [Cond.methodLink RX0 61 yX0_addVersion, Cond.instanceMethod yX0_addVersion, Cond.selects RX0 yX0_addVersion yX0_addVersion, Cond.code yX0_addVersion cX0_addVersion 4 none, Cond.fieldLink RX0 43 "HlcStore$Key" "count" "I", Cond.fieldLink RX0 19 "HlcStore$Key" "stamps" "[J", Cond.fieldLink RX0 23 "HlcStore$Key" "values" "[I"]
def wsX3_lookUp : List Cond := .code yX3_lookUp cX3_lookUp 3 (some (.object "HlcStore$Transaction")) :: ((wsX3_lookUp_r1 ++ wsX3_lookUp_r2) ++ wsX00 ++ wsX20 ++ wsX10)
def wsX3_restart : List Cond := .code yX3_restart cX3_restart 8 none :: ([.fieldLink RX3 18 "HlcStore" "keys" "[LHlcStore$Key;", .instanceMethod yX2_moveTo, .initialized RX2, .selects RX2 yX2_moveTo yX2_moveTo, .code yX2_moveTo cX2_moveTo 3 none, .fieldLink RX2 49 "HlcStore$Transaction" "keysRead" "I", .fieldLink RX2 37 "HlcStore$Transaction" "writeStamp" "J", .methodLink RX2 60 Lib.MathLoose.max_long.x, .static Lib.MathLoose.max_long.x, .initialized "java/lang/Math", .code Lib.MathLoose.max_long.x Lib.MathLoose.max_long.code 4 (some .long), .fieldLink RX2 34 "HlcStore$Transaction" "readStamp" "J", .fieldLink RX2 46 "HlcStore$Transaction" "limit" "J"] ++ wsX30 ++ wsX00 ++ wsX20)
def wsX3_readAtOwner_r1 : List Cond := [Cond.constantLong RX3 53 (-1), Cond.constantLong RX3 160 (4294967297), Cond.methodLink RX3 146 yX3_lookUp, Cond.static yX3_lookUp, Cond.initialized RX3, Cond.code yX3_lookUp cX3_lookUp 3 (some (.object "HlcStore$Transaction")), Cond.instanceMethod yX1_takeIn, Cond.initialized RX1, Cond.selects RX1 yX1_takeIn yX1_takeIn, Cond.code yX1_takeIn cX1_takeIn 3 none, Cond.fieldLink RX1 9 "HlcStore$Node" "clock" "J", Cond.methodLink RX1 15 Lib.MathLoose.max_long.x, Cond.static Lib.MathLoose.max_long.x, Cond.initialized "java/lang/Math", Cond.code Lib.MathLoose.max_long.x Lib.MathLoose.max_long.code 4 (some .long), Cond.fieldLink RX1 21 "HlcStore$Node" "reading" "I", Cond.constantLong RX1 25 (1048576), Cond.instanceMethod yX2_abortIfSilent, Cond.initialized RX2, Cond.selects RX2 yX2_abortIfSilent yX2_abortIfSilent, Cond.code yX2_abortIfSilent cX2_abortIfSilent 1 none, Cond.fieldLink RX2 15 "HlcStore$Transaction" "state" "I", Cond.fieldLink RX2 9 "HlcStore$Transaction" "gateway" "LHlcStore$Node;", Cond.fieldLink RX2 24 "HlcStore$Transaction" "lastBeat" "I"]
def wsX3_readAtOwner_r2 : List Cond := [Cond.instanceMethod yX0_settleIntent, Cond.initialized RX0, Cond.selects RX0 yX0_settleIntent yX0_settleIntent, Cond.code yX0_settleIntent cX0_settleIntent 1 none, Cond.fieldLink RX0 46 "HlcStore$Key" "holder" "LHlcStore$Transaction;", Cond.fieldLink RX0 58 "HlcStore$Key" "intentValue" "I", Cond.methodLink RX0 61 yX0_addVersion, Cond.instanceMethod yX0_addVersion, Cond.selects RX0 yX0_addVersion yX0_addVersion, Cond.code yX0_addVersion cX0_addVersion 4 none, Cond.fieldLink RX0 43 "HlcStore$Key" "count" "I", Cond.fieldLink RX0 19 "HlcStore$Key" "stamps" "[J", Cond.fieldLink RX0 23 "HlcStore$Key" "values" "[I", Cond.instanceMethod yX2_pushWriteStampAbove, Cond.selects RX2 yX2_pushWriteStampAbove yX2_pushWriteStampAbove, Cond.code yX2_pushWriteStampAbove cX2_pushWriteStampAbove 3 none, Cond.fieldLink RX2 37 "HlcStore$Transaction" "writeStamp" "J", Cond.methodLink RX2 60 Lib.MathLoose.max_long.x, Cond.instanceMethod yX0_greatestStampIn, Cond.selects RX0 yX0_greatestStampIn yX0_greatestStampIn, Cond.code yX0_greatestStampIn cX0_greatestStampIn 6 (some .long), Cond.constantLong RX0 41 (-1), Cond.methodLink RX0 37 yX0_newestIn, Cond.instanceMethod yX0_newestIn]
def wsX3_readAtOwner_r3 : List Cond := [Cond.selects RX0 yX0_newestIn yX0_newestIn, Cond.code yX0_newestIn cX0_newestIn 9 (some .int), Cond.methodLink RX3 114 yX3_restart, Cond.instanceMethod yX3_restart, Cond.selects RX3 yX3_restart yX3_restart, Cond.code yX3_restart cX3_restart 8 none, Cond.fieldLink RX3 18 "HlcStore" "keys" "[LHlcStore$Key;", Cond.instanceMethod yX2_moveTo, Cond.selects RX2 yX2_moveTo yX2_moveTo, Cond.code yX2_moveTo cX2_moveTo 3 none, Cond.fieldLink RX2 49 "HlcStore$Transaction" "keysRead" "I", Cond.fieldLink RX2 34 "HlcStore$Transaction" "readStamp" "J", Cond.fieldLink RX2 46 "HlcStore$Transaction" "limit" "J", Cond.instanceMethod yX0_raiseReadMark, Cond.selects RX0 yX0_raiseReadMark yX0_raiseReadMark, Cond.code yX0_raiseReadMark cX0_raiseReadMark 3 none, Cond.fieldLink RX0 27 "HlcStore$Key" "readMark" "J", Cond.methodLink RX0 31 Lib.MathLoose.max_long.x, Cond.instanceMethod yX0_valueAt, Cond.selects RX0 yX0_valueAt yX0_valueAt, Cond.code yX0_valueAt cX0_valueAt 4 (some .int)]
def wsX3_readAtOwner : List Cond := .code yX3_readAtOwner cX3_readAtOwner 6 (some .long) :: ((wsX3_readAtOwner_r1 ++ (wsX3_readAtOwner_r2 ++ wsX3_readAtOwner_r3)) ++ wsX00 ++ wsX20 ++ wsX10 ++ wsX30)
def wsX3_read_r1 : List Cond := [Cond.constantLong RX3 78 (4294967295), Cond.constantLong RX3 83 (4294967296), Cond.methodLink RX3 70 yX3_transactionAt, Cond.instanceMethod yX3_transactionAt, Cond.selects RX3 yX3_transactionAt yX3_transactionAt, Cond.initialized RX3, Cond.code yX3_transactionAt cX3_transactionAt 2 (some (.object "HlcStore$Transaction")), Cond.fieldLink RX3 27 "HlcStore" "slots" "[LHlcStore$Transaction;", Cond.methodLink RX3 74 yX3_keyAt, Cond.instanceMethod yX3_keyAt, Cond.selects RX3 yX3_keyAt yX3_keyAt, Cond.code yX3_keyAt cX3_keyAt 2 (some (.object "HlcStore$Key")), Cond.fieldLink RX3 18 "HlcStore" "keys" "[LHlcStore$Key;", Cond.instanceMethod yX2_takeStoppingCode, Cond.initialized RX2, Cond.selects RX2 yX2_takeStoppingCode yX2_takeStoppingCode, Cond.code yX2_takeStoppingCode cX2_takeStoppingCode 2 (some .int), Cond.fieldLink RX2 52 "HlcStore$Transaction" "hurt" "Z", Cond.methodLink RX2 56 yX2_codeOfState, Cond.instanceMethod yX2_codeOfState, Cond.selects RX2 yX2_codeOfState yX2_codeOfState, Cond.code yX2_codeOfState cX2_codeOfState 1 (some .int), Cond.fieldLink RX2 15 "HlcStore$Transaction" "state" "I", Cond.instanceMethod yX1_haveEvent]
def wsX3_read_r2 : List Cond := [Cond.initialized RX1, Cond.selects RX1 yX1_haveEvent yX1_haveEvent, Cond.code yX1_haveEvent cX1_haveEvent 1 none, Cond.fieldLink RX1 9 "HlcStore$Node" "clock" "J", Cond.methodLink RX1 27 yX1_takeIn, Cond.instanceMethod yX1_takeIn, Cond.selects RX1 yX1_takeIn yX1_takeIn, Cond.code yX1_takeIn cX1_takeIn 3 none, Cond.methodLink RX1 15 Lib.MathLoose.max_long.x, Cond.static Lib.MathLoose.max_long.x, Cond.initialized "java/lang/Math", Cond.code Lib.MathLoose.max_long.x Lib.MathLoose.max_long.code 4 (some .long), Cond.fieldLink RX1 21 "HlcStore$Node" "reading" "I", Cond.constantLong RX1 25 (1048576), Cond.methodLink RX3 96 yX3_readAtOwner, Cond.instanceMethod yX3_readAtOwner, Cond.selects RX3 yX3_readAtOwner yX3_readAtOwner, Cond.code yX3_readAtOwner cX3_readAtOwner 6 (some .long), Cond.constantLong RX3 53 (-1), Cond.constantLong RX3 160 (4294967297), Cond.methodLink RX3 146 yX3_lookUp, Cond.static yX3_lookUp, Cond.code yX3_lookUp cX3_lookUp 3 (some (.object "HlcStore$Transaction")), Cond.instanceMethod yX2_abortIfSilent]
def wsX3_read_r3 : List Cond := [Cond.selects RX2 yX2_abortIfSilent yX2_abortIfSilent, Cond.code yX2_abortIfSilent cX2_abortIfSilent 1 none, Cond.fieldLink RX2 9 "HlcStore$Transaction" "gateway" "LHlcStore$Node;", Cond.fieldLink RX2 24 "HlcStore$Transaction" "lastBeat" "I", Cond.instanceMethod yX0_settleIntent, Cond.initialized RX0, Cond.selects RX0 yX0_settleIntent yX0_settleIntent, Cond.code yX0_settleIntent cX0_settleIntent 1 none, Cond.fieldLink RX0 46 "HlcStore$Key" "holder" "LHlcStore$Transaction;", Cond.fieldLink RX0 58 "HlcStore$Key" "intentValue" "I", Cond.methodLink RX0 61 yX0_addVersion, Cond.instanceMethod yX0_addVersion, Cond.selects RX0 yX0_addVersion yX0_addVersion, Cond.code yX0_addVersion cX0_addVersion 4 none, Cond.fieldLink RX0 43 "HlcStore$Key" "count" "I", Cond.fieldLink RX0 19 "HlcStore$Key" "stamps" "[J", Cond.fieldLink RX0 23 "HlcStore$Key" "values" "[I", Cond.instanceMethod yX2_pushWriteStampAbove, Cond.selects RX2 yX2_pushWriteStampAbove yX2_pushWriteStampAbove, Cond.code yX2_pushWriteStampAbove cX2_pushWriteStampAbove 3 none, Cond.fieldLink RX2 37 "HlcStore$Transaction" "writeStamp" "J", Cond.methodLink RX2 60 Lib.MathLoose.max_long.x, Cond.instanceMethod yX0_greatestStampIn, Cond.selects RX0 yX0_greatestStampIn yX0_greatestStampIn]
def wsX3_read_r4 : List Cond := [Cond.code yX0_greatestStampIn cX0_greatestStampIn 6 (some .long), Cond.constantLong RX0 41 (-1), Cond.methodLink RX0 37 yX0_newestIn, Cond.instanceMethod yX0_newestIn, Cond.selects RX0 yX0_newestIn yX0_newestIn, Cond.code yX0_newestIn cX0_newestIn 9 (some .int), Cond.methodLink RX3 114 yX3_restart, Cond.instanceMethod yX3_restart, Cond.selects RX3 yX3_restart yX3_restart, Cond.code yX3_restart cX3_restart 8 none, Cond.instanceMethod yX2_moveTo, Cond.selects RX2 yX2_moveTo yX2_moveTo, Cond.code yX2_moveTo cX2_moveTo 3 none, Cond.fieldLink RX2 49 "HlcStore$Transaction" "keysRead" "I", Cond.fieldLink RX2 34 "HlcStore$Transaction" "readStamp" "J", Cond.fieldLink RX2 46 "HlcStore$Transaction" "limit" "J", Cond.instanceMethod yX0_raiseReadMark, Cond.selects RX0 yX0_raiseReadMark yX0_raiseReadMark, Cond.code yX0_raiseReadMark cX0_raiseReadMark 3 none, Cond.fieldLink RX0 27 "HlcStore$Key" "readMark" "J", Cond.methodLink RX0 31 Lib.MathLoose.max_long.x, Cond.instanceMethod yX0_valueAt, Cond.selects RX0 yX0_valueAt yX0_valueAt, Cond.code yX0_valueAt cX0_valueAt 4 (some .int)]
def wsX3_read : List Cond := .code yX3_read cX3_read 8 (some .long) :: ((wsX3_read_r1 ++ (wsX3_read_r2 ++ (wsX3_read_r3 ++ wsX3_read_r4))) ++ wsX20 ++ wsX00 ++ wsX10 ++ wsX30)
def wsX3_writeAtOwner_r1 : List Cond := [Cond.constantLong RX3 53 (-1), Cond.constantLong RX3 187 (9223372036854775807), Cond.methodLink RX3 146 yX3_lookUp, Cond.static yX3_lookUp, Cond.initialized RX3, Cond.code yX3_lookUp cX3_lookUp 3 (some (.object "HlcStore$Transaction")), Cond.instanceMethod yX1_takeIn, Cond.initialized RX1, Cond.selects RX1 yX1_takeIn yX1_takeIn, Cond.code yX1_takeIn cX1_takeIn 3 none, Cond.fieldLink RX1 9 "HlcStore$Node" "clock" "J", Cond.methodLink RX1 15 Lib.MathLoose.max_long.x, Cond.static Lib.MathLoose.max_long.x, Cond.initialized "java/lang/Math", Cond.code Lib.MathLoose.max_long.x Lib.MathLoose.max_long.code 4 (some .long), Cond.fieldLink RX1 21 "HlcStore$Node" "reading" "I", Cond.constantLong RX1 25 (1048576), Cond.instanceMethod yX2_abortIfSilent, Cond.initialized RX2, Cond.selects RX2 yX2_abortIfSilent yX2_abortIfSilent, Cond.code yX2_abortIfSilent cX2_abortIfSilent 1 none, Cond.fieldLink RX2 15 "HlcStore$Transaction" "state" "I", Cond.fieldLink RX2 9 "HlcStore$Transaction" "gateway" "LHlcStore$Node;", Cond.fieldLink RX2 24 "HlcStore$Transaction" "lastBeat" "I"]
def wsX3_writeAtOwner_r2 : List Cond := [Cond.instanceMethod yX0_settleIntent, Cond.initialized RX0, Cond.selects RX0 yX0_settleIntent yX0_settleIntent, Cond.code yX0_settleIntent cX0_settleIntent 1 none, Cond.fieldLink RX0 46 "HlcStore$Key" "holder" "LHlcStore$Transaction;", Cond.fieldLink RX0 58 "HlcStore$Key" "intentValue" "I", Cond.methodLink RX0 61 yX0_addVersion, Cond.instanceMethod yX0_addVersion, Cond.selects RX0 yX0_addVersion yX0_addVersion, Cond.code yX0_addVersion cX0_addVersion 4 none, Cond.fieldLink RX0 43 "HlcStore$Key" "count" "I", Cond.fieldLink RX0 19 "HlcStore$Key" "stamps" "[J", Cond.fieldLink RX0 23 "HlcStore$Key" "values" "[I", Cond.methodLink RX3 114 yX3_restart, Cond.instanceMethod yX3_restart, Cond.selects RX3 yX3_restart yX3_restart, Cond.code yX3_restart cX3_restart 8 none, Cond.fieldLink RX3 18 "HlcStore" "keys" "[LHlcStore$Key;", Cond.instanceMethod yX2_moveTo, Cond.selects RX2 yX2_moveTo yX2_moveTo, Cond.code yX2_moveTo cX2_moveTo 3 none, Cond.fieldLink RX2 49 "HlcStore$Transaction" "keysRead" "I", Cond.fieldLink RX2 37 "HlcStore$Transaction" "writeStamp" "J", Cond.methodLink RX2 60 Lib.MathLoose.max_long.x]
def wsX3_writeAtOwner_r3 : List Cond := [Cond.fieldLink RX2 34 "HlcStore$Transaction" "readStamp" "J", Cond.fieldLink RX2 46 "HlcStore$Transaction" "limit" "J", Cond.instanceMethod yX2_pushWriteStampAbove, Cond.selects RX2 yX2_pushWriteStampAbove yX2_pushWriteStampAbove, Cond.code yX2_pushWriteStampAbove cX2_pushWriteStampAbove 3 none, Cond.instanceMethod yX0_greatestStampIn, Cond.selects RX0 yX0_greatestStampIn yX0_greatestStampIn, Cond.code yX0_greatestStampIn cX0_greatestStampIn 6 (some .long), Cond.constantLong RX0 41 (-1), Cond.methodLink RX0 37 yX0_newestIn, Cond.instanceMethod yX0_newestIn, Cond.selects RX0 yX0_newestIn yX0_newestIn, Cond.code yX0_newestIn cX0_newestIn 9 (some .int)]
def wsX3_writeAtOwner : List Cond := .code yX3_writeAtOwner cX3_writeAtOwner 5 (some .int) :: ((wsX3_writeAtOwner_r1 ++ (wsX3_writeAtOwner_r2 ++ wsX3_writeAtOwner_r3)) ++ wsX00 ++ wsX20 ++ wsX10 ++ wsX30)
def wsX3_write_r1 : List Cond := [Cond.methodLink RX3 70 yX3_transactionAt, Cond.instanceMethod yX3_transactionAt, Cond.selects RX3 yX3_transactionAt yX3_transactionAt, Cond.initialized RX3, Cond.code yX3_transactionAt cX3_transactionAt 2 (some (.object "HlcStore$Transaction")), Cond.fieldLink RX3 27 "HlcStore" "slots" "[LHlcStore$Transaction;", Cond.methodLink RX3 74 yX3_keyAt, Cond.instanceMethod yX3_keyAt, Cond.selects RX3 yX3_keyAt yX3_keyAt, Cond.code yX3_keyAt cX3_keyAt 2 (some (.object "HlcStore$Key")), Cond.fieldLink RX3 18 "HlcStore" "keys" "[LHlcStore$Key;", Cond.instanceMethod yX2_takeStoppingCode, Cond.initialized RX2, Cond.selects RX2 yX2_takeStoppingCode yX2_takeStoppingCode, Cond.code yX2_takeStoppingCode cX2_takeStoppingCode 2 (some .int), Cond.fieldLink RX2 52 "HlcStore$Transaction" "hurt" "Z", Cond.methodLink RX2 56 yX2_codeOfState, Cond.instanceMethod yX2_codeOfState, Cond.selects RX2 yX2_codeOfState yX2_codeOfState, Cond.code yX2_codeOfState cX2_codeOfState 1 (some .int), Cond.fieldLink RX2 15 "HlcStore$Transaction" "state" "I", Cond.instanceMethod yX1_haveEvent, Cond.initialized RX1, Cond.selects RX1 yX1_haveEvent yX1_haveEvent]
def wsX3_write_r2 : List Cond := [Cond.code yX1_haveEvent cX1_haveEvent 1 none, Cond.fieldLink RX1 9 "HlcStore$Node" "clock" "J", Cond.methodLink RX1 27 yX1_takeIn, Cond.instanceMethod yX1_takeIn, Cond.selects RX1 yX1_takeIn yX1_takeIn, Cond.code yX1_takeIn cX1_takeIn 3 none, Cond.methodLink RX1 15 Lib.MathLoose.max_long.x, Cond.static Lib.MathLoose.max_long.x, Cond.initialized "java/lang/Math", Cond.code Lib.MathLoose.max_long.x Lib.MathLoose.max_long.code 4 (some .long), Cond.fieldLink RX1 21 "HlcStore$Node" "reading" "I", Cond.constantLong RX1 25 (1048576), Cond.methodLink RX3 100 yX3_writeAtOwner, Cond.instanceMethod yX3_writeAtOwner, Cond.selects RX3 yX3_writeAtOwner yX3_writeAtOwner, Cond.code yX3_writeAtOwner cX3_writeAtOwner 5 (some .int), Cond.constantLong RX3 53 (-1), Cond.constantLong RX3 187 (9223372036854775807), Cond.methodLink RX3 146 yX3_lookUp, Cond.static yX3_lookUp, Cond.code yX3_lookUp cX3_lookUp 3 (some (.object "HlcStore$Transaction")), Cond.instanceMethod yX2_abortIfSilent, Cond.selects RX2 yX2_abortIfSilent yX2_abortIfSilent, Cond.code yX2_abortIfSilent cX2_abortIfSilent 1 none]
def wsX3_write_r3 : List Cond := [Cond.fieldLink RX2 9 "HlcStore$Transaction" "gateway" "LHlcStore$Node;", Cond.fieldLink RX2 24 "HlcStore$Transaction" "lastBeat" "I", Cond.instanceMethod yX0_settleIntent, Cond.initialized RX0, Cond.selects RX0 yX0_settleIntent yX0_settleIntent, Cond.code yX0_settleIntent cX0_settleIntent 1 none, Cond.fieldLink RX0 46 "HlcStore$Key" "holder" "LHlcStore$Transaction;", Cond.fieldLink RX0 58 "HlcStore$Key" "intentValue" "I", Cond.methodLink RX0 61 yX0_addVersion, Cond.instanceMethod yX0_addVersion, Cond.selects RX0 yX0_addVersion yX0_addVersion, Cond.code yX0_addVersion cX0_addVersion 4 none, Cond.fieldLink RX0 43 "HlcStore$Key" "count" "I", Cond.fieldLink RX0 19 "HlcStore$Key" "stamps" "[J", Cond.fieldLink RX0 23 "HlcStore$Key" "values" "[I", Cond.methodLink RX3 114 yX3_restart, Cond.instanceMethod yX3_restart, Cond.selects RX3 yX3_restart yX3_restart, Cond.code yX3_restart cX3_restart 8 none, Cond.instanceMethod yX2_moveTo, Cond.selects RX2 yX2_moveTo yX2_moveTo, Cond.code yX2_moveTo cX2_moveTo 3 none, Cond.fieldLink RX2 49 "HlcStore$Transaction" "keysRead" "I", Cond.fieldLink RX2 37 "HlcStore$Transaction" "writeStamp" "J"]
def wsX3_write_r4 : List Cond := [Cond.methodLink RX2 60 Lib.MathLoose.max_long.x, Cond.fieldLink RX2 34 "HlcStore$Transaction" "readStamp" "J", Cond.fieldLink RX2 46 "HlcStore$Transaction" "limit" "J", Cond.instanceMethod yX2_pushWriteStampAbove, Cond.selects RX2 yX2_pushWriteStampAbove yX2_pushWriteStampAbove, Cond.code yX2_pushWriteStampAbove cX2_pushWriteStampAbove 3 none, Cond.instanceMethod yX0_greatestStampIn, Cond.selects RX0 yX0_greatestStampIn yX0_greatestStampIn, Cond.code yX0_greatestStampIn cX0_greatestStampIn 6 (some .long), Cond.constantLong RX0 41 (-1), Cond.methodLink RX0 37 yX0_newestIn, Cond.instanceMethod yX0_newestIn, Cond.selects RX0 yX0_newestIn yX0_newestIn, Cond.code yX0_newestIn cX0_newestIn 9 (some .int)]
def wsX3_write : List Cond := .code yX3_write cX3_write 8 (some .int) :: ((wsX3_write_r1 ++ (wsX3_write_r2 ++ (wsX3_write_r3 ++ wsX3_write_r4))) ++ wsX20 ++ wsX00 ++ wsX10 ++ wsX30)
def wsX3_moveReadToWriteStamp_r1 : List Cond := [Cond.constantLong RX3 53 (-1), Cond.instanceMethod yX1_takeIn, Cond.initialized RX1, Cond.selects RX1 yX1_takeIn yX1_takeIn, Cond.code yX1_takeIn cX1_takeIn 3 none, Cond.fieldLink RX1 9 "HlcStore$Node" "clock" "J", Cond.methodLink RX1 15 Lib.MathLoose.max_long.x, Cond.static Lib.MathLoose.max_long.x, Cond.initialized "java/lang/Math", Cond.code Lib.MathLoose.max_long.x Lib.MathLoose.max_long.code 4 (some .long), Cond.fieldLink RX1 21 "HlcStore$Node" "reading" "I", Cond.constantLong RX1 25 (1048576), Cond.methodLink RX3 146 yX3_lookUp, Cond.static yX3_lookUp, Cond.initialized RX3, Cond.code yX3_lookUp cX3_lookUp 3 (some (.object "HlcStore$Transaction")), Cond.instanceMethod yX2_abortIfSilent, Cond.initialized RX2, Cond.selects RX2 yX2_abortIfSilent yX2_abortIfSilent, Cond.code yX2_abortIfSilent cX2_abortIfSilent 1 none, Cond.fieldLink RX2 15 "HlcStore$Transaction" "state" "I", Cond.fieldLink RX2 9 "HlcStore$Transaction" "gateway" "LHlcStore$Node;", Cond.fieldLink RX2 24 "HlcStore$Transaction" "lastBeat" "I", Cond.instanceMethod yX0_settleIntent]
def wsX3_moveReadToWriteStamp_r2 : List Cond := [Cond.initialized RX0, Cond.selects RX0 yX0_settleIntent yX0_settleIntent, Cond.code yX0_settleIntent cX0_settleIntent 1 none, Cond.fieldLink RX0 46 "HlcStore$Key" "holder" "LHlcStore$Transaction;", Cond.fieldLink RX0 58 "HlcStore$Key" "intentValue" "I", Cond.methodLink RX0 61 yX0_addVersion, Cond.instanceMethod yX0_addVersion, Cond.selects RX0 yX0_addVersion yX0_addVersion, Cond.code yX0_addVersion cX0_addVersion 4 none, Cond.fieldLink RX0 43 "HlcStore$Key" "count" "I", Cond.fieldLink RX0 19 "HlcStore$Key" "stamps" "[J", Cond.fieldLink RX0 23 "HlcStore$Key" "values" "[I", Cond.instanceMethod yX2_pushWriteStampAbove, Cond.selects RX2 yX2_pushWriteStampAbove yX2_pushWriteStampAbove, Cond.code yX2_pushWriteStampAbove cX2_pushWriteStampAbove 3 none, Cond.fieldLink RX2 37 "HlcStore$Transaction" "writeStamp" "J", Cond.methodLink RX2 60 Lib.MathLoose.max_long.x, Cond.instanceMethod yX0_greatestStampIn, Cond.selects RX0 yX0_greatestStampIn yX0_greatestStampIn, Cond.code yX0_greatestStampIn cX0_greatestStampIn 6 (some .long), Cond.constantLong RX0 41 (-1), Cond.methodLink RX0 37 yX0_newestIn, Cond.instanceMethod yX0_newestIn, Cond.selects RX0 yX0_newestIn yX0_newestIn]
def wsX3_moveReadToWriteStamp_r3 : List Cond := [Cond.code yX0_newestIn cX0_newestIn 9 (some .int), Cond.instanceMethod yX0_raiseReadMark, Cond.selects RX0 yX0_raiseReadMark yX0_raiseReadMark, Cond.code yX0_raiseReadMark cX0_raiseReadMark 3 none, Cond.fieldLink RX0 27 "HlcStore$Key" "readMark" "J", Cond.methodLink RX0 31 Lib.MathLoose.max_long.x]
def wsX3_moveReadToWriteStamp : List Cond := .code yX3_moveReadToWriteStamp cX3_moveReadToWriteStamp 4 (some .boolean) :: ((wsX3_moveReadToWriteStamp_r1 ++ (wsX3_moveReadToWriteStamp_r2 ++ wsX3_moveReadToWriteStamp_r3)) ++ wsX00 ++ wsX20 ++ wsX10)
def wsX3_moveReadsToWriteStamp_r1 : List Cond := [Cond.fieldLink RX3 18 "HlcStore" "keys" "[LHlcStore$Key;", Cond.methodLink RX3 189 yX3_moveReadToWriteStamp, Cond.static yX3_moveReadToWriteStamp, Cond.initialized RX3, Cond.code yX3_moveReadToWriteStamp cX3_moveReadToWriteStamp 4 (some .boolean), Cond.constantLong RX3 53 (-1), Cond.instanceMethod yX1_takeIn, Cond.initialized RX1, Cond.selects RX1 yX1_takeIn yX1_takeIn, Cond.code yX1_takeIn cX1_takeIn 3 none, Cond.fieldLink RX1 9 "HlcStore$Node" "clock" "J", Cond.methodLink RX1 15 Lib.MathLoose.max_long.x, Cond.static Lib.MathLoose.max_long.x, Cond.initialized "java/lang/Math", Cond.code Lib.MathLoose.max_long.x Lib.MathLoose.max_long.code 4 (some .long), Cond.fieldLink RX1 21 "HlcStore$Node" "reading" "I", Cond.constantLong RX1 25 (1048576), Cond.methodLink RX3 146 yX3_lookUp, Cond.static yX3_lookUp, Cond.code yX3_lookUp cX3_lookUp 3 (some (.object "HlcStore$Transaction")), Cond.instanceMethod yX2_abortIfSilent, Cond.initialized RX2, Cond.selects RX2 yX2_abortIfSilent yX2_abortIfSilent, Cond.code yX2_abortIfSilent cX2_abortIfSilent 1 none]
def wsX3_moveReadsToWriteStamp_r2 : List Cond := [Cond.fieldLink RX2 15 "HlcStore$Transaction" "state" "I", Cond.fieldLink RX2 9 "HlcStore$Transaction" "gateway" "LHlcStore$Node;", Cond.fieldLink RX2 24 "HlcStore$Transaction" "lastBeat" "I", Cond.instanceMethod yX0_settleIntent, Cond.initialized RX0, Cond.selects RX0 yX0_settleIntent yX0_settleIntent, Cond.code yX0_settleIntent cX0_settleIntent 1 none, Cond.fieldLink RX0 46 "HlcStore$Key" "holder" "LHlcStore$Transaction;", Cond.fieldLink RX0 58 "HlcStore$Key" "intentValue" "I", Cond.methodLink RX0 61 yX0_addVersion, Cond.instanceMethod yX0_addVersion, Cond.selects RX0 yX0_addVersion yX0_addVersion, Cond.code yX0_addVersion cX0_addVersion 4 none, Cond.fieldLink RX0 43 "HlcStore$Key" "count" "I", Cond.fieldLink RX0 19 "HlcStore$Key" "stamps" "[J", Cond.fieldLink RX0 23 "HlcStore$Key" "values" "[I", Cond.instanceMethod yX2_pushWriteStampAbove, Cond.selects RX2 yX2_pushWriteStampAbove yX2_pushWriteStampAbove, Cond.code yX2_pushWriteStampAbove cX2_pushWriteStampAbove 3 none, Cond.fieldLink RX2 37 "HlcStore$Transaction" "writeStamp" "J", Cond.methodLink RX2 60 Lib.MathLoose.max_long.x, Cond.instanceMethod yX0_greatestStampIn, Cond.selects RX0 yX0_greatestStampIn yX0_greatestStampIn, Cond.code yX0_greatestStampIn cX0_greatestStampIn 6 (some .long)]
def wsX3_moveReadsToWriteStamp_r3 : List Cond := [Cond.constantLong RX0 41 (-1), Cond.methodLink RX0 37 yX0_newestIn, Cond.instanceMethod yX0_newestIn, Cond.selects RX0 yX0_newestIn yX0_newestIn, Cond.code yX0_newestIn cX0_newestIn 9 (some .int), Cond.instanceMethod yX0_raiseReadMark, Cond.selects RX0 yX0_raiseReadMark yX0_raiseReadMark, Cond.code yX0_raiseReadMark cX0_raiseReadMark 3 none, Cond.fieldLink RX0 27 "HlcStore$Key" "readMark" "J", Cond.methodLink RX0 31 Lib.MathLoose.max_long.x]
def wsX3_moveReadsToWriteStamp : List Cond := .code yX3_moveReadsToWriteStamp cX3_moveReadsToWriteStamp 6 (some .boolean) :: ((wsX3_moveReadsToWriteStamp_r1 ++ (wsX3_moveReadsToWriteStamp_r2 ++ wsX3_moveReadsToWriteStamp_r3)) ++ wsX30 ++ wsX20 ++ wsX00 ++ wsX10)
def wsX3_logCommit : List Cond := .code yX3_logCommit cX3_logCommit 3 none :: ([.fieldLink RX3 140 "HlcStore" "commits" "I", .fieldLink RX3 34 "HlcStore" "commitStamps" "[J"] ++ wsX30)
def wsX3_commit_r1 : List Cond := [Cond.methodLink RX3 70 yX3_transactionAt, Cond.instanceMethod yX3_transactionAt, Cond.selects RX3 yX3_transactionAt yX3_transactionAt, Cond.initialized RX3, Cond.code yX3_transactionAt cX3_transactionAt 2 (some (.object "HlcStore$Transaction")), Cond.fieldLink RX3 27 "HlcStore" "slots" "[LHlcStore$Transaction;", Cond.instanceMethod yX2_takeStoppingCode, Cond.initialized RX2, Cond.selects RX2 yX2_takeStoppingCode yX2_takeStoppingCode, Cond.code yX2_takeStoppingCode cX2_takeStoppingCode 2 (some .int), Cond.fieldLink RX2 52 "HlcStore$Transaction" "hurt" "Z", Cond.methodLink RX2 56 yX2_codeOfState, Cond.instanceMethod yX2_codeOfState, Cond.selects RX2 yX2_codeOfState yX2_codeOfState, Cond.code yX2_codeOfState cX2_codeOfState 1 (some .int), Cond.fieldLink RX2 15 "HlcStore$Transaction" "state" "I", Cond.instanceMethod yX1_haveEvent, Cond.initialized RX1, Cond.selects RX1 yX1_haveEvent yX1_haveEvent, Cond.code yX1_haveEvent cX1_haveEvent 1 none, Cond.fieldLink RX1 9 "HlcStore$Node" "clock" "J", Cond.methodLink RX1 27 yX1_takeIn, Cond.instanceMethod yX1_takeIn, Cond.selects RX1 yX1_takeIn yX1_takeIn]
def wsX3_commit_r2 : List Cond := [Cond.code yX1_takeIn cX1_takeIn 3 none, Cond.methodLink RX1 15 Lib.MathLoose.max_long.x, Cond.static Lib.MathLoose.max_long.x, Cond.initialized "java/lang/Math", Cond.code Lib.MathLoose.max_long.x Lib.MathLoose.max_long.code 4 (some .long), Cond.fieldLink RX1 21 "HlcStore$Node" "reading" "I", Cond.constantLong RX1 25 (1048576), Cond.methodLink RX3 110 yX3_moveReadsToWriteStamp, Cond.instanceMethod yX3_moveReadsToWriteStamp, Cond.selects RX3 yX3_moveReadsToWriteStamp yX3_moveReadsToWriteStamp, Cond.code yX3_moveReadsToWriteStamp cX3_moveReadsToWriteStamp 6 (some .boolean), Cond.fieldLink RX3 18 "HlcStore" "keys" "[LHlcStore$Key;", Cond.methodLink RX3 189 yX3_moveReadToWriteStamp, Cond.static yX3_moveReadToWriteStamp, Cond.code yX3_moveReadToWriteStamp cX3_moveReadToWriteStamp 4 (some .boolean), Cond.constantLong RX3 53 (-1), Cond.methodLink RX3 146 yX3_lookUp, Cond.static yX3_lookUp, Cond.code yX3_lookUp cX3_lookUp 3 (some (.object "HlcStore$Transaction")), Cond.instanceMethod yX2_abortIfSilent, Cond.selects RX2 yX2_abortIfSilent yX2_abortIfSilent, Cond.code yX2_abortIfSilent cX2_abortIfSilent 1 none, Cond.fieldLink RX2 9 "HlcStore$Transaction" "gateway" "LHlcStore$Node;", Cond.fieldLink RX2 24 "HlcStore$Transaction" "lastBeat" "I"]
def wsX3_commit_r3 : List Cond := [Cond.instanceMethod yX0_settleIntent, Cond.initialized RX0, Cond.selects RX0 yX0_settleIntent yX0_settleIntent, Cond.code yX0_settleIntent cX0_settleIntent 1 none, Cond.fieldLink RX0 46 "HlcStore$Key" "holder" "LHlcStore$Transaction;", Cond.fieldLink RX0 58 "HlcStore$Key" "intentValue" "I", Cond.methodLink RX0 61 yX0_addVersion, Cond.instanceMethod yX0_addVersion, Cond.selects RX0 yX0_addVersion yX0_addVersion, Cond.code yX0_addVersion cX0_addVersion 4 none, Cond.fieldLink RX0 43 "HlcStore$Key" "count" "I", Cond.fieldLink RX0 19 "HlcStore$Key" "stamps" "[J", Cond.fieldLink RX0 23 "HlcStore$Key" "values" "[I", Cond.instanceMethod yX2_pushWriteStampAbove, Cond.selects RX2 yX2_pushWriteStampAbove yX2_pushWriteStampAbove, Cond.code yX2_pushWriteStampAbove cX2_pushWriteStampAbove 3 none, Cond.fieldLink RX2 37 "HlcStore$Transaction" "writeStamp" "J", Cond.methodLink RX2 60 Lib.MathLoose.max_long.x, Cond.instanceMethod yX0_greatestStampIn, Cond.selects RX0 yX0_greatestStampIn yX0_greatestStampIn, Cond.code yX0_greatestStampIn cX0_greatestStampIn 6 (some .long), Cond.constantLong RX0 41 (-1), Cond.methodLink RX0 37 yX0_newestIn, Cond.instanceMethod yX0_newestIn]
def wsX3_commit_r4 : List Cond := [Cond.selects RX0 yX0_newestIn yX0_newestIn, Cond.code yX0_newestIn cX0_newestIn 9 (some .int), Cond.instanceMethod yX0_raiseReadMark, Cond.selects RX0 yX0_raiseReadMark yX0_raiseReadMark, Cond.code yX0_raiseReadMark cX0_raiseReadMark 3 none, Cond.fieldLink RX0 27 "HlcStore$Key" "readMark" "J", Cond.methodLink RX0 31 Lib.MathLoose.max_long.x, Cond.methodLink RX3 114 yX3_restart, Cond.instanceMethod yX3_restart, Cond.selects RX3 yX3_restart yX3_restart, Cond.code yX3_restart cX3_restart 8 none, Cond.instanceMethod yX2_moveTo, Cond.selects RX2 yX2_moveTo yX2_moveTo, Cond.code yX2_moveTo cX2_moveTo 3 none, Cond.fieldLink RX2 49 "HlcStore$Transaction" "keysRead" "I", Cond.fieldLink RX2 34 "HlcStore$Transaction" "readStamp" "J", Cond.fieldLink RX2 46 "HlcStore$Transaction" "limit" "J", Cond.methodLink RX3 121 yX3_logCommit, Cond.instanceMethod yX3_logCommit, Cond.selects RX3 yX3_logCommit yX3_logCommit, Cond.code yX3_logCommit cX3_logCommit 3 none, Cond.fieldLink RX3 140 "HlcStore" "commits" "I", Cond.fieldLink RX3 34 "HlcStore" "commitStamps" "[J"]
def wsX3_commit : List Cond := .code yX3_commit cX3_commit 4 (some .int) :: ((wsX3_commit_r1 ++ (wsX3_commit_r2 ++ (wsX3_commit_r3 ++ wsX3_commit_r4))) ++ wsX20 ++ wsX30 ++ wsX10 ++ wsX00)
def wsX3_abort : List Cond := .code yX3_abort cX3_abort 4 (some .int) :: ([.methodLink RX3 70 yX3_transactionAt, .instanceMethod yX3_transactionAt, .selects RX3 yX3_transactionAt yX3_transactionAt, .initialized RX3, .code yX3_transactionAt cX3_transactionAt 2 (some (.object "HlcStore$Transaction")), .fieldLink RX3 27 "HlcStore" "slots" "[LHlcStore$Transaction;", .instanceMethod yX2_codeOfState, .initialized RX2, .selects RX2 yX2_codeOfState yX2_codeOfState, .code yX2_codeOfState cX2_codeOfState 1 (some .int), .fieldLink RX2 15 "HlcStore$Transaction" "state" "I"] ++ wsX20 ++ wsX30)
def wsX3_heartbeat_r1 : List Cond := [Cond.methodLink RX3 70 yX3_transactionAt, Cond.instanceMethod yX3_transactionAt, Cond.selects RX3 yX3_transactionAt yX3_transactionAt, Cond.initialized RX3, Cond.code yX3_transactionAt cX3_transactionAt 2 (some (.object "HlcStore$Transaction")), Cond.fieldLink RX3 27 "HlcStore" "slots" "[LHlcStore$Transaction;", Cond.instanceMethod yX2_codeOfState, Cond.initialized RX2, Cond.selects RX2 yX2_codeOfState yX2_codeOfState, Cond.code yX2_codeOfState cX2_codeOfState 1 (some .int), Cond.fieldLink RX2 15 "HlcStore$Transaction" "state" "I", Cond.instanceMethod yX1_haveEvent, Cond.initialized RX1, Cond.selects RX1 yX1_haveEvent yX1_haveEvent, Cond.code yX1_haveEvent cX1_haveEvent 1 none, Cond.fieldLink RX1 9 "HlcStore$Node" "clock" "J", Cond.methodLink RX1 27 yX1_takeIn, Cond.instanceMethod yX1_takeIn, Cond.selects RX1 yX1_takeIn yX1_takeIn, Cond.code yX1_takeIn cX1_takeIn 3 none, Cond.methodLink RX1 15 Lib.MathLoose.max_long.x, Cond.static Lib.MathLoose.max_long.x, Cond.initialized "java/lang/Math", Cond.code Lib.MathLoose.max_long.x Lib.MathLoose.max_long.code 4 (some .long)]
def wsX3_heartbeat_r2 : List Cond := [Cond.fieldLink RX1 21 "HlcStore$Node" "reading" "I", Cond.constantLong RX1 25 (1048576)]
def wsX3_heartbeat : List Cond := .code yX3_heartbeat cX3_heartbeat 4 (some .int) :: ((wsX3_heartbeat_r1 ++ wsX3_heartbeat_r2) ++ wsX20 ++ wsX10 ++ wsX30)
def wsX3_clean_r1 : List Cond := [Cond.fieldLink RX3 18 "HlcStore" "keys" "[LHlcStore$Key;", Cond.methodLink RX3 70 yX3_transactionAt, Cond.instanceMethod yX3_transactionAt, Cond.selects RX3 yX3_transactionAt yX3_transactionAt, Cond.initialized RX3, Cond.code yX3_transactionAt cX3_transactionAt 2 (some (.object "HlcStore$Transaction")), Cond.fieldLink RX3 27 "HlcStore" "slots" "[LHlcStore$Transaction;", Cond.instanceMethod yX1_takeIn, Cond.initialized RX1, Cond.selects RX1 yX1_takeIn yX1_takeIn, Cond.code yX1_takeIn cX1_takeIn 3 none, Cond.fieldLink RX1 9 "HlcStore$Node" "clock" "J", Cond.methodLink RX1 15 Lib.MathLoose.max_long.x, Cond.static Lib.MathLoose.max_long.x, Cond.initialized "java/lang/Math", Cond.code Lib.MathLoose.max_long.x Lib.MathLoose.max_long.code 4 (some .long), Cond.fieldLink RX1 21 "HlcStore$Node" "reading" "I", Cond.constantLong RX1 25 (1048576), Cond.instanceMethod yX0_settleIntent, Cond.initialized RX0, Cond.selects RX0 yX0_settleIntent yX0_settleIntent, Cond.code yX0_settleIntent cX0_settleIntent 1 none, Cond.fieldLink RX0 46 "HlcStore$Key" "holder" "LHlcStore$Transaction;", Cond.fieldLink RX0 58 "HlcStore$Key" "intentValue" "I"]
def wsX3_clean_r2 : List Cond := [Cond.methodLink RX0 61 yX0_addVersion, Cond.instanceMethod yX0_addVersion, Cond.selects RX0 yX0_addVersion yX0_addVersion, Cond.code yX0_addVersion cX0_addVersion 4 none, Cond.fieldLink RX0 43 "HlcStore$Key" "count" "I", Cond.fieldLink RX0 19 "HlcStore$Key" "stamps" "[J", Cond.fieldLink RX0 23 "HlcStore$Key" "values" "[I"]
def wsX3_clean : List Cond := .code yX3_clean cX3_clean 7 (some .int) :: ((wsX3_clean_r1 ++ wsX3_clean_r2) ++ wsX20 ++ wsX30 ++ wsX00 ++ wsX10)
def wsX3_state : List Cond := .code yX3_state cX3_state 3 (some .int) :: ([.methodLink RX3 70 yX3_transactionAt, .instanceMethod yX3_transactionAt, .selects RX3 yX3_transactionAt yX3_transactionAt, .initialized RX3, .code yX3_transactionAt cX3_transactionAt 2 (some (.object "HlcStore$Transaction")), .fieldLink RX3 27 "HlcStore" "slots" "[LHlcStore$Transaction;"] ++ wsX20 ++ wsX30)
def wsX3_stamp : List Cond := .code yX3_stamp cX3_stamp 3 (some .long) :: ([.constantLong RX3 53 (-1), .methodLink RX3 70 yX3_transactionAt, .instanceMethod yX3_transactionAt, .selects RX3 yX3_transactionAt yX3_transactionAt, .initialized RX3, .code yX3_transactionAt cX3_transactionAt 2 (some (.object "HlcStore$Transaction")), .fieldLink RX3 27 "HlcStore" "slots" "[LHlcStore$Transaction;"] ++ wsX20 ++ wsX30)
def wsX3_versions : List Cond := .code yX3_versions cX3_versions 3 (some .int) :: ([.methodLink RX3 74 yX3_keyAt, .instanceMethod yX3_keyAt, .selects RX3 yX3_keyAt yX3_keyAt, .initialized RX3, .code yX3_keyAt cX3_keyAt 2 (some (.object "HlcStore$Key")), .fieldLink RX3 18 "HlcStore" "keys" "[LHlcStore$Key;"] ++ wsX00 ++ wsX30)
def wsX3_committed : List Cond := .code yX3_committed cX3_committed 2 (some .long) :: ([.fieldLink RX3 140 "HlcStore" "commits" "I", .constantLong RX3 53 (-1), .fieldLink RX3 34 "HlcStore" "commitStamps" "[J"] ++ wsX30)
def wsX4_init : List Cond := .code yX4_init cX4_init 1 none :: ([.methodLink RX4 1 objectInit, .instanceMethod objectInit, .code objectInit ⟨#[0xb1]⟩ 1 none, .arrayClass .int, .fieldLink RX4 7 "HlcStoreModel" "shown" "[I", .arrayClass .long, .fieldLink RX4 13 "HlcStoreModel" "hlc" "[J", .fieldLink RX4 17 "HlcStoreModel" "phase" "[I", .fieldLink RX4 20 "HlcStoreModel" "gate" "[I", .fieldLink RX4 23 "HlcStoreModel" "beat" "[I", .fieldLink RX4 26 "HlcStoreModel" "birth" "[J", .fieldLink RX4 29 "HlcStoreModel" "rts" "[J", .fieldLink RX4 32 "HlcStoreModel" "wts" "[J", .fieldLink RX4 35 "HlcStoreModel" "limit" "[J", .arrayClass .boolean, .fieldLink RX4 38 "HlcStoreModel" "hurt" "[Z", .fieldLink RX4 42 "HlcStoreModel" "seen" "[Z", .fieldLink RX4 45 "HlcStoreModel" "commitAt" "[J", .fieldLink RX4 48 "HlcStoreModel" "lastRead" "[J", .fieldLink RX4 51 "HlcStoreModel" "holder" "[I", .fieldLink RX4 54 "HlcStoreModel" "planned" "[I", .fieldLink RX4 57 "HlcStoreModel" "vKey" "[I", .fieldLink RX4 60 "HlcStoreModel" "vAt" "[J", .fieldLink RX4 63 "HlcStoreModel" "vValue" "[I"] ++ wsX40)
def wsX4_receive : List Cond := .code yX4_receive cX4_receive 8 none :: ([.fieldLink RX4 13 "HlcStoreModel" "hlc" "[J", .fieldLink RX4 7 "HlcStoreModel" "shown" "[I"] ++ wsX40)
def wsX4_event : List Cond := .code yX4_event cX4_event 2 none :: ([.fieldLink RX4 13 "HlcStoreModel" "hlc" "[J", .methodLink RX4 66 yX4_receive, .instanceMethod yX4_receive, .selects RX4 yX4_receive yX4_receive, .initialized RX4, .code yX4_receive cX4_receive 8 none, .fieldLink RX4 7 "HlcStoreModel" "shown" "[I"] ++ wsX40)
def wsX4_tick : List Cond := .code yX4_tick cX4_tick 4 (some .int) :: ([.fieldLink RX4 7 "HlcStoreModel" "shown" "[I", .constantLong RX4 70 (10), .methodLink RX4 72 yX4_event, .instanceMethod yX4_event, .selects RX4 yX4_event yX4_event, .initialized RX4, .code yX4_event cX4_event 2 none, .fieldLink RX4 13 "HlcStoreModel" "hlc" "[J", .methodLink RX4 66 yX4_receive, .instanceMethod yX4_receive, .selects RX4 yX4_receive yX4_receive, .code yX4_receive cX4_receive 8 none] ++ wsX40)
def wsX4_reading : List Cond := .code yX4_reading cX4_reading 2 (some .int) :: ([.fieldLink RX4 7 "HlcStoreModel" "shown" "[I"] ++ wsX40)
def wsX4_clock : List Cond := .code yX4_clock cX4_clock 2 (some .long) :: ([.constantLong RX4 76 (-1), .fieldLink RX4 13 "HlcStoreModel" "hlc" "[J"] ++ wsX40)
def wsX4_find : List Cond := .code yX4_find cX4_find 8 (some .int) :: ([.fieldLink RX4 78 "HlcStoreModel" "held" "I", .fieldLink RX4 57 "HlcStoreModel" "vKey" "[I", .fieldLink RX4 60 "HlcStoreModel" "vAt" "[J"] ++ wsX40)
def wsX4_versions : List Cond := .code yX4_versions cX4_versions 4 (some .int) :: ([.fieldLink RX4 78 "HlcStoreModel" "held" "I", .fieldLink RX4 57 "HlcStoreModel" "vKey" "[I"] ++ wsX40)
def wsX4_settle : List Cond := .code yX4_settle cX4_settle 3 none :: ([.fieldLink RX4 51 "HlcStoreModel" "holder" "[I", .fieldLink RX4 17 "HlcStoreModel" "phase" "[I", .fieldLink RX4 57 "HlcStoreModel" "vKey" "[I", .fieldLink RX4 78 "HlcStoreModel" "held" "I", .fieldLink RX4 60 "HlcStoreModel" "vAt" "[J", .fieldLink RX4 32 "HlcStoreModel" "wts" "[J", .fieldLink RX4 63 "HlcStoreModel" "vValue" "[I", .fieldLink RX4 54 "HlcStoreModel" "planned" "[I"] ++ wsX40)
def wsX4_meet : List Cond := .code yX4_meet cX4_meet 5 (some .int) :: ([.fieldLink RX4 51 "HlcStoreModel" "holder" "[I", .fieldLink RX4 20 "HlcStoreModel" "gate" "[I", .fieldLink RX4 13 "HlcStoreModel" "hlc" "[J", .fieldLink RX4 17 "HlcStoreModel" "phase" "[I", .fieldLink RX4 7 "HlcStoreModel" "shown" "[I", .fieldLink RX4 23 "HlcStoreModel" "beat" "[I", .methodLink RX4 66 yX4_receive, .instanceMethod yX4_receive, .selects RX4 yX4_receive yX4_receive, .initialized RX4, .code yX4_receive cX4_receive 8 none, .methodLink RX4 82 yX4_settle, .instanceMethod yX4_settle, .selects RX4 yX4_settle yX4_settle, .code yX4_settle cX4_settle 3 none, .fieldLink RX4 57 "HlcStoreModel" "vKey" "[I", .fieldLink RX4 78 "HlcStoreModel" "held" "I", .fieldLink RX4 60 "HlcStoreModel" "vAt" "[J", .fieldLink RX4 32 "HlcStoreModel" "wts" "[J", .fieldLink RX4 63 "HlcStoreModel" "vValue" "[I", .fieldLink RX4 54 "HlcStoreModel" "planned" "[I"] ++ wsX40)
def wsX4_restart : List Cond := .code yX4_restart cX4_restart 5 none :: ([.fieldLink RX4 51 "HlcStoreModel" "holder" "[I", .fieldLink RX4 42 "HlcStoreModel" "seen" "[Z", .fieldLink RX4 32 "HlcStoreModel" "wts" "[J", .fieldLink RX4 29 "HlcStoreModel" "rts" "[J", .fieldLink RX4 35 "HlcStoreModel" "limit" "[J"] ++ wsX40)
def wsX4_begin : List Cond := .code yX4_begin cX4_begin 4 (some .int) :: ([.fieldLink RX4 17 "HlcStoreModel" "phase" "[I", .fieldLink RX4 20 "HlcStoreModel" "gate" "[I", .fieldLink RX4 23 "HlcStoreModel" "beat" "[I", .fieldLink RX4 7 "HlcStoreModel" "shown" "[I", .fieldLink RX4 26 "HlcStoreModel" "birth" "[J", .fieldLink RX4 85 "HlcStoreModel" "births" "J", .fieldLink RX4 29 "HlcStoreModel" "rts" "[J", .fieldLink RX4 13 "HlcStoreModel" "hlc" "[J", .fieldLink RX4 32 "HlcStoreModel" "wts" "[J", .fieldLink RX4 35 "HlcStoreModel" "limit" "[J", .constantLong RX4 70 (10), .constantLong RX4 89 (1048575), .fieldLink RX4 38 "HlcStoreModel" "hurt" "[Z", .fieldLink RX4 42 "HlcStoreModel" "seen" "[Z", .methodLink RX4 72 yX4_event, .instanceMethod yX4_event, .selects RX4 yX4_event yX4_event, .initialized RX4, .code yX4_event cX4_event 2 none, .methodLink RX4 66 yX4_receive, .instanceMethod yX4_receive, .selects RX4 yX4_receive yX4_receive, .code yX4_receive cX4_receive 8 none] ++ wsX40)
def wsX4_refused : List Cond := .code yX4_refused cX4_refused 2 (some .int) :: ([.fieldLink RX4 17 "HlcStoreModel" "phase" "[I"] ++ wsX40)
def wsX4_stopped : List Cond := .code yX4_stopped cX4_stopped 3 (some .int) :: ([.fieldLink RX4 38 "HlcStoreModel" "hurt" "[Z", .methodLink RX4 91 yX4_refused, .instanceMethod yX4_refused, .selects RX4 yX4_refused yX4_refused, .initialized RX4, .code yX4_refused cX4_refused 2 (some .int), .fieldLink RX4 17 "HlcStoreModel" "phase" "[I"] ++ wsX40)
def wsX4_read_r1 : List Cond := [Cond.constantLong RX4 95 (4294967295), Cond.constantLong RX4 100 (4294967296), Cond.fieldLink RX4 20 "HlcStoreModel" "gate" "[I", Cond.fieldLink RX4 13 "HlcStoreModel" "hlc" "[J", Cond.fieldLink RX4 51 "HlcStoreModel" "holder" "[I", Cond.fieldLink RX4 54 "HlcStoreModel" "planned" "[I", Cond.fieldLink RX4 32 "HlcStoreModel" "wts" "[J", Cond.fieldLink RX4 29 "HlcStoreModel" "rts" "[J", Cond.fieldLink RX4 35 "HlcStoreModel" "limit" "[J", Cond.fieldLink RX4 60 "HlcStoreModel" "vAt" "[J", Cond.constantLong RX4 112 (4294967297), Cond.fieldLink RX4 48 "HlcStoreModel" "lastRead" "[J", Cond.fieldLink RX4 42 "HlcStoreModel" "seen" "[Z", Cond.fieldLink RX4 63 "HlcStoreModel" "vValue" "[I", Cond.methodLink RX4 97 yX4_stopped, Cond.instanceMethod yX4_stopped, Cond.selects RX4 yX4_stopped yX4_stopped, Cond.initialized RX4, Cond.code yX4_stopped cX4_stopped 3 (some .int), Cond.fieldLink RX4 38 "HlcStoreModel" "hurt" "[Z", Cond.methodLink RX4 91 yX4_refused, Cond.instanceMethod yX4_refused, Cond.selects RX4 yX4_refused yX4_refused, Cond.code yX4_refused cX4_refused 2 (some .int)]
def wsX4_read_r2 : List Cond := [Cond.fieldLink RX4 17 "HlcStoreModel" "phase" "[I", Cond.methodLink RX4 72 yX4_event, Cond.instanceMethod yX4_event, Cond.selects RX4 yX4_event yX4_event, Cond.code yX4_event cX4_event 2 none, Cond.methodLink RX4 66 yX4_receive, Cond.instanceMethod yX4_receive, Cond.selects RX4 yX4_receive yX4_receive, Cond.code yX4_receive cX4_receive 8 none, Cond.fieldLink RX4 7 "HlcStoreModel" "shown" "[I", Cond.methodLink RX4 102 yX4_meet, Cond.instanceMethod yX4_meet, Cond.selects RX4 yX4_meet yX4_meet, Cond.code yX4_meet cX4_meet 5 (some .int), Cond.fieldLink RX4 23 "HlcStoreModel" "beat" "[I", Cond.methodLink RX4 82 yX4_settle, Cond.instanceMethod yX4_settle, Cond.selects RX4 yX4_settle yX4_settle, Cond.code yX4_settle cX4_settle 3 none, Cond.fieldLink RX4 57 "HlcStoreModel" "vKey" "[I", Cond.fieldLink RX4 78 "HlcStoreModel" "held" "I", Cond.methodLink RX4 105 yX4_find, Cond.instanceMethod yX4_find, Cond.selects RX4 yX4_find yX4_find]
def wsX4_read_r3 : List Cond := [Cond.code yX4_find cX4_find 8 (some .int), Cond.methodLink RX4 109 yX4_restart, Cond.instanceMethod yX4_restart, Cond.selects RX4 yX4_restart yX4_restart, Cond.code yX4_restart cX4_restart 5 none]
def wsX4_read : List Cond := .code yX4_read cX4_read 11 (some .long) :: ((wsX4_read_r1 ++ (wsX4_read_r2 ++ wsX4_read_r3)) ++ wsX40)
def wsX4_write_r1 : List Cond := [Cond.fieldLink RX4 20 "HlcStoreModel" "gate" "[I", Cond.fieldLink RX4 13 "HlcStoreModel" "hlc" "[J", Cond.fieldLink RX4 51 "HlcStoreModel" "holder" "[I", Cond.fieldLink RX4 54 "HlcStoreModel" "planned" "[I", Cond.fieldLink RX4 26 "HlcStoreModel" "birth" "[J", Cond.fieldLink RX4 38 "HlcStoreModel" "hurt" "[Z", Cond.fieldLink RX4 48 "HlcStoreModel" "lastRead" "[J", Cond.constantLong RX4 117 (9223372036854775807), Cond.fieldLink RX4 60 "HlcStoreModel" "vAt" "[J", Cond.fieldLink RX4 32 "HlcStoreModel" "wts" "[J", Cond.methodLink RX4 97 yX4_stopped, Cond.instanceMethod yX4_stopped, Cond.selects RX4 yX4_stopped yX4_stopped, Cond.initialized RX4, Cond.code yX4_stopped cX4_stopped 3 (some .int), Cond.methodLink RX4 91 yX4_refused, Cond.instanceMethod yX4_refused, Cond.selects RX4 yX4_refused yX4_refused, Cond.code yX4_refused cX4_refused 2 (some .int), Cond.fieldLink RX4 17 "HlcStoreModel" "phase" "[I", Cond.methodLink RX4 72 yX4_event, Cond.instanceMethod yX4_event, Cond.selects RX4 yX4_event yX4_event, Cond.code yX4_event cX4_event 2 none]
def wsX4_write_r2 : List Cond := [Cond.methodLink RX4 66 yX4_receive, Cond.instanceMethod yX4_receive, Cond.selects RX4 yX4_receive yX4_receive, Cond.code yX4_receive cX4_receive 8 none, Cond.fieldLink RX4 7 "HlcStoreModel" "shown" "[I", Cond.methodLink RX4 102 yX4_meet, Cond.instanceMethod yX4_meet, Cond.selects RX4 yX4_meet yX4_meet, Cond.code yX4_meet cX4_meet 5 (some .int), Cond.fieldLink RX4 23 "HlcStoreModel" "beat" "[I", Cond.methodLink RX4 82 yX4_settle, Cond.instanceMethod yX4_settle, Cond.selects RX4 yX4_settle yX4_settle, Cond.code yX4_settle cX4_settle 3 none, Cond.fieldLink RX4 57 "HlcStoreModel" "vKey" "[I", Cond.fieldLink RX4 78 "HlcStoreModel" "held" "I", Cond.fieldLink RX4 63 "HlcStoreModel" "vValue" "[I", Cond.methodLink RX4 109 yX4_restart, Cond.instanceMethod yX4_restart, Cond.selects RX4 yX4_restart yX4_restart, Cond.code yX4_restart cX4_restart 5 none, Cond.fieldLink RX4 42 "HlcStoreModel" "seen" "[Z", Cond.fieldLink RX4 29 "HlcStoreModel" "rts" "[J", Cond.fieldLink RX4 35 "HlcStoreModel" "limit" "[J"]
def wsX4_write_r3 : List Cond := [Cond.methodLink RX4 114 yX4_versions, Cond.instanceMethod yX4_versions, Cond.selects RX4 yX4_versions yX4_versions, Cond.code yX4_versions cX4_versions 4 (some .int), Cond.methodLink RX4 105 yX4_find, Cond.instanceMethod yX4_find, Cond.selects RX4 yX4_find yX4_find, Cond.code yX4_find cX4_find 8 (some .int)]
def wsX4_write : List Cond := .code yX4_write cX4_write 12 (some .int) :: ((wsX4_write_r1 ++ (wsX4_write_r2 ++ wsX4_write_r3)) ++ wsX40)
def wsX4_commit_r1 : List Cond := [Cond.fieldLink RX4 20 "HlcStoreModel" "gate" "[I", Cond.fieldLink RX4 32 "HlcStoreModel" "wts" "[J", Cond.fieldLink RX4 29 "HlcStoreModel" "rts" "[J", Cond.fieldLink RX4 42 "HlcStoreModel" "seen" "[Z", Cond.fieldLink RX4 13 "HlcStoreModel" "hlc" "[J", Cond.fieldLink RX4 51 "HlcStoreModel" "holder" "[I", Cond.fieldLink RX4 48 "HlcStoreModel" "lastRead" "[J", Cond.fieldLink RX4 17 "HlcStoreModel" "phase" "[I", Cond.fieldLink RX4 45 "HlcStoreModel" "commitAt" "[J", Cond.fieldLink RX4 119 "HlcStoreModel" "commits" "I", Cond.methodLink RX4 97 yX4_stopped, Cond.instanceMethod yX4_stopped, Cond.selects RX4 yX4_stopped yX4_stopped, Cond.initialized RX4, Cond.code yX4_stopped cX4_stopped 3 (some .int), Cond.fieldLink RX4 38 "HlcStoreModel" "hurt" "[Z", Cond.methodLink RX4 91 yX4_refused, Cond.instanceMethod yX4_refused, Cond.selects RX4 yX4_refused yX4_refused, Cond.code yX4_refused cX4_refused 2 (some .int), Cond.methodLink RX4 72 yX4_event, Cond.instanceMethod yX4_event, Cond.selects RX4 yX4_event yX4_event, Cond.code yX4_event cX4_event 2 none]
def wsX4_commit_r2 : List Cond := [Cond.methodLink RX4 66 yX4_receive, Cond.instanceMethod yX4_receive, Cond.selects RX4 yX4_receive yX4_receive, Cond.code yX4_receive cX4_receive 8 none, Cond.fieldLink RX4 7 "HlcStoreModel" "shown" "[I", Cond.methodLink RX4 102 yX4_meet, Cond.instanceMethod yX4_meet, Cond.selects RX4 yX4_meet yX4_meet, Cond.code yX4_meet cX4_meet 5 (some .int), Cond.fieldLink RX4 23 "HlcStoreModel" "beat" "[I", Cond.methodLink RX4 82 yX4_settle, Cond.instanceMethod yX4_settle, Cond.selects RX4 yX4_settle yX4_settle, Cond.code yX4_settle cX4_settle 3 none, Cond.fieldLink RX4 57 "HlcStoreModel" "vKey" "[I", Cond.fieldLink RX4 78 "HlcStoreModel" "held" "I", Cond.fieldLink RX4 60 "HlcStoreModel" "vAt" "[J", Cond.fieldLink RX4 63 "HlcStoreModel" "vValue" "[I", Cond.fieldLink RX4 54 "HlcStoreModel" "planned" "[I", Cond.methodLink RX4 105 yX4_find, Cond.instanceMethod yX4_find, Cond.selects RX4 yX4_find yX4_find, Cond.code yX4_find cX4_find 8 (some .int), Cond.methodLink RX4 109 yX4_restart]
def wsX4_commit_r3 : List Cond := [Cond.instanceMethod yX4_restart, Cond.selects RX4 yX4_restart yX4_restart, Cond.code yX4_restart cX4_restart 5 none, Cond.fieldLink RX4 35 "HlcStoreModel" "limit" "[J"]
def wsX4_commit : List Cond := .code yX4_commit cX4_commit 7 (some .int) :: ((wsX4_commit_r1 ++ (wsX4_commit_r2 ++ wsX4_commit_r3)) ++ wsX40)
def wsX4_abort : List Cond := .code yX4_abort cX4_abort 3 (some .int) :: ([.fieldLink RX4 17 "HlcStoreModel" "phase" "[I", .methodLink RX4 91 yX4_refused, .instanceMethod yX4_refused, .selects RX4 yX4_refused yX4_refused, .initialized RX4, .code yX4_refused cX4_refused 2 (some .int)] ++ wsX40)
def wsX4_heartbeat : List Cond := .code yX4_heartbeat cX4_heartbeat 3 (some .int) :: ([.fieldLink RX4 20 "HlcStoreModel" "gate" "[I", .fieldLink RX4 23 "HlcStoreModel" "beat" "[I", .fieldLink RX4 7 "HlcStoreModel" "shown" "[I", .methodLink RX4 91 yX4_refused, .instanceMethod yX4_refused, .selects RX4 yX4_refused yX4_refused, .initialized RX4, .code yX4_refused cX4_refused 2 (some .int), .fieldLink RX4 17 "HlcStoreModel" "phase" "[I", .methodLink RX4 72 yX4_event, .instanceMethod yX4_event, .selects RX4 yX4_event yX4_event, .code yX4_event cX4_event 2 none, .fieldLink RX4 13 "HlcStoreModel" "hlc" "[J", .methodLink RX4 66 yX4_receive, .instanceMethod yX4_receive, .selects RX4 yX4_receive yX4_receive, .code yX4_receive cX4_receive 8 none] ++ wsX40)
def wsX4_clean : List Cond := .code yX4_clean cX4_clean 3 (some .int) :: ([.fieldLink RX4 17 "HlcStoreModel" "phase" "[I", .fieldLink RX4 51 "HlcStoreModel" "holder" "[I", .fieldLink RX4 13 "HlcStoreModel" "hlc" "[J", .fieldLink RX4 20 "HlcStoreModel" "gate" "[I", .methodLink RX4 66 yX4_receive, .instanceMethod yX4_receive, .selects RX4 yX4_receive yX4_receive, .initialized RX4, .code yX4_receive cX4_receive 8 none, .fieldLink RX4 7 "HlcStoreModel" "shown" "[I", .methodLink RX4 82 yX4_settle, .instanceMethod yX4_settle, .selects RX4 yX4_settle yX4_settle, .code yX4_settle cX4_settle 3 none, .fieldLink RX4 57 "HlcStoreModel" "vKey" "[I", .fieldLink RX4 78 "HlcStoreModel" "held" "I", .fieldLink RX4 60 "HlcStoreModel" "vAt" "[J", .fieldLink RX4 32 "HlcStoreModel" "wts" "[J", .fieldLink RX4 63 "HlcStoreModel" "vValue" "[I", .fieldLink RX4 54 "HlcStoreModel" "planned" "[I"] ++ wsX40)
def wsX4_state : List Cond := .code yX4_state cX4_state 2 (some .int) :: ([.fieldLink RX4 17 "HlcStoreModel" "phase" "[I"] ++ wsX40)
def wsX4_stamp : List Cond := .code yX4_stamp cX4_stamp 2 (some .long) :: ([.fieldLink RX4 17 "HlcStoreModel" "phase" "[I", .constantLong RX4 76 (-1), .fieldLink RX4 29 "HlcStoreModel" "rts" "[J"] ++ wsX40)
def wsX4_committed : List Cond := .code yX4_committed cX4_committed 2 (some .long) :: ([.fieldLink RX4 119 "HlcStoreModel" "commits" "I", .constantLong RX4 76 (-1), .fieldLink RX4 45 "HlcStoreModel" "commitAt" "[J"] ++ wsX40)
def wsJ9_max_f86c9 : List Cond := .code yJ9_max_f86c9 cJ9_max_f86c9 4 (some .long) :: ([])
def wsL_law_r1 : List Cond := [Cond.classLink RL 7 RX3, Cond.instantiable RX3 6, Cond.initialized RX3, Cond.classLink RL 10 RX4, Cond.instantiable RX4 21, Cond.initialized RX4, Cond.methodLink RL 9 yX3_init, Cond.instanceMethod yX3_init, Cond.code yX3_init cX3_init 2 none, Cond.methodLink RX3 1 objectInit, Cond.instanceMethod objectInit, Cond.code objectInit ⟨#[0xb1]⟩ 1 none, Cond.classLink RX3 9 RX1, Cond.fieldLink RX3 11 "HlcStore" "nodes" "[LHlcStore$Node;", Cond.instantiable RX1 2, Cond.initialized RX1, Cond.classLink RX3 16 RX0, Cond.fieldLink RX3 18 "HlcStore" "keys" "[LHlcStore$Key;", Cond.instantiable RX0 8, Cond.initialized RX0, Cond.classLink RX3 25 RX2, Cond.fieldLink RX3 27 "HlcStore" "slots" "[LHlcStore$Transaction;", Cond.instantiable RX2 9, Cond.initialized RX2]
def wsL_law_r2 : List Cond := [Cond.arrayClass .long, Cond.fieldLink RX3 34 "HlcStore" "commitStamps" "[J", Cond.instanceMethod yX1_init, Cond.code yX1_init cX1_init 1 none, Cond.methodLink RX1 3 objectInit, Cond.instanceMethod yX0_init, Cond.code yX0_init cX0_init 3 none, Cond.methodLink RX0 3 objectInit, Cond.fieldLink RX0 9 "HlcStore$Key" "bit" "I", Cond.fieldLink RX0 15 "HlcStore$Key" "owner" "LHlcStore$Node;", Cond.fieldLink RX0 19 "HlcStore$Key" "stamps" "[J", Cond.arrayClass .int, Cond.fieldLink RX0 23 "HlcStore$Key" "values" "[I", Cond.instanceMethod yX2_init, Cond.code yX2_init cX2_init 2 none, Cond.methodLink RX2 3 objectInit, Cond.fieldLink RX2 9 "HlcStore$Transaction" "gateway" "LHlcStore$Node;", Cond.methodLink RL 12 yX4_init, Cond.instanceMethod yX4_init, Cond.code yX4_init cX4_init 1 none, Cond.methodLink RX4 1 objectInit, Cond.fieldLink RX4 7 "HlcStoreModel" "shown" "[I", Cond.fieldLink RX4 13 "HlcStoreModel" "hlc" "[J", Cond.fieldLink RX4 17 "HlcStoreModel" "phase" "[I"]
def wsL_law_r3 : List Cond := [Cond.fieldLink RX4 20 "HlcStoreModel" "gate" "[I", Cond.fieldLink RX4 23 "HlcStoreModel" "beat" "[I", Cond.fieldLink RX4 26 "HlcStoreModel" "birth" "[J", Cond.fieldLink RX4 29 "HlcStoreModel" "rts" "[J", Cond.fieldLink RX4 32 "HlcStoreModel" "wts" "[J", Cond.fieldLink RX4 35 "HlcStoreModel" "limit" "[J", Cond.arrayClass .boolean, Cond.fieldLink RX4 38 "HlcStoreModel" "hurt" "[Z", Cond.fieldLink RX4 42 "HlcStoreModel" "seen" "[Z", Cond.fieldLink RX4 45 "HlcStoreModel" "commitAt" "[J", Cond.fieldLink RX4 48 "HlcStoreModel" "lastRead" "[J", Cond.fieldLink RX4 51 "HlcStoreModel" "holder" "[I", Cond.fieldLink RX4 54 "HlcStoreModel" "planned" "[I", Cond.fieldLink RX4 57 "HlcStoreModel" "vKey" "[I", Cond.fieldLink RX4 60 "HlcStoreModel" "vAt" "[J", Cond.fieldLink RX4 63 "HlcStoreModel" "vValue" "[I", Cond.methodLink RL 13 yX3_tick, Cond.instanceMethod yX3_tick, Cond.selects RX3 yX3_tick yX3_tick, Cond.code yX3_tick cX3_tick 4 (some .int), Cond.methodLink RX3 38 yX3_nodeAt, Cond.instanceMethod yX3_nodeAt, Cond.selects RX3 yX3_nodeAt yX3_nodeAt, Cond.code yX3_nodeAt cX3_nodeAt 2 (some (.object "HlcStore$Node"))]
def wsL_law_r4 : List Cond := [Cond.methodLink RX3 46 yX3_runsAhead, Cond.instanceMethod yX3_runsAhead, Cond.selects RX3 yX3_runsAhead yX3_runsAhead, Cond.code yX3_runsAhead cX3_runsAhead 7 (some .boolean), Cond.instanceMethod yX1_haveEvent, Cond.selects RX1 yX1_haveEvent yX1_haveEvent, Cond.code yX1_haveEvent cX1_haveEvent 1 none, Cond.fieldLink RX1 9 "HlcStore$Node" "clock" "J", Cond.methodLink RX1 27 yX1_takeIn, Cond.instanceMethod yX1_takeIn, Cond.selects RX1 yX1_takeIn yX1_takeIn, Cond.code yX1_takeIn cX1_takeIn 3 none, Cond.methodLink RX1 15 Lib.MathLoose.max_long.x, Cond.static Lib.MathLoose.max_long.x, Cond.initialized "java/lang/Math", Cond.code Lib.MathLoose.max_long.x Lib.MathLoose.max_long.code 4 (some .long), Cond.fieldLink RX1 21 "HlcStore$Node" "reading" "I", Cond.constantLong RX1 25 (1048576), Cond.methodLink RL 17 yX4_tick, Cond.instanceMethod yX4_tick, Cond.selects RX4 yX4_tick yX4_tick, Cond.code yX4_tick cX4_tick 4 (some .int), Cond.constantLong RX4 70 (10), Cond.methodLink RX4 72 yX4_event]
def wsL_law_r5 : List Cond := [Cond.instanceMethod yX4_event, Cond.selects RX4 yX4_event yX4_event, Cond.code yX4_event cX4_event 2 none, Cond.methodLink RX4 66 yX4_receive, Cond.instanceMethod yX4_receive, Cond.selects RX4 yX4_receive yX4_receive, Cond.code yX4_receive cX4_receive 8 none, Cond.methodLink RL 18 yX3_reading, Cond.instanceMethod yX3_reading, Cond.selects RX3 yX3_reading yX3_reading, Cond.code yX3_reading cX3_reading 3 (some .int), Cond.methodLink RL 22 yX4_reading, Cond.instanceMethod yX4_reading, Cond.selects RX4 yX4_reading yX4_reading, Cond.code yX4_reading cX4_reading 2 (some .int), Cond.methodLink RL 23 yX3_clock, Cond.instanceMethod yX3_clock, Cond.selects RX3 yX3_clock yX3_clock, Cond.code yX3_clock cX3_clock 3 (some .long), Cond.constantLong RX3 53 (-1), Cond.methodLink RL 27 yX4_clock, Cond.instanceMethod yX4_clock, Cond.selects RX4 yX4_clock yX4_clock, Cond.code yX4_clock cX4_clock 2 (some .long)]
def wsL_law_r6 : List Cond := [Cond.constantLong RX4 76 (-1), Cond.methodLink RL 28 yX3_begin, Cond.instanceMethod yX3_begin, Cond.selects RX3 yX3_begin yX3_begin, Cond.code yX3_begin cX3_begin 4 (some .int), Cond.fieldLink RX3 63 "HlcStore" "begins" "I", Cond.methodLink RX3 59 yX3_leastFreeSlot, Cond.instanceMethod yX3_leastFreeSlot, Cond.selects RX3 yX3_leastFreeSlot yX3_leastFreeSlot, Cond.code yX3_leastFreeSlot cX3_leastFreeSlot 2 (some .int), Cond.instanceMethod yX2_start, Cond.selects RX2 yX2_start yX2_start, Cond.code yX2_start cX2_start 3 none, Cond.fieldLink RX2 15 "HlcStore$Transaction" "state" "I", Cond.fieldLink RX2 24 "HlcStore$Transaction" "lastBeat" "I", Cond.fieldLink RX2 27 "HlcStore$Transaction" "place" "I", Cond.fieldLink RX2 34 "HlcStore$Transaction" "readStamp" "J", Cond.fieldLink RX2 37 "HlcStore$Transaction" "writeStamp" "J", Cond.constantLong RX2 40 (1048576), Cond.constantLong RX2 42 (10), Cond.constantLong RX2 44 (1048575), Cond.fieldLink RX2 46 "HlcStore$Transaction" "limit" "J", Cond.fieldLink RX2 49 "HlcStore$Transaction" "keysRead" "I", Cond.fieldLink RX2 52 "HlcStore$Transaction" "hurt" "Z"]
def wsL_law_r7 : List Cond := [Cond.methodLink RL 31 yX4_begin, Cond.instanceMethod yX4_begin, Cond.selects RX4 yX4_begin yX4_begin, Cond.code yX4_begin cX4_begin 4 (some .int), Cond.fieldLink RX4 85 "HlcStoreModel" "births" "J", Cond.constantLong RX4 89 (1048575), Cond.methodLink RL 32 yX3_read, Cond.instanceMethod yX3_read, Cond.selects RX3 yX3_read yX3_read, Cond.code yX3_read cX3_read 8 (some .long), Cond.constantLong RX3 78 (4294967295), Cond.constantLong RX3 83 (4294967296), Cond.methodLink RX3 70 yX3_transactionAt, Cond.instanceMethod yX3_transactionAt, Cond.selects RX3 yX3_transactionAt yX3_transactionAt, Cond.code yX3_transactionAt cX3_transactionAt 2 (some (.object "HlcStore$Transaction")), Cond.methodLink RX3 74 yX3_keyAt, Cond.instanceMethod yX3_keyAt, Cond.selects RX3 yX3_keyAt yX3_keyAt, Cond.code yX3_keyAt cX3_keyAt 2 (some (.object "HlcStore$Key")), Cond.instanceMethod yX2_takeStoppingCode, Cond.selects RX2 yX2_takeStoppingCode yX2_takeStoppingCode, Cond.code yX2_takeStoppingCode cX2_takeStoppingCode 2 (some .int), Cond.methodLink RX2 56 yX2_codeOfState]
def wsL_law_r8 : List Cond := [Cond.instanceMethod yX2_codeOfState, Cond.selects RX2 yX2_codeOfState yX2_codeOfState, Cond.code yX2_codeOfState cX2_codeOfState 1 (some .int), Cond.methodLink RX3 96 yX3_readAtOwner, Cond.instanceMethod yX3_readAtOwner, Cond.selects RX3 yX3_readAtOwner yX3_readAtOwner, Cond.code yX3_readAtOwner cX3_readAtOwner 6 (some .long), Cond.constantLong RX3 160 (4294967297), Cond.methodLink RX3 146 yX3_lookUp, Cond.static yX3_lookUp, Cond.code yX3_lookUp cX3_lookUp 3 (some (.object "HlcStore$Transaction")), Cond.instanceMethod yX2_abortIfSilent, Cond.selects RX2 yX2_abortIfSilent yX2_abortIfSilent, Cond.code yX2_abortIfSilent cX2_abortIfSilent 1 none, Cond.instanceMethod yX0_settleIntent, Cond.selects RX0 yX0_settleIntent yX0_settleIntent, Cond.code yX0_settleIntent cX0_settleIntent 1 none, Cond.fieldLink RX0 46 "HlcStore$Key" "holder" "LHlcStore$Transaction;", Cond.fieldLink RX0 58 "HlcStore$Key" "intentValue" "I", Cond.methodLink RX0 61 yX0_addVersion, Cond.instanceMethod yX0_addVersion, Cond.selects RX0 yX0_addVersion yX0_addVersion, Cond.code yX0_addVersion cX0_addVersion 4 none, Cond.fieldLink RX0 43 "HlcStore$Key" "count" "I"]
def wsL_law_r9 : List Cond := [Cond.instanceMethod yX2_pushWriteStampAbove, Cond.selects RX2 yX2_pushWriteStampAbove yX2_pushWriteStampAbove, Cond.code yX2_pushWriteStampAbove cX2_pushWriteStampAbove 3 none, Cond.methodLink RX2 60 Lib.MathLoose.max_long.x, Cond.instanceMethod yX0_greatestStampIn, Cond.selects RX0 yX0_greatestStampIn yX0_greatestStampIn, Cond.code yX0_greatestStampIn cX0_greatestStampIn 6 (some .long), Cond.constantLong RX0 41 (-1), Cond.methodLink RX0 37 yX0_newestIn, Cond.instanceMethod yX0_newestIn, Cond.selects RX0 yX0_newestIn yX0_newestIn, Cond.code yX0_newestIn cX0_newestIn 9 (some .int), Cond.methodLink RX3 114 yX3_restart, Cond.instanceMethod yX3_restart, Cond.selects RX3 yX3_restart yX3_restart, Cond.code yX3_restart cX3_restart 8 none, Cond.instanceMethod yX2_moveTo, Cond.selects RX2 yX2_moveTo yX2_moveTo, Cond.code yX2_moveTo cX2_moveTo 3 none, Cond.instanceMethod yX0_raiseReadMark, Cond.selects RX0 yX0_raiseReadMark yX0_raiseReadMark, Cond.code yX0_raiseReadMark cX0_raiseReadMark 3 none, Cond.fieldLink RX0 27 "HlcStore$Key" "readMark" "J", Cond.methodLink RX0 31 Lib.MathLoose.max_long.x]
def wsL_law_r10 : List Cond := [Cond.instanceMethod yX0_valueAt, Cond.selects RX0 yX0_valueAt yX0_valueAt, Cond.code yX0_valueAt cX0_valueAt 4 (some .int), Cond.methodLink RL 36 yX4_read, Cond.instanceMethod yX4_read, Cond.selects RX4 yX4_read yX4_read, Cond.code yX4_read cX4_read 11 (some .long), Cond.constantLong RX4 95 (4294967295), Cond.constantLong RX4 100 (4294967296), Cond.constantLong RX4 112 (4294967297), Cond.methodLink RX4 97 yX4_stopped, Cond.instanceMethod yX4_stopped, Cond.selects RX4 yX4_stopped yX4_stopped, Cond.code yX4_stopped cX4_stopped 3 (some .int), Cond.methodLink RX4 91 yX4_refused, Cond.instanceMethod yX4_refused, Cond.selects RX4 yX4_refused yX4_refused, Cond.code yX4_refused cX4_refused 2 (some .int), Cond.methodLink RX4 102 yX4_meet, Cond.instanceMethod yX4_meet, Cond.selects RX4 yX4_meet yX4_meet, Cond.code yX4_meet cX4_meet 5 (some .int), Cond.methodLink RX4 82 yX4_settle, Cond.instanceMethod yX4_settle]
def wsL_law_r11 : List Cond := [Cond.selects RX4 yX4_settle yX4_settle, Cond.code yX4_settle cX4_settle 3 none, Cond.fieldLink RX4 78 "HlcStoreModel" "held" "I", Cond.methodLink RX4 105 yX4_find, Cond.instanceMethod yX4_find, Cond.selects RX4 yX4_find yX4_find, Cond.code yX4_find cX4_find 8 (some .int), Cond.methodLink RX4 109 yX4_restart, Cond.instanceMethod yX4_restart, Cond.selects RX4 yX4_restart yX4_restart, Cond.code yX4_restart cX4_restart 5 none, Cond.methodLink RL 37 yX3_write, Cond.instanceMethod yX3_write, Cond.selects RX3 yX3_write yX3_write, Cond.code yX3_write cX3_write 8 (some .int), Cond.methodLink RX3 100 yX3_writeAtOwner, Cond.instanceMethod yX3_writeAtOwner, Cond.selects RX3 yX3_writeAtOwner yX3_writeAtOwner, Cond.code yX3_writeAtOwner cX3_writeAtOwner 5 (some .int), Cond.constantLong RX3 187 (9223372036854775807), Cond.methodLink RL 41 yX4_write, Cond.instanceMethod yX4_write, Cond.selects RX4 yX4_write yX4_write, Cond.code yX4_write cX4_write 12 (some .int)]
def wsL_law_r12 : List Cond := [Cond.constantLong RX4 117 (9223372036854775807), Cond.methodLink RX4 114 yX4_versions, Cond.instanceMethod yX4_versions, Cond.selects RX4 yX4_versions yX4_versions, Cond.code yX4_versions cX4_versions 4 (some .int), Cond.methodLink RL 42 yX3_commit, Cond.instanceMethod yX3_commit, Cond.selects RX3 yX3_commit yX3_commit, Cond.code yX3_commit cX3_commit 4 (some .int), Cond.methodLink RX3 110 yX3_moveReadsToWriteStamp, Cond.instanceMethod yX3_moveReadsToWriteStamp, Cond.selects RX3 yX3_moveReadsToWriteStamp yX3_moveReadsToWriteStamp, Cond.code yX3_moveReadsToWriteStamp cX3_moveReadsToWriteStamp 6 (some .boolean), Cond.methodLink RX3 189 yX3_moveReadToWriteStamp, Cond.static yX3_moveReadToWriteStamp, Cond.code yX3_moveReadToWriteStamp cX3_moveReadToWriteStamp 4 (some .boolean), Cond.methodLink RX3 121 yX3_logCommit, Cond.instanceMethod yX3_logCommit, Cond.selects RX3 yX3_logCommit yX3_logCommit, Cond.code yX3_logCommit cX3_logCommit 3 none, Cond.fieldLink RX3 140 "HlcStore" "commits" "I", Cond.methodLink RL 45 yX4_commit, Cond.instanceMethod yX4_commit, Cond.selects RX4 yX4_commit yX4_commit]
def wsL_law_r13 : List Cond := [Cond.code yX4_commit cX4_commit 7 (some .int), Cond.fieldLink RX4 119 "HlcStoreModel" "commits" "I", Cond.methodLink RL 46 yX3_abort, Cond.instanceMethod yX3_abort, Cond.selects RX3 yX3_abort yX3_abort, Cond.code yX3_abort cX3_abort 4 (some .int), Cond.methodLink RL 49 yX4_abort, Cond.instanceMethod yX4_abort, Cond.selects RX4 yX4_abort yX4_abort, Cond.code yX4_abort cX4_abort 3 (some .int), Cond.methodLink RL 50 yX3_heartbeat, Cond.instanceMethod yX3_heartbeat, Cond.selects RX3 yX3_heartbeat yX3_heartbeat, Cond.code yX3_heartbeat cX3_heartbeat 4 (some .int), Cond.methodLink RL 53 yX4_heartbeat, Cond.instanceMethod yX4_heartbeat, Cond.selects RX4 yX4_heartbeat yX4_heartbeat, Cond.code yX4_heartbeat cX4_heartbeat 3 (some .int), Cond.methodLink RL 54 yX3_clean, Cond.instanceMethod yX3_clean, Cond.selects RX3 yX3_clean yX3_clean, Cond.code yX3_clean cX3_clean 7 (some .int), Cond.methodLink RL 57 yX4_clean, Cond.instanceMethod yX4_clean]
def wsL_law_r14 : List Cond := [Cond.selects RX4 yX4_clean yX4_clean, Cond.code yX4_clean cX4_clean 3 (some .int), Cond.methodLink RL 58 yX3_state, Cond.instanceMethod yX3_state, Cond.selects RX3 yX3_state yX3_state, Cond.code yX3_state cX3_state 3 (some .int), Cond.methodLink RL 61 yX4_state, Cond.instanceMethod yX4_state, Cond.selects RX4 yX4_state yX4_state, Cond.code yX4_state cX4_state 2 (some .int), Cond.methodLink RL 62 yX3_stamp, Cond.instanceMethod yX3_stamp, Cond.selects RX3 yX3_stamp yX3_stamp, Cond.code yX3_stamp cX3_stamp 3 (some .long), Cond.methodLink RL 65 yX4_stamp, Cond.instanceMethod yX4_stamp, Cond.selects RX4 yX4_stamp yX4_stamp, Cond.code yX4_stamp cX4_stamp 2 (some .long), Cond.methodLink RL 66 yX3_versions, Cond.instanceMethod yX3_versions, Cond.selects RX3 yX3_versions yX3_versions, Cond.code yX3_versions cX3_versions 3 (some .int), Cond.methodLink RL 69 yX4_versions, Cond.methodLink RL 70 yX3_committed]
def wsL_law_r15 : List Cond := [Cond.instanceMethod yX3_committed, Cond.selects RX3 yX3_committed yX3_committed, Cond.code yX3_committed cX3_committed 2 (some .long), Cond.methodLink RL 73 yX4_committed, Cond.instanceMethod yX4_committed, Cond.selects RX4 yX4_committed yX4_committed, Cond.code yX4_committed cX4_committed 2 (some .long)]
def wsL_law : List Cond := (wsL_law_r1 ++ (wsL_law_r2 ++ (wsL_law_r3 ++ (wsL_law_r4 ++ (wsL_law_r5 ++ (wsL_law_r6 ++ (wsL_law_r7 ++ (wsL_law_r8 ++ (wsL_law_r9 ++ (wsL_law_r10 ++ (wsL_law_r11 ++ (wsL_law_r12 ++ (wsL_law_r13 ++ (wsL_law_r14 ++ wsL_law_r15)))))))))))))) ++ wsX30 ++ wsX40 ++ wsX10 ++ wsX00 ++ wsX20 ++ ([] : List Cond)
set_option maxRecDepth 20000 in
theorem inlX0 : ∀ w ∈ wsX00, w ∈ wsL_law := fun _ h => List.mem_append_left _ (List.mem_append_left _ (List.mem_append_right _ h))
theorem inlX1 : ∀ w ∈ wsX10, w ∈ wsL_law := fun _ h => List.mem_append_left _ (List.mem_append_left _ (List.mem_append_left _ (List.mem_append_right _ h)))
theorem inlX2 : ∀ w ∈ wsX20, w ∈ wsL_law := fun _ h => List.mem_append_left _ (List.mem_append_right _ h)
theorem inlX3 : ∀ w ∈ wsX30, w ∈ wsL_law := fun _ h => List.mem_append_left _ (List.mem_append_left _ (List.mem_append_left _ (List.mem_append_left _ (List.mem_append_left _ (List.mem_append_right _ h)))))
theorem inlX4 : ∀ w ∈ wsX40, w ∈ wsL_law := fun _ h => List.mem_append_left _ (List.mem_append_left _ (List.mem_append_left _ (List.mem_append_left _ (List.mem_append_right _ h))))
theorem inJ9 : ∀ w ∈ wsJ90, w ∈ lw_tbl := by decide +kernel
theorem dX0_init_0 : decode cX0_init 0 = .ok (.aload_n 0, 1) := by decide +kernel
theorem dX0_init_1 : decode cX0_init 1 = .ok (.invokespecial 3, 3) := by decide +kernel
theorem dX0_init_4 : decode cX0_init 4 = .ok (.aload_n 0, 1) := by decide +kernel
theorem dX0_init_5 : decode cX0_init 5 = .ok (.iload_n 1, 1) := by decide +kernel
theorem dX0_init_6 : decode cX0_init 6 = .ok (.putfield 9, 3) := by decide +kernel
theorem dX0_init_9 : decode cX0_init 9 = .ok (.aload_n 0, 1) := by decide +kernel
theorem dX0_init_10 : decode cX0_init 10 = .ok (.aload_n 2, 1) := by decide +kernel
theorem dX0_init_11 : decode cX0_init 11 = .ok (.putfield 15, 3) := by decide +kernel
theorem dX0_init_14 : decode cX0_init 14 = .ok (.aload_n 0, 1) := by decide +kernel
theorem dX0_init_15 : decode cX0_init 15 = .ok (.bipush 16, 2) := by decide +kernel
theorem dX0_init_17 : decode cX0_init 17 = .ok (.newarray .long, 2) := by decide +kernel
theorem dX0_init_19 : decode cX0_init 19 = .ok (.putfield 19, 3) := by decide +kernel
theorem dX0_init_22 : decode cX0_init 22 = .ok (.aload_n 0, 1) := by decide +kernel
theorem dX0_init_23 : decode cX0_init 23 = .ok (.bipush 16, 2) := by decide +kernel
theorem dX0_init_25 : decode cX0_init 25 = .ok (.newarray .int, 2) := by decide +kernel
theorem dX0_init_27 : decode cX0_init 27 = .ok (.putfield 23, 3) := by decide +kernel
theorem dX0_init_30 : decode cX0_init 30 = .ok (.return_, 1) := by decide +kernel
theorem dX0_raiseReadMark_0 : decode cX0_raiseReadMark 0 = .ok (.aload_n 0, 1) := by decide +kernel
theorem dX0_raiseReadMark_1 : decode cX0_raiseReadMark 1 = .ok (.aload_n 0, 1) := by decide +kernel
theorem dX0_raiseReadMark_2 : decode cX0_raiseReadMark 2 = .ok (.getfield 27, 3) := by decide +kernel
theorem dX0_raiseReadMark_5 : decode cX0_raiseReadMark 5 = .ok (.lload_n 1, 1) := by decide +kernel
theorem dX0_raiseReadMark_6 : decode cX0_raiseReadMark 6 = .ok (.invokestatic 31, 3) := by decide +kernel
theorem dX0_raiseReadMark_9 : decode cX0_raiseReadMark 9 = .ok (.putfield 27, 3) := by decide +kernel
theorem dX0_raiseReadMark_12 : decode cX0_raiseReadMark 12 = .ok (.return_, 1) := by decide +kernel
set_option maxRecDepth 20000 in
theorem ggX0_greatestStampIn_X0_newestIn : GoodIn wsX0_greatestStampIn wsX0_newestIn := goodIn_r _ [7, 8, 2, 9, 10, 11, 12, 13, 14, 15, 16] (by decide +kernel) (by decide +kernel)
set_option maxRecDepth 20000 in
theorem gX0_greatestStampIn_X0_newestIn : GoodIn wsX0_greatestStampIn (wsV RX0 37 RX0 yX0_newestIn wsX0_newestIn) := goodIn_app (goodIn_of _ (by decide +kernel)) ggX0_greatestStampIn_X0_newestIn
theorem dX0_greatestStampIn_0 : decode cX0_greatestStampIn 0 = .ok (.aload_n 0, 1) := by decide +kernel
theorem dX0_greatestStampIn_1 : decode cX0_greatestStampIn 1 = .ok (.lload_n 1, 1) := by decide +kernel
theorem dX0_greatestStampIn_2 : decode cX0_greatestStampIn 2 = .ok (.lload_n 3, 1) := by decide +kernel
theorem dX0_greatestStampIn_3 : decode cX0_greatestStampIn 3 = .ok (.invokevirtual 37, 3) := by decide +kernel
theorem dX0_greatestStampIn_6 : decode cX0_greatestStampIn 6 = .ok (.istore 5, 2) := by decide +kernel
theorem dX0_greatestStampIn_8 : decode cX0_greatestStampIn 8 = .ok (.iload 5, 2) := by decide +kernel
theorem dX0_greatestStampIn_10 : decode cX0_greatestStampIn 10 = .ok (.iconst (-1), 1) := by decide +kernel
theorem dX0_greatestStampIn_11 : decode cX0_greatestStampIn 11 = .ok (.if_icmp .ne 9, 3) := by decide +kernel
theorem dX0_greatestStampIn_14 : decode cX0_greatestStampIn 14 = .ok (.ldc2_w 41, 3) := by decide +kernel
theorem dX0_greatestStampIn_17 : decode cX0_greatestStampIn 17 = .ok (.goto 10, 3) := by decide +kernel
theorem dX0_greatestStampIn_20 : decode cX0_greatestStampIn 20 = .ok (.aload_n 0, 1) := by decide +kernel
theorem dX0_greatestStampIn_21 : decode cX0_greatestStampIn 21 = .ok (.getfield 19, 3) := by decide +kernel
theorem dX0_greatestStampIn_24 : decode cX0_greatestStampIn 24 = .ok (.iload 5, 2) := by decide +kernel
theorem dX0_greatestStampIn_26 : decode cX0_greatestStampIn 26 = .ok (.laload, 1) := by decide +kernel
theorem dX0_greatestStampIn_27 : decode cX0_greatestStampIn 27 = .ok (.lreturn, 1) := by decide +kernel
set_option maxRecDepth 20000 in
theorem ggX0_valueAt_X0_newestIn : GoodIn wsX0_valueAt wsX0_newestIn := goodIn_r _ [7, 8, 9, 10, 11, 12, 13, 14, 15, 16, 17] (by decide +kernel) (by decide +kernel)
set_option maxRecDepth 20000 in
theorem gX0_valueAt_X0_newestIn : GoodIn wsX0_valueAt (wsV RX0 37 RX0 yX0_newestIn wsX0_newestIn) := goodIn_app (goodIn_of _ (by decide +kernel)) ggX0_valueAt_X0_newestIn
theorem dX0_valueAt_0 : decode cX0_valueAt 0 = .ok (.aload_n 0, 1) := by decide +kernel
theorem dX0_valueAt_1 : decode cX0_valueAt 1 = .ok (.ldc2_w 41, 3) := by decide +kernel
theorem dX0_valueAt_4 : decode cX0_valueAt 4 = .ok (.lload_n 1, 1) := by decide +kernel
theorem dX0_valueAt_5 : decode cX0_valueAt 5 = .ok (.invokevirtual 37, 3) := by decide +kernel
theorem dX0_valueAt_8 : decode cX0_valueAt 8 = .ok (.istore_n 3, 1) := by decide +kernel
theorem dX0_valueAt_9 : decode cX0_valueAt 9 = .ok (.iload_n 3, 1) := by decide +kernel
theorem dX0_valueAt_10 : decode cX0_valueAt 10 = .ok (.iconst (-1), 1) := by decide +kernel
theorem dX0_valueAt_11 : decode cX0_valueAt 11 = .ok (.if_icmp .ne 7, 3) := by decide +kernel
theorem dX0_valueAt_14 : decode cX0_valueAt 14 = .ok (.iconst 0, 1) := by decide +kernel
theorem dX0_valueAt_15 : decode cX0_valueAt 15 = .ok (.goto 9, 3) := by decide +kernel
theorem dX0_valueAt_18 : decode cX0_valueAt 18 = .ok (.aload_n 0, 1) := by decide +kernel
theorem dX0_valueAt_19 : decode cX0_valueAt 19 = .ok (.getfield 23, 3) := by decide +kernel
theorem dX0_valueAt_22 : decode cX0_valueAt 22 = .ok (.iload_n 3, 1) := by decide +kernel
theorem dX0_valueAt_23 : decode cX0_valueAt 23 = .ok (.iaload, 1) := by decide +kernel
theorem dX0_valueAt_24 : decode cX0_valueAt 24 = .ok (.ireturn, 1) := by decide +kernel
theorem dX0_newestIn_0 : decode cX0_newestIn 0 = .ok (.iconst (-1), 1) := by decide +kernel
theorem dX0_newestIn_1 : decode cX0_newestIn 1 = .ok (.istore 5, 2) := by decide +kernel
theorem dX0_newestIn_3 : decode cX0_newestIn 3 = .ok (.lload_n 1, 1) := by decide +kernel
theorem dX0_newestIn_4 : decode cX0_newestIn 4 = .ok (.lstore 6, 2) := by decide +kernel
theorem dX0_newestIn_6 : decode cX0_newestIn 6 = .ok (.iconst 0, 1) := by decide +kernel
theorem dX0_newestIn_7 : decode cX0_newestIn 7 = .ok (.istore 8, 2) := by decide +kernel
theorem dX0_newestIn_9 : decode cX0_newestIn 9 = .ok (.iload 8, 2) := by decide +kernel
theorem dX0_newestIn_11 : decode cX0_newestIn 11 = .ok (.aload_n 0, 1) := by decide +kernel
theorem dX0_newestIn_12 : decode cX0_newestIn 12 = .ok (.getfield 43, 3) := by decide +kernel
theorem dX0_newestIn_15 : decode cX0_newestIn 15 = .ok (.if_icmp .ge 47, 3) := by decide +kernel
theorem dX0_newestIn_18 : decode cX0_newestIn 18 = .ok (.aload_n 0, 1) := by decide +kernel
theorem dX0_newestIn_19 : decode cX0_newestIn 19 = .ok (.getfield 19, 3) := by decide +kernel
theorem dX0_newestIn_22 : decode cX0_newestIn 22 = .ok (.iload 8, 2) := by decide +kernel
theorem dX0_newestIn_24 : decode cX0_newestIn 24 = .ok (.laload, 1) := by decide +kernel
theorem dX0_newestIn_25 : decode cX0_newestIn 25 = .ok (.lload 6, 2) := by decide +kernel
theorem dX0_newestIn_27 : decode cX0_newestIn 27 = .ok (.lcmp, 1) := by decide +kernel
theorem dX0_newestIn_28 : decode cX0_newestIn 28 = .ok (.ifCond .le 28, 3) := by decide +kernel
theorem dX0_newestIn_31 : decode cX0_newestIn 31 = .ok (.aload_n 0, 1) := by decide +kernel
theorem dX0_newestIn_32 : decode cX0_newestIn 32 = .ok (.getfield 19, 3) := by decide +kernel
theorem dX0_newestIn_35 : decode cX0_newestIn 35 = .ok (.iload 8, 2) := by decide +kernel
theorem dX0_newestIn_37 : decode cX0_newestIn 37 = .ok (.laload, 1) := by decide +kernel
theorem dX0_newestIn_38 : decode cX0_newestIn 38 = .ok (.lload_n 3, 1) := by decide +kernel
theorem dX0_newestIn_39 : decode cX0_newestIn 39 = .ok (.lcmp, 1) := by decide +kernel
theorem dX0_newestIn_40 : decode cX0_newestIn 40 = .ok (.ifCond .gt 16, 3) := by decide +kernel
theorem dX0_newestIn_43 : decode cX0_newestIn 43 = .ok (.aload_n 0, 1) := by decide +kernel
theorem dX0_newestIn_44 : decode cX0_newestIn 44 = .ok (.getfield 19, 3) := by decide +kernel
theorem dX0_newestIn_47 : decode cX0_newestIn 47 = .ok (.iload 8, 2) := by decide +kernel
theorem dX0_newestIn_49 : decode cX0_newestIn 49 = .ok (.laload, 1) := by decide +kernel
theorem dX0_newestIn_50 : decode cX0_newestIn 50 = .ok (.lstore 6, 2) := by decide +kernel
theorem dX0_newestIn_52 : decode cX0_newestIn 52 = .ok (.iload 8, 2) := by decide +kernel
theorem dX0_newestIn_54 : decode cX0_newestIn 54 = .ok (.istore 5, 2) := by decide +kernel
theorem dX0_newestIn_56 : decode cX0_newestIn 56 = .ok (.iinc 8 1, 3) := by decide +kernel
theorem dX0_newestIn_59 : decode cX0_newestIn 59 = .ok (.goto (-50), 3) := by decide +kernel
theorem dX0_newestIn_62 : decode cX0_newestIn 62 = .ok (.iload 5, 2) := by decide +kernel
theorem dX0_newestIn_64 : decode cX0_newestIn 64 = .ok (.ireturn, 1) := by decide +kernel
set_option maxRecDepth 20000 in
theorem ggX0_settleIntent_X0_addVersion : GoodIn wsX0_settleIntent wsX0_addVersion := goodIn_r _ [7, 8, 9, 10, 11, 12, 13, 14, 15, 16, 17, 18] (by decide +kernel) (by decide +kernel)
set_option maxRecDepth 20000 in
theorem gX0_settleIntent_X0_addVersion : GoodIn wsX0_settleIntent (wsV RX0 61 RX0 yX0_addVersion wsX0_addVersion) := goodIn_app (goodIn_of _ (by decide +kernel)) ggX0_settleIntent_X0_addVersion
theorem dX0_settleIntent_0 : decode cX0_settleIntent 0 = .ok (.aload_n 0, 1) := by decide +kernel
theorem dX0_settleIntent_1 : decode cX0_settleIntent 1 = .ok (.getfield 46, 3) := by decide +kernel
theorem dX0_settleIntent_4 : decode cX0_settleIntent 4 = .ok (.ifnull 29, 3) := by decide +kernel
theorem dX0_settleIntent_7 : decode cX0_settleIntent 7 = .ok (.aload_n 0, 1) := by decide +kernel
theorem dX0_settleIntent_8 : decode cX0_settleIntent 8 = .ok (.getfield 46, 3) := by decide +kernel
theorem dX0_settleIntent_11 : decode cX0_settleIntent 11 = .ok (.getfield 50, 3) := by decide +kernel
theorem dX0_settleIntent_14 : decode cX0_settleIntent 14 = .ok (.iconst 2, 1) := by decide +kernel
theorem dX0_settleIntent_15 : decode cX0_settleIntent 15 = .ok (.if_icmp .ne 18, 3) := by decide +kernel
theorem dX0_settleIntent_18 : decode cX0_settleIntent 18 = .ok (.aload_n 0, 1) := by decide +kernel
theorem dX0_settleIntent_19 : decode cX0_settleIntent 19 = .ok (.aload_n 0, 1) := by decide +kernel
theorem dX0_settleIntent_20 : decode cX0_settleIntent 20 = .ok (.getfield 46, 3) := by decide +kernel
theorem dX0_settleIntent_23 : decode cX0_settleIntent 23 = .ok (.getfield 55, 3) := by decide +kernel
theorem dX0_settleIntent_26 : decode cX0_settleIntent 26 = .ok (.aload_n 0, 1) := by decide +kernel
theorem dX0_settleIntent_27 : decode cX0_settleIntent 27 = .ok (.getfield 58, 3) := by decide +kernel
theorem dX0_settleIntent_30 : decode cX0_settleIntent 30 = .ok (.invokevirtual 61, 3) := by decide +kernel
theorem dX0_settleIntent_33 : decode cX0_settleIntent 33 = .ok (.aload_n 0, 1) := by decide +kernel
theorem dX0_settleIntent_34 : decode cX0_settleIntent 34 = .ok (.aconst_null, 1) := by decide +kernel
theorem dX0_settleIntent_35 : decode cX0_settleIntent 35 = .ok (.putfield 46, 3) := by decide +kernel
theorem dX0_settleIntent_38 : decode cX0_settleIntent 38 = .ok (.return_, 1) := by decide +kernel
theorem dX0_addVersion_0 : decode cX0_addVersion 0 = .ok (.aload_n 0, 1) := by decide +kernel
theorem dX0_addVersion_1 : decode cX0_addVersion 1 = .ok (.getfield 43, 3) := by decide +kernel
theorem dX0_addVersion_4 : decode cX0_addVersion 4 = .ok (.bipush 16, 2) := by decide +kernel
theorem dX0_addVersion_6 : decode cX0_addVersion 6 = .ok (.if_icmp .ge 33, 3) := by decide +kernel
theorem dX0_addVersion_9 : decode cX0_addVersion 9 = .ok (.aload_n 0, 1) := by decide +kernel
theorem dX0_addVersion_10 : decode cX0_addVersion 10 = .ok (.getfield 19, 3) := by decide +kernel
theorem dX0_addVersion_13 : decode cX0_addVersion 13 = .ok (.aload_n 0, 1) := by decide +kernel
theorem dX0_addVersion_14 : decode cX0_addVersion 14 = .ok (.getfield 43, 3) := by decide +kernel
theorem dX0_addVersion_17 : decode cX0_addVersion 17 = .ok (.lload_n 1, 1) := by decide +kernel
theorem dX0_addVersion_18 : decode cX0_addVersion 18 = .ok (.lastore, 1) := by decide +kernel
theorem dX0_addVersion_19 : decode cX0_addVersion 19 = .ok (.aload_n 0, 1) := by decide +kernel
theorem dX0_addVersion_20 : decode cX0_addVersion 20 = .ok (.getfield 23, 3) := by decide +kernel
theorem dX0_addVersion_23 : decode cX0_addVersion 23 = .ok (.aload_n 0, 1) := by decide +kernel
theorem dX0_addVersion_24 : decode cX0_addVersion 24 = .ok (.getfield 43, 3) := by decide +kernel
theorem dX0_addVersion_27 : decode cX0_addVersion 27 = .ok (.iload_n 3, 1) := by decide +kernel
theorem dX0_addVersion_28 : decode cX0_addVersion 28 = .ok (.iastore, 1) := by decide +kernel
theorem dX0_addVersion_29 : decode cX0_addVersion 29 = .ok (.aload_n 0, 1) := by decide +kernel
theorem dX0_addVersion_30 : decode cX0_addVersion 30 = .ok (.dup, 1) := by decide +kernel
theorem dX0_addVersion_31 : decode cX0_addVersion 31 = .ok (.getfield 43, 3) := by decide +kernel
theorem dX0_addVersion_34 : decode cX0_addVersion 34 = .ok (.iconst 1, 1) := by decide +kernel
theorem dX0_addVersion_35 : decode cX0_addVersion 35 = .ok (.iadd, 1) := by decide +kernel
theorem dX0_addVersion_36 : decode cX0_addVersion 36 = .ok (.putfield 43, 3) := by decide +kernel
theorem dX0_addVersion_39 : decode cX0_addVersion 39 = .ok (.return_, 1) := by decide +kernel
theorem dX1_init_0 : decode cX1_init 0 = .ok (.aload_n 0, 1) := by decide +kernel
theorem dX1_init_1 : decode cX1_init 1 = .ok (.invokespecial 3, 3) := by decide +kernel
theorem dX1_init_4 : decode cX1_init 4 = .ok (.return_, 1) := by decide +kernel
theorem dX1_takeIn_0 : decode cX1_takeIn 0 = .ok (.aload_n 0, 1) := by decide +kernel
theorem dX1_takeIn_1 : decode cX1_takeIn 1 = .ok (.aload_n 0, 1) := by decide +kernel
theorem dX1_takeIn_2 : decode cX1_takeIn 2 = .ok (.getfield 9, 3) := by decide +kernel
theorem dX1_takeIn_5 : decode cX1_takeIn 5 = .ok (.lload_n 1, 1) := by decide +kernel
theorem dX1_takeIn_6 : decode cX1_takeIn 6 = .ok (.invokestatic 15, 3) := by decide +kernel
theorem dX1_takeIn_9 : decode cX1_takeIn 9 = .ok (.lconst 1, 1) := by decide +kernel
theorem dX1_takeIn_10 : decode cX1_takeIn 10 = .ok (.ladd, 1) := by decide +kernel
theorem dX1_takeIn_11 : decode cX1_takeIn 11 = .ok (.aload_n 0, 1) := by decide +kernel
theorem dX1_takeIn_12 : decode cX1_takeIn 12 = .ok (.getfield 21, 3) := by decide +kernel
theorem dX1_takeIn_15 : decode cX1_takeIn 15 = .ok (.i2l, 1) := by decide +kernel
theorem dX1_takeIn_16 : decode cX1_takeIn 16 = .ok (.ldc2_w 25, 3) := by decide +kernel
theorem dX1_takeIn_19 : decode cX1_takeIn 19 = .ok (.lmul, 1) := by decide +kernel
theorem dX1_takeIn_20 : decode cX1_takeIn 20 = .ok (.invokestatic 15, 3) := by decide +kernel
theorem dX1_takeIn_23 : decode cX1_takeIn 23 = .ok (.putfield 9, 3) := by decide +kernel
theorem dX1_takeIn_26 : decode cX1_takeIn 26 = .ok (.return_, 1) := by decide +kernel
set_option maxRecDepth 20000 in
theorem ggX1_haveEvent_X1_takeIn : GoodIn wsX1_haveEvent wsX1_takeIn := goodIn_r _ [6, 1, 7, 8, 9, 10, 11, 12, 13, 14] (by decide +kernel) (by decide +kernel)
set_option maxRecDepth 20000 in
theorem gX1_haveEvent_X1_takeIn : GoodIn wsX1_haveEvent (wsV RX1 27 RX1 yX1_takeIn wsX1_takeIn) := goodIn_app (goodIn_of _ (by decide +kernel)) ggX1_haveEvent_X1_takeIn
theorem dX1_haveEvent_0 : decode cX1_haveEvent 0 = .ok (.aload_n 0, 1) := by decide +kernel
theorem dX1_haveEvent_1 : decode cX1_haveEvent 1 = .ok (.aload_n 0, 1) := by decide +kernel
theorem dX1_haveEvent_2 : decode cX1_haveEvent 2 = .ok (.getfield 9, 3) := by decide +kernel
theorem dX1_haveEvent_5 : decode cX1_haveEvent 5 = .ok (.invokevirtual 27, 3) := by decide +kernel
theorem dX1_haveEvent_8 : decode cX1_haveEvent 8 = .ok (.return_, 1) := by decide +kernel
theorem dX2_init_0 : decode cX2_init 0 = .ok (.aload_n 0, 1) := by decide +kernel
theorem dX2_init_1 : decode cX2_init 1 = .ok (.invokespecial 3, 3) := by decide +kernel
theorem dX2_init_4 : decode cX2_init 4 = .ok (.aload_n 0, 1) := by decide +kernel
theorem dX2_init_5 : decode cX2_init 5 = .ok (.aload_n 1, 1) := by decide +kernel
theorem dX2_init_6 : decode cX2_init 6 = .ok (.putfield 9, 3) := by decide +kernel
theorem dX2_init_9 : decode cX2_init 9 = .ok (.return_, 1) := by decide +kernel
theorem dX2_start_0 : decode cX2_start 0 = .ok (.aload_n 0, 1) := by decide +kernel
theorem dX2_start_1 : decode cX2_start 1 = .ok (.iconst 1, 1) := by decide +kernel
theorem dX2_start_2 : decode cX2_start 2 = .ok (.putfield 15, 3) := by decide +kernel
theorem dX2_start_5 : decode cX2_start 5 = .ok (.aload_n 0, 1) := by decide +kernel
theorem dX2_start_6 : decode cX2_start 6 = .ok (.aload_n 1, 1) := by decide +kernel
theorem dX2_start_7 : decode cX2_start 7 = .ok (.putfield 9, 3) := by decide +kernel
theorem dX2_start_10 : decode cX2_start 10 = .ok (.aload_n 0, 1) := by decide +kernel
theorem dX2_start_11 : decode cX2_start 11 = .ok (.aload_n 1, 1) := by decide +kernel
theorem dX2_start_12 : decode cX2_start 12 = .ok (.getfield 19, 3) := by decide +kernel
theorem dX2_start_15 : decode cX2_start 15 = .ok (.putfield 24, 3) := by decide +kernel
theorem dX2_start_18 : decode cX2_start 18 = .ok (.aload_n 0, 1) := by decide +kernel
theorem dX2_start_19 : decode cX2_start 19 = .ok (.iload_n 2, 1) := by decide +kernel
theorem dX2_start_20 : decode cX2_start 20 = .ok (.putfield 27, 3) := by decide +kernel
theorem dX2_start_23 : decode cX2_start 23 = .ok (.aload_n 0, 1) := by decide +kernel
theorem dX2_start_24 : decode cX2_start 24 = .ok (.aload_n 1, 1) := by decide +kernel
theorem dX2_start_25 : decode cX2_start 25 = .ok (.getfield 30, 3) := by decide +kernel
theorem dX2_start_28 : decode cX2_start 28 = .ok (.putfield 34, 3) := by decide +kernel
theorem dX2_start_31 : decode cX2_start 31 = .ok (.aload_n 0, 1) := by decide +kernel
theorem dX2_start_32 : decode cX2_start 32 = .ok (.aload_n 1, 1) := by decide +kernel
theorem dX2_start_33 : decode cX2_start 33 = .ok (.getfield 30, 3) := by decide +kernel
theorem dX2_start_36 : decode cX2_start 36 = .ok (.putfield 37, 3) := by decide +kernel
theorem dX2_start_39 : decode cX2_start 39 = .ok (.aload_n 0, 1) := by decide +kernel
theorem dX2_start_40 : decode cX2_start 40 = .ok (.aload_n 1, 1) := by decide +kernel
theorem dX2_start_41 : decode cX2_start 41 = .ok (.getfield 30, 3) := by decide +kernel
theorem dX2_start_44 : decode cX2_start 44 = .ok (.ldc2_w 40, 3) := by decide +kernel
theorem dX2_start_47 : decode cX2_start 47 = .ok (.ldiv, 1) := by decide +kernel
theorem dX2_start_48 : decode cX2_start 48 = .ok (.ldc2_w 42, 3) := by decide +kernel
theorem dX2_start_51 : decode cX2_start 51 = .ok (.ladd, 1) := by decide +kernel
theorem dX2_start_52 : decode cX2_start 52 = .ok (.ldc2_w 40, 3) := by decide +kernel
theorem dX2_start_55 : decode cX2_start 55 = .ok (.lmul, 1) := by decide +kernel
theorem dX2_start_56 : decode cX2_start 56 = .ok (.ldc2_w 44, 3) := by decide +kernel
theorem dX2_start_59 : decode cX2_start 59 = .ok (.ladd, 1) := by decide +kernel
theorem dX2_start_60 : decode cX2_start 60 = .ok (.putfield 46, 3) := by decide +kernel
theorem dX2_start_63 : decode cX2_start 63 = .ok (.aload_n 0, 1) := by decide +kernel
theorem dX2_start_64 : decode cX2_start 64 = .ok (.iconst 0, 1) := by decide +kernel
theorem dX2_start_65 : decode cX2_start 65 = .ok (.putfield 49, 3) := by decide +kernel
theorem dX2_start_68 : decode cX2_start 68 = .ok (.aload_n 0, 1) := by decide +kernel
theorem dX2_start_69 : decode cX2_start 69 = .ok (.iconst 0, 1) := by decide +kernel
theorem dX2_start_70 : decode cX2_start 70 = .ok (.putfield 52, 3) := by decide +kernel
theorem dX2_start_73 : decode cX2_start 73 = .ok (.return_, 1) := by decide +kernel
theorem dX2_codeOfState_0 : decode cX2_codeOfState 0 = .ok (.aload_n 0, 1) := by decide +kernel
theorem dX2_codeOfState_1 : decode cX2_codeOfState 1 = .ok (.getfield 15, 3) := by decide +kernel
theorem dX2_codeOfState_4 : decode cX2_codeOfState 4 = .ok (.tableswitch 36 1 3 #[28, 30, 33], 28) := by decide +kernel
theorem dX2_codeOfState_32 : decode cX2_codeOfState 32 = .ok (.iconst 0, 1) := by decide +kernel
theorem dX2_codeOfState_33 : decode cX2_codeOfState 33 = .ok (.ireturn, 1) := by decide +kernel
theorem dX2_codeOfState_34 : decode cX2_codeOfState 34 = .ok (.bipush (-8), 2) := by decide +kernel
theorem dX2_codeOfState_36 : decode cX2_codeOfState 36 = .ok (.ireturn, 1) := by decide +kernel
theorem dX2_codeOfState_37 : decode cX2_codeOfState 37 = .ok (.bipush (-6), 2) := by decide +kernel
theorem dX2_codeOfState_39 : decode cX2_codeOfState 39 = .ok (.ireturn, 1) := by decide +kernel
theorem dX2_codeOfState_40 : decode cX2_codeOfState 40 = .ok (.bipush (-4), 2) := by decide +kernel
theorem dX2_codeOfState_42 : decode cX2_codeOfState 42 = .ok (.ireturn, 1) := by decide +kernel
set_option maxRecDepth 20000 in
theorem ggX2_takeStoppingCode_X2_codeOfState : GoodIn wsX2_takeStoppingCode wsX2_codeOfState := goodIn_r _ [6, 7, 8, 9, 10, 11, 12, 13, 14, 15, 16] (by decide +kernel) (by decide +kernel)
set_option maxRecDepth 20000 in
theorem gX2_takeStoppingCode_X2_codeOfState : GoodIn wsX2_takeStoppingCode (wsV RX2 56 RX2 yX2_codeOfState wsX2_codeOfState) := goodIn_app (goodIn_of _ (by decide +kernel)) ggX2_takeStoppingCode_X2_codeOfState
theorem dX2_takeStoppingCode_0 : decode cX2_takeStoppingCode 0 = .ok (.aload_n 0, 1) := by decide +kernel
theorem dX2_takeStoppingCode_1 : decode cX2_takeStoppingCode 1 = .ok (.invokevirtual 56, 3) := by decide +kernel
theorem dX2_takeStoppingCode_4 : decode cX2_takeStoppingCode 4 = .ok (.istore_n 1, 1) := by decide +kernel
theorem dX2_takeStoppingCode_5 : decode cX2_takeStoppingCode 5 = .ok (.iload_n 1, 1) := by decide +kernel
theorem dX2_takeStoppingCode_6 : decode cX2_takeStoppingCode 6 = .ok (.ifCond .ne 17, 3) := by decide +kernel
theorem dX2_takeStoppingCode_9 : decode cX2_takeStoppingCode 9 = .ok (.aload_n 0, 1) := by decide +kernel
theorem dX2_takeStoppingCode_10 : decode cX2_takeStoppingCode 10 = .ok (.getfield 52, 3) := by decide +kernel
theorem dX2_takeStoppingCode_13 : decode cX2_takeStoppingCode 13 = .ok (.ifCond .eq 10, 3) := by decide +kernel
theorem dX2_takeStoppingCode_16 : decode cX2_takeStoppingCode 16 = .ok (.aload_n 0, 1) := by decide +kernel
theorem dX2_takeStoppingCode_17 : decode cX2_takeStoppingCode 17 = .ok (.iconst 0, 1) := by decide +kernel
theorem dX2_takeStoppingCode_18 : decode cX2_takeStoppingCode 18 = .ok (.putfield 52, 3) := by decide +kernel
theorem dX2_takeStoppingCode_21 : decode cX2_takeStoppingCode 21 = .ok (.iconst 1, 1) := by decide +kernel
theorem dX2_takeStoppingCode_22 : decode cX2_takeStoppingCode 22 = .ok (.ireturn, 1) := by decide +kernel
theorem dX2_takeStoppingCode_23 : decode cX2_takeStoppingCode 23 = .ok (.iload_n 1, 1) := by decide +kernel
theorem dX2_takeStoppingCode_24 : decode cX2_takeStoppingCode 24 = .ok (.ireturn, 1) := by decide +kernel
theorem dX2_abortIfSilent_0 : decode cX2_abortIfSilent 0 = .ok (.aload_n 0, 1) := by decide +kernel
theorem dX2_abortIfSilent_1 : decode cX2_abortIfSilent 1 = .ok (.getfield 15, 3) := by decide +kernel
theorem dX2_abortIfSilent_4 : decode cX2_abortIfSilent 4 = .ok (.iconst 1, 1) := by decide +kernel
theorem dX2_abortIfSilent_5 : decode cX2_abortIfSilent 5 = .ok (.if_icmp .ne 25, 3) := by decide +kernel
theorem dX2_abortIfSilent_8 : decode cX2_abortIfSilent 8 = .ok (.aload_n 0, 1) := by decide +kernel
theorem dX2_abortIfSilent_9 : decode cX2_abortIfSilent 9 = .ok (.getfield 9, 3) := by decide +kernel
theorem dX2_abortIfSilent_12 : decode cX2_abortIfSilent 12 = .ok (.getfield 19, 3) := by decide +kernel
theorem dX2_abortIfSilent_15 : decode cX2_abortIfSilent 15 = .ok (.aload_n 0, 1) := by decide +kernel
theorem dX2_abortIfSilent_16 : decode cX2_abortIfSilent 16 = .ok (.getfield 24, 3) := by decide +kernel
theorem dX2_abortIfSilent_19 : decode cX2_abortIfSilent 19 = .ok (.isub, 1) := by decide +kernel
theorem dX2_abortIfSilent_20 : decode cX2_abortIfSilent 20 = .ok (.bipush 40, 2) := by decide +kernel
theorem dX2_abortIfSilent_22 : decode cX2_abortIfSilent 22 = .ok (.if_icmp .le 8, 3) := by decide +kernel
theorem dX2_abortIfSilent_25 : decode cX2_abortIfSilent 25 = .ok (.aload_n 0, 1) := by decide +kernel
theorem dX2_abortIfSilent_26 : decode cX2_abortIfSilent 26 = .ok (.iconst 3, 1) := by decide +kernel
theorem dX2_abortIfSilent_27 : decode cX2_abortIfSilent 27 = .ok (.putfield 15, 3) := by decide +kernel
theorem dX2_abortIfSilent_30 : decode cX2_abortIfSilent 30 = .ok (.return_, 1) := by decide +kernel
theorem dX2_pushWriteStampAbove_0 : decode cX2_pushWriteStampAbove 0 = .ok (.aload_n 0, 1) := by decide +kernel
theorem dX2_pushWriteStampAbove_1 : decode cX2_pushWriteStampAbove 1 = .ok (.aload_n 0, 1) := by decide +kernel
theorem dX2_pushWriteStampAbove_2 : decode cX2_pushWriteStampAbove 2 = .ok (.getfield 37, 3) := by decide +kernel
theorem dX2_pushWriteStampAbove_5 : decode cX2_pushWriteStampAbove 5 = .ok (.lload_n 1, 1) := by decide +kernel
theorem dX2_pushWriteStampAbove_6 : decode cX2_pushWriteStampAbove 6 = .ok (.lconst 1, 1) := by decide +kernel
theorem dX2_pushWriteStampAbove_7 : decode cX2_pushWriteStampAbove 7 = .ok (.ladd, 1) := by decide +kernel
theorem dX2_pushWriteStampAbove_8 : decode cX2_pushWriteStampAbove 8 = .ok (.invokestatic 60, 3) := by decide +kernel
theorem dX2_pushWriteStampAbove_11 : decode cX2_pushWriteStampAbove 11 = .ok (.putfield 37, 3) := by decide +kernel
theorem dX2_pushWriteStampAbove_14 : decode cX2_pushWriteStampAbove 14 = .ok (.return_, 1) := by decide +kernel
theorem dX2_moveTo_0 : decode cX2_moveTo 0 = .ok (.aload_n 0, 1) := by decide +kernel
theorem dX2_moveTo_1 : decode cX2_moveTo 1 = .ok (.iconst 0, 1) := by decide +kernel
theorem dX2_moveTo_2 : decode cX2_moveTo 2 = .ok (.putfield 49, 3) := by decide +kernel
theorem dX2_moveTo_5 : decode cX2_moveTo 5 = .ok (.aload_n 0, 1) := by decide +kernel
theorem dX2_moveTo_6 : decode cX2_moveTo 6 = .ok (.aload_n 0, 1) := by decide +kernel
theorem dX2_moveTo_7 : decode cX2_moveTo 7 = .ok (.getfield 37, 3) := by decide +kernel
theorem dX2_moveTo_10 : decode cX2_moveTo 10 = .ok (.lload_n 1, 1) := by decide +kernel
theorem dX2_moveTo_11 : decode cX2_moveTo 11 = .ok (.invokestatic 60, 3) := by decide +kernel
theorem dX2_moveTo_14 : decode cX2_moveTo 14 = .ok (.putfield 37, 3) := by decide +kernel
theorem dX2_moveTo_17 : decode cX2_moveTo 17 = .ok (.aload_n 0, 1) := by decide +kernel
theorem dX2_moveTo_18 : decode cX2_moveTo 18 = .ok (.aload_n 0, 1) := by decide +kernel
theorem dX2_moveTo_19 : decode cX2_moveTo 19 = .ok (.getfield 37, 3) := by decide +kernel
theorem dX2_moveTo_22 : decode cX2_moveTo 22 = .ok (.putfield 34, 3) := by decide +kernel
theorem dX2_moveTo_25 : decode cX2_moveTo 25 = .ok (.aload_n 0, 1) := by decide +kernel
theorem dX2_moveTo_26 : decode cX2_moveTo 26 = .ok (.aload_n 0, 1) := by decide +kernel
theorem dX2_moveTo_27 : decode cX2_moveTo 27 = .ok (.getfield 46, 3) := by decide +kernel
theorem dX2_moveTo_30 : decode cX2_moveTo 30 = .ok (.aload_n 0, 1) := by decide +kernel
theorem dX2_moveTo_31 : decode cX2_moveTo 31 = .ok (.getfield 34, 3) := by decide +kernel
theorem dX2_moveTo_34 : decode cX2_moveTo 34 = .ok (.invokestatic 60, 3) := by decide +kernel
theorem dX2_moveTo_37 : decode cX2_moveTo 37 = .ok (.putfield 46, 3) := by decide +kernel
theorem dX2_moveTo_40 : decode cX2_moveTo 40 = .ok (.return_, 1) := by decide +kernel
set_option maxRecDepth 20000 in
theorem ggX3_init_X1_init : GoodIn wsX3_init wsX1_init := goodIn_r _ [19, 20, 2, 3] (by decide +kernel) (by decide +kernel)
set_option maxRecDepth 20000 in
theorem gX3_init_X1_init_n15 : GoodIn wsX3_init (wsX1_init) := ggX3_init_X1_init
set_option maxRecDepth 20000 in
theorem ggX3_init_X0_init : GoodIn wsX3_init wsX0_init := goodIn_r _ [22, 23, 2, 3, 24, 25, 16, 26, 27, 28, 41, 42, 43, 44, 45, 46, 47, 48] (by decide +kernel) (by decide +kernel)
set_option maxRecDepth 20000 in
theorem gX3_init_X0_init_n22 : GoodIn wsX3_init (wsX0_init) := ggX3_init_X0_init
set_option maxRecDepth 20000 in
theorem ggX3_init_X2_init : GoodIn wsX3_init wsX2_init := goodIn_r _ [30, 31, 2, 3, 32, 49, 50, 51, 52, 53, 54, 55, 56, 57] (by decide +kernel) (by decide +kernel)
set_option maxRecDepth 20000 in
theorem gX3_init_X2_init_n31 : GoodIn wsX3_init (wsX2_init) := ggX3_init_X2_init
abbrev vwCl : List vw_C := [(RX0, TX0, 8), (RX1, TX1, 2), (RX2, TX2, 9), (RX3, TX3, 6), (RX4, TX4, 21)]
