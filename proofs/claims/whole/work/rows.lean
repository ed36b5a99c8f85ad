section
-- ===== PART A: goes FIRST, ahead of the names: the tables' words, and 'selects' of the private methods out of them =====
/-- a private method of a class that the tables say can be made, by its rows of tables_1 -/
def lw_okq (q : MethodName × Nat) : Prop := (q.1.cls ≠ "java/lang/invoke/MethodHandle" ∧ q.1.cls ≠ "java/lang/invoke/VarHandle") ∧ Cond.instantiable q.1.cls q.2 ∈ tables_1 ∧ Cond.privateMethod q.1 ∈ tables_1 ∧ Cond.instanceMethod q.1 ∈ tables_1
theorem lw_p0 : lw_okq (⟨"HlcStore", "nodeAt", "(I)LHlcStore$Node;"⟩, 6) := ⟨⟨by decide +kernel, by decide +kernel⟩, List.mem_of_getElem? (i := 8) (by decide +kernel), List.mem_of_getElem? (i := 143) (by decide +kernel), List.mem_of_getElem? (i := 144) (by decide +kernel)⟩
theorem lw_p1 : lw_okq (⟨"HlcStore", "runsAhead", "(LHlcStore$Node;I)Z"⟩, 6) := ⟨⟨by decide +kernel, by decide +kernel⟩, List.mem_of_getElem? (i := 8) (by decide +kernel), List.mem_of_getElem? (i := 147) (by decide +kernel), List.mem_of_getElem? (i := 148) (by decide +kernel)⟩
theorem lw_p2 : lw_okq (⟨"HlcStore$Node", "haveEvent", "()V"⟩, 2) := ⟨⟨by decide +kernel, by decide +kernel⟩, List.mem_of_getElem? (i := 17) (by decide +kernel), List.mem_of_getElem? (i := 151) (by decide +kernel), List.mem_of_getElem? (i := 152) (by decide +kernel)⟩
theorem lw_p3 : lw_okq (⟨"HlcStore$Node", "takeIn", "(J)V"⟩, 2) := ⟨⟨by decide +kernel, by decide +kernel⟩, List.mem_of_getElem? (i := 17) (by decide +kernel), List.mem_of_getElem? (i := 155) (by decide +kernel), List.mem_of_getElem? (i := 156) (by decide +kernel)⟩
theorem lw_p4 : lw_okq (⟨"HlcStore", "leastFreeSlot", "()I"⟩, 6) := ⟨⟨by decide +kernel, by decide +kernel⟩, List.mem_of_getElem? (i := 8) (by decide +kernel), List.mem_of_getElem? (i := 176) (by decide +kernel), List.mem_of_getElem? (i := 177) (by decide +kernel)⟩
theorem lw_p5 : lw_okq (⟨"HlcStore$Transaction", "start", "(LHlcStore$Node;I)V"⟩, 9) := ⟨⟨by decide +kernel, by decide +kernel⟩, List.mem_of_getElem? (i := 75) (by decide +kernel), List.mem_of_getElem? (i := 180) (by decide +kernel), List.mem_of_getElem? (i := 181) (by decide +kernel)⟩
theorem lw_p6 : lw_okq (⟨"HlcStore", "transactionAt", "(I)LHlcStore$Transaction;"⟩, 6) := ⟨⟨by decide +kernel, by decide +kernel⟩, List.mem_of_getElem? (i := 8) (by decide +kernel), List.mem_of_getElem? (i := 191) (by decide +kernel), List.mem_of_getElem? (i := 192) (by decide +kernel)⟩
theorem lw_p7 : lw_okq (⟨"HlcStore", "keyAt", "(I)LHlcStore$Key;"⟩, 6) := ⟨⟨by decide +kernel, by decide +kernel⟩, List.mem_of_getElem? (i := 8) (by decide +kernel), List.mem_of_getElem? (i := 195) (by decide +kernel), List.mem_of_getElem? (i := 196) (by decide +kernel)⟩
theorem lw_p8 : lw_okq (⟨"HlcStore$Transaction", "takeStoppingCode", "()I"⟩, 9) := ⟨⟨by decide +kernel, by decide +kernel⟩, List.mem_of_getElem? (i := 75) (by decide +kernel), List.mem_of_getElem? (i := 200) (by decide +kernel), List.mem_of_getElem? (i := 201) (by decide +kernel)⟩
theorem lw_p9 : lw_okq (⟨"HlcStore$Transaction", "codeOfState", "()I"⟩, 9) := ⟨⟨by decide +kernel, by decide +kernel⟩, List.mem_of_getElem? (i := 75) (by decide +kernel), List.mem_of_getElem? (i := 204) (by decide +kernel), List.mem_of_getElem? (i := 205) (by decide +kernel)⟩
theorem lw_p10 : lw_okq (⟨"HlcStore", "readAtOwner", "(LHlcStore$Transaction;LHlcStore$Key;)J"⟩, 6) := ⟨⟨by decide +kernel, by decide +kernel⟩, List.mem_of_getElem? (i := 8) (by decide +kernel), List.mem_of_getElem? (i := 210) (by decide +kernel), List.mem_of_getElem? (i := 211) (by decide +kernel)⟩
theorem lw_p11 : lw_okq (⟨"HlcStore$Transaction", "abortIfSilent", "()V"⟩, 9) := ⟨⟨by decide +kernel, by decide +kernel⟩, List.mem_of_getElem? (i := 75) (by decide +kernel), List.mem_of_getElem? (i := 217) (by decide +kernel), List.mem_of_getElem? (i := 218) (by decide +kernel)⟩
theorem lw_p12 : lw_okq (⟨"HlcStore$Key", "settleIntent", "()V"⟩, 8) := ⟨⟨by decide +kernel, by decide +kernel⟩, List.mem_of_getElem? (i := 35) (by decide +kernel), List.mem_of_getElem? (i := 221) (by decide +kernel), List.mem_of_getElem? (i := 222) (by decide +kernel)⟩
theorem lw_p13 : lw_okq (⟨"HlcStore$Key", "addVersion", "(JI)V"⟩, 8) := ⟨⟨by decide +kernel, by decide +kernel⟩, List.mem_of_getElem? (i := 35) (by decide +kernel), List.mem_of_getElem? (i := 225) (by decide +kernel), List.mem_of_getElem? (i := 226) (by decide +kernel)⟩
theorem lw_p14 : lw_okq (⟨"HlcStore$Transaction", "pushWriteStampAbove", "(J)V"⟩, 9) := ⟨⟨by decide +kernel, by decide +kernel⟩, List.mem_of_getElem? (i := 75) (by decide +kernel), List.mem_of_getElem? (i := 229) (by decide +kernel), List.mem_of_getElem? (i := 230) (by decide +kernel)⟩
theorem lw_p15 : lw_okq (⟨"HlcStore$Key", "greatestStampIn", "(JJ)J"⟩, 8) := ⟨⟨by decide +kernel, by decide +kernel⟩, List.mem_of_getElem? (i := 35) (by decide +kernel), List.mem_of_getElem? (i := 234) (by decide +kernel), List.mem_of_getElem? (i := 235) (by decide +kernel)⟩
def lw_privs_1 : List (MethodName × Nat) := [(⟨"HlcStore", "nodeAt", "(I)LHlcStore$Node;"⟩, 6), (⟨"HlcStore", "runsAhead", "(LHlcStore$Node;I)Z"⟩, 6), (⟨"HlcStore$Node", "haveEvent", "()V"⟩, 2), (⟨"HlcStore$Node", "takeIn", "(J)V"⟩, 2), (⟨"HlcStore", "leastFreeSlot", "()I"⟩, 6), (⟨"HlcStore$Transaction", "start", "(LHlcStore$Node;I)V"⟩, 9), (⟨"HlcStore", "transactionAt", "(I)LHlcStore$Transaction;"⟩, 6), (⟨"HlcStore", "keyAt", "(I)LHlcStore$Key;"⟩, 6), (⟨"HlcStore$Transaction", "takeStoppingCode", "()I"⟩, 9), (⟨"HlcStore$Transaction", "codeOfState", "()I"⟩, 9), (⟨"HlcStore", "readAtOwner", "(LHlcStore$Transaction;LHlcStore$Key;)J"⟩, 6), (⟨"HlcStore$Transaction", "abortIfSilent", "()V"⟩, 9), (⟨"HlcStore$Key", "settleIntent", "()V"⟩, 8), (⟨"HlcStore$Key", "addVersion", "(JI)V"⟩, 8), (⟨"HlcStore$Transaction", "pushWriteStampAbove", "(J)V"⟩, 9), (⟨"HlcStore$Key", "greatestStampIn", "(JJ)J"⟩, 8)]
theorem lw_r1 : ∀ q ∈ lw_privs_1, lw_okq q := List.forall_mem_cons.mpr ⟨lw_p0, List.forall_mem_cons.mpr ⟨lw_p1, List.forall_mem_cons.mpr ⟨lw_p2, List.forall_mem_cons.mpr ⟨lw_p3, List.forall_mem_cons.mpr ⟨lw_p4, List.forall_mem_cons.mpr ⟨lw_p5, List.forall_mem_cons.mpr ⟨lw_p6, List.forall_mem_cons.mpr ⟨lw_p7, List.forall_mem_cons.mpr ⟨lw_p8, List.forall_mem_cons.mpr ⟨lw_p9, List.forall_mem_cons.mpr ⟨lw_p10, List.forall_mem_cons.mpr ⟨lw_p11, List.forall_mem_cons.mpr ⟨lw_p12, List.forall_mem_cons.mpr ⟨lw_p13, List.forall_mem_cons.mpr ⟨lw_p14, List.forall_mem_cons.mpr ⟨lw_p15, fun _ h => absurd h List.not_mem_nil⟩⟩⟩⟩⟩⟩⟩⟩⟩⟩⟩⟩⟩⟩⟩⟩
theorem lw_p16 : lw_okq (⟨"HlcStore$Key", "newestIn", "(JJ)I"⟩, 8) := ⟨⟨by decide +kernel, by decide +kernel⟩, List.mem_of_getElem? (i := 35) (by decide +kernel), List.mem_of_getElem? (i := 238) (by decide +kernel), List.mem_of_getElem? (i := 239) (by decide +kernel)⟩
theorem lw_p17 : lw_okq (⟨"HlcStore", "restart", "(LHlcStore$Transaction;J)V"⟩, 6) := ⟨⟨by decide +kernel, by decide +kernel⟩, List.mem_of_getElem? (i := 8) (by decide +kernel), List.mem_of_getElem? (i := 243) (by decide +kernel), List.mem_of_getElem? (i := 244) (by decide +kernel)⟩
theorem lw_p18 : lw_okq (⟨"HlcStore$Transaction", "moveTo", "(J)V"⟩, 9) := ⟨⟨by decide +kernel, by decide +kernel⟩, List.mem_of_getElem? (i := 75) (by decide +kernel), List.mem_of_getElem? (i := 247) (by decide +kernel), List.mem_of_getElem? (i := 248) (by decide +kernel)⟩
theorem lw_p19 : lw_okq (⟨"HlcStore$Key", "raiseReadMark", "(J)V"⟩, 8) := ⟨⟨by decide +kernel, by decide +kernel⟩, List.mem_of_getElem? (i := 35) (by decide +kernel), List.mem_of_getElem? (i := 252) (by decide +kernel), List.mem_of_getElem? (i := 253) (by decide +kernel)⟩
theorem lw_p20 : lw_okq (⟨"HlcStore$Key", "valueAt", "(J)I"⟩, 8) := ⟨⟨by decide +kernel, by decide +kernel⟩, List.mem_of_getElem? (i := 35) (by decide +kernel), List.mem_of_getElem? (i := 257) (by decide +kernel), List.mem_of_getElem? (i := 258) (by decide +kernel)⟩
theorem lw_p21 : lw_okq (⟨"HlcStore", "writeAtOwner", "(LHlcStore$Transaction;LHlcStore$Key;I)I"⟩, 6) := ⟨⟨by decide +kernel, by decide +kernel⟩, List.mem_of_getElem? (i := 8) (by decide +kernel), List.mem_of_getElem? (i := 265) (by decide +kernel), List.mem_of_getElem? (i := 266) (by decide +kernel)⟩
theorem lw_p22 : lw_okq (⟨"HlcStore", "moveReadsToWriteStamp", "(LHlcStore$Transaction;)Z"⟩, 6) := ⟨⟨by decide +kernel, by decide +kernel⟩, List.mem_of_getElem? (i := 8) (by decide +kernel), List.mem_of_getElem? (i := 274) (by decide +kernel), List.mem_of_getElem? (i := 275) (by decide +kernel)⟩
theorem lw_p23 : lw_okq (⟨"HlcStore", "logCommit", "(J)V"⟩, 6) := ⟨⟨by decide +kernel, by decide +kernel⟩, List.mem_of_getElem? (i := 8) (by decide +kernel), List.mem_of_getElem? (i := 281) (by decide +kernel), List.mem_of_getElem? (i := 282) (by decide +kernel)⟩
theorem lw_p24 : lw_okq (⟨"HlcStoreModel", "event", "(I)V"⟩, 21) := ⟨⟨by decide +kernel, by decide +kernel⟩, List.mem_of_getElem? (i := 314) (by decide +kernel), List.mem_of_getElem? (i := 390) (by decide +kernel), List.mem_of_getElem? (i := 391) (by decide +kernel)⟩
theorem lw_p25 : lw_okq (⟨"HlcStoreModel", "receive", "(IJ)V"⟩, 21) := ⟨⟨by decide +kernel, by decide +kernel⟩, List.mem_of_getElem? (i := 314) (by decide +kernel), List.mem_of_getElem? (i := 394) (by decide +kernel), List.mem_of_getElem? (i := 395) (by decide +kernel)⟩
theorem lw_p26 : lw_okq (⟨"HlcStoreModel", "stopped", "(I)I"⟩, 21) := ⟨⟨by decide +kernel, by decide +kernel⟩, List.mem_of_getElem? (i := 314) (by decide +kernel), List.mem_of_getElem? (i := 421) (by decide +kernel), List.mem_of_getElem? (i := 422) (by decide +kernel)⟩
theorem lw_p27 : lw_okq (⟨"HlcStoreModel", "refused", "(I)I"⟩, 21) := ⟨⟨by decide +kernel, by decide +kernel⟩, List.mem_of_getElem? (i := 314) (by decide +kernel), List.mem_of_getElem? (i := 425) (by decide +kernel), List.mem_of_getElem? (i := 426) (by decide +kernel)⟩
theorem lw_p28 : lw_okq (⟨"HlcStoreModel", "meet", "(I)I"⟩, 21) := ⟨⟨by decide +kernel, by decide +kernel⟩, List.mem_of_getElem? (i := 314) (by decide +kernel), List.mem_of_getElem? (i := 430) (by decide +kernel), List.mem_of_getElem? (i := 431) (by decide +kernel)⟩
theorem lw_p29 : lw_okq (⟨"HlcStoreModel", "settle", "(I)V"⟩, 21) := ⟨⟨by decide +kernel, by decide +kernel⟩, List.mem_of_getElem? (i := 314) (by decide +kernel), List.mem_of_getElem? (i := 434) (by decide +kernel), List.mem_of_getElem? (i := 435) (by decide +kernel)⟩
theorem lw_p30 : lw_okq (⟨"HlcStoreModel", "find", "(IJJ)I"⟩, 21) := ⟨⟨by decide +kernel, by decide +kernel⟩, List.mem_of_getElem? (i := 314) (by decide +kernel), List.mem_of_getElem? (i := 438) (by decide +kernel), List.mem_of_getElem? (i := 439) (by decide +kernel)⟩
theorem lw_p31 : lw_okq (⟨"HlcStoreModel", "restart", "(IJ)V"⟩, 21) := ⟨⟨by decide +kernel, by decide +kernel⟩, List.mem_of_getElem? (i := 314) (by decide +kernel), List.mem_of_getElem? (i := 442) (by decide +kernel), List.mem_of_getElem? (i := 443) (by decide +kernel)⟩
def lw_privs_2 : List (MethodName × Nat) := [(⟨"HlcStore$Key", "newestIn", "(JJ)I"⟩, 8), (⟨"HlcStore", "restart", "(LHlcStore$Transaction;J)V"⟩, 6), (⟨"HlcStore$Transaction", "moveTo", "(J)V"⟩, 9), (⟨"HlcStore$Key", "raiseReadMark", "(J)V"⟩, 8), (⟨"HlcStore$Key", "valueAt", "(J)I"⟩, 8), (⟨"HlcStore", "writeAtOwner", "(LHlcStore$Transaction;LHlcStore$Key;I)I"⟩, 6), (⟨"HlcStore", "moveReadsToWriteStamp", "(LHlcStore$Transaction;)Z"⟩, 6), (⟨"HlcStore", "logCommit", "(J)V"⟩, 6), (⟨"HlcStoreModel", "event", "(I)V"⟩, 21), (⟨"HlcStoreModel", "receive", "(IJ)V"⟩, 21), (⟨"HlcStoreModel", "stopped", "(I)I"⟩, 21), (⟨"HlcStoreModel", "refused", "(I)I"⟩, 21), (⟨"HlcStoreModel", "meet", "(I)I"⟩, 21), (⟨"HlcStoreModel", "settle", "(I)V"⟩, 21), (⟨"HlcStoreModel", "find", "(IJJ)I"⟩, 21), (⟨"HlcStoreModel", "restart", "(IJ)V"⟩, 21)]
theorem lw_r2 : ∀ q ∈ lw_privs_2, lw_okq q := List.forall_mem_cons.mpr ⟨lw_p16, List.forall_mem_cons.mpr ⟨lw_p17, List.forall_mem_cons.mpr ⟨lw_p18, List.forall_mem_cons.mpr ⟨lw_p19, List.forall_mem_cons.mpr ⟨lw_p20, List.forall_mem_cons.mpr ⟨lw_p21, List.forall_mem_cons.mpr ⟨lw_p22, List.forall_mem_cons.mpr ⟨lw_p23, List.forall_mem_cons.mpr ⟨lw_p24, List.forall_mem_cons.mpr ⟨lw_p25, List.forall_mem_cons.mpr ⟨lw_p26, List.forall_mem_cons.mpr ⟨lw_p27, List.forall_mem_cons.mpr ⟨lw_p28, List.forall_mem_cons.mpr ⟨lw_p29, List.forall_mem_cons.mpr ⟨lw_p30, List.forall_mem_cons.mpr ⟨lw_p31, fun _ h => absurd h List.not_mem_nil⟩⟩⟩⟩⟩⟩⟩⟩⟩⟩⟩⟩⟩⟩⟩⟩
def lw_privs : List (MethodName × Nat) := lw_privs_1 ++ (lw_privs_2)
def lw_tbl : List Cond := k2_sels lw_privs ++ tables_1
theorem lw_privs_ok : ∀ q ∈ lw_privs, lw_okq q := by
  show ∀ q ∈ lw_privs_1 ++ (lw_privs_2), lw_okq q
  exact List.forall_mem_append.mpr ⟨lw_r1, lw_r2⟩
end
section
/-! ===== BEGIN words of one list among another's, by their places ===== -/
theorem goodIn_r {big : List Cond} (ws : List Cond) (ps : List Nat) (hp : ws = ps.filterMap (fun i => big[i]?)) (h : ws.all goodWord = true) : GoodIn big ws := by
  intro w hw
  have h1 := List.all_eq_true.mp h w hw
  rw [hp] at hw
  obtain ⟨i, -, hi⟩ := List.mem_filterMap.mp hw
  have hm : w ∈ big := by first | exact List.mem_of_getElem? hi | exact List.getElem?_mem hi
  exact ⟨hm, good_of_word h1⟩
theorem goodIn_app {big a b : List Cond} (ha : GoodIn big a) (hb : GoodIn big b) : GoodIn big (a ++ b) := fun w h => (List.mem_append.mp h).elim (ha w) (hb w)
theorem goodIn_ca {big a b : List Cond} {c : Cond} (ha : GoodIn big (c :: a)) (hb : GoodIn big b) : GoodIn big (c :: (a ++ b)) := fun w h => (List.mem_cons.mp h).elim (fun e => ha w (List.mem_cons.mpr (Or.inl e))) (fun h => (List.mem_append.mp h).elim (fun h => ha w (List.mem_cons.mpr (Or.inr h))) (hb w))
theorem goodIn_sub {big ws : List Cond} (hm : ∀ w ∈ ws, w ∈ big) (h : ws.all goodWord = true) : GoodIn big ws := fun w hw => ⟨hm w hw, good_of_word (List.all_eq_true.mp h w hw)⟩
/-! ===== END ===== -/

/-! ===== BEGIN printed: names, fields, word lists, decode rows ===== -/
def RX0 : String := "HlcStore$Key"
def TX0 : u_T := fun k => match k with
  | 0 => ("HlcStore$Key", "bit", "I", true)
  | 1 => ("HlcStore$Key", "owner", "LHlcStore$Node;", true)
  | 2 => ("HlcStore$Key", "stamps", "[J", true)
  | 3 => ("HlcStore$Key", "values", "[I", true)
  | 4 => ("HlcStore$Key", "count", "I", false)
  | 5 => ("HlcStore$Key", "readMark", "J", false)
  | 6 => ("HlcStore$Key", "holder", "LHlcStore$Transaction;", false)
  | _ => ("HlcStore$Key", "intentValue", "I", false)
def tyX0 : Nat → FieldType := fun k => match k with
  | 0 => .int
  | 1 => .object "HlcStore$Node"
  | 2 => .array .long
  | 3 => .array .int
  | 4 => .int
  | 5 => .long
  | 6 => .object "HlcStore$Transaction"
  | _ => .int
abbrev wsX00 : List Cond := u_ws RX0 TX0 8
theorem nmX0 : ∀ a, a < 8 → ∀ b, b < 8 → a ≠ b → (TX0 a).2.1 ≠ (TX0 b).2.1 := by decide +kernel
theorem tyX0_ok : ∀ k, k < 8 → parseFieldDescriptor (TX0 k).2.2.1 = some (tyX0 k) := by decide +kernel
abbrev cX0_init : ByteArray := prog_2_method_1_code
def yX0_init : MethodName := ⟨RX0, "<init>", "(ILHlcStore$Node;)V"⟩
abbrev cX0_raiseReadMark : ByteArray := prog_2_method_2_code
def yX0_raiseReadMark : MethodName := ⟨RX0, "raiseReadMark", "(J)V"⟩
abbrev cX0_greatestStampIn : ByteArray := prog_2_method_3_code
def yX0_greatestStampIn : MethodName := ⟨RX0, "greatestStampIn", "(JJ)J"⟩
abbrev cX0_valueAt : ByteArray := prog_2_method_4_code
def yX0_valueAt : MethodName := ⟨RX0, "valueAt", "(J)I"⟩
abbrev cX0_newestIn : ByteArray := prog_2_method_5_code
def yX0_newestIn : MethodName := ⟨RX0, "newestIn", "(JJ)I"⟩
abbrev cX0_settleIntent : ByteArray := prog_2_method_6_code
def yX0_settleIntent : MethodName := ⟨RX0, "settleIntent", "()V"⟩
abbrev cX0_addVersion : ByteArray := prog_2_method_7_code
def yX0_addVersion : MethodName := ⟨RX0, "addVersion", "(JI)V"⟩
def RX1 : String := "HlcStore$Node"
def TX1 : u_T := fun k => match k with
  | 0 => ("HlcStore$Node", "reading", "I", false)
  | _ => ("HlcStore$Node", "clock", "J", false)
def tyX1 : Nat → FieldType := fun k => match k with
  | 0 => .int
  | _ => .long
abbrev wsX10 : List Cond := u_ws RX1 TX1 2
theorem nmX1 : ∀ a, a < 2 → ∀ b, b < 2 → a ≠ b → (TX1 a).2.1 ≠ (TX1 b).2.1 := by decide +kernel
theorem tyX1_ok : ∀ k, k < 2 → parseFieldDescriptor (TX1 k).2.2.1 = some (tyX1 k) := by decide +kernel
abbrev cX1_init : ByteArray := prog_3_method_1_code
def yX1_init : MethodName := ⟨RX1, "<init>", "()V"⟩
abbrev cX1_takeIn : ByteArray := prog_3_method_2_code
def yX1_takeIn : MethodName := ⟨RX1, "takeIn", "(J)V"⟩
abbrev cX1_haveEvent : ByteArray := prog_3_method_3_code
def yX1_haveEvent : MethodName := ⟨RX1, "haveEvent", "()V"⟩
def RX2 : String := "HlcStore$Transaction"
def TX2 : u_T := fun k => match k with
  | 0 => ("HlcStore$Transaction", "state", "I", false)
  | 1 => ("HlcStore$Transaction", "gateway", "LHlcStore$Node;", false)
  | 2 => ("HlcStore$Transaction", "lastBeat", "I", false)
  | 3 => ("HlcStore$Transaction", "place", "I", false)
  | 4 => ("HlcStore$Transaction", "readStamp", "J", false)
  | 5 => ("HlcStore$Transaction", "writeStamp", "J", false)
  | 6 => ("HlcStore$Transaction", "limit", "J", false)
  | 7 => ("HlcStore$Transaction", "keysRead", "I", false)
  | _ => ("HlcStore$Transaction", "hurt", "Z", false)
def tyX2 : Nat → FieldType := fun k => match k with
  | 0 => .int
  | 1 => .object "HlcStore$Node"
  | 2 => .int
  | 3 => .int
  | 4 => .long
  | 5 => .long
  | 6 => .long
  | 7 => .int
  | _ => .boolean
abbrev wsX20 : List Cond := u_ws RX2 TX2 9
theorem nmX2 : ∀ a, a < 9 → ∀ b, b < 9 → a ≠ b → (TX2 a).2.1 ≠ (TX2 b).2.1 := by decide +kernel
theorem tyX2_ok : ∀ k, k < 9 → parseFieldDescriptor (TX2 k).2.2.1 = some (tyX2 k) := by decide +kernel
abbrev cX2_init : ByteArray := prog_4_method_1_code
def yX2_init : MethodName := ⟨RX2, "<init>", "(LHlcStore$Node;)V"⟩
abbrev cX2_start : ByteArray := prog_4_method_2_code
def yX2_start : MethodName := ⟨RX2, "start", "(LHlcStore$Node;I)V"⟩
abbrev cX2_codeOfState : ByteArray := prog_4_method_3_code
def yX2_codeOfState : MethodName := ⟨RX2, "codeOfState", "()I"⟩
abbrev cX2_takeStoppingCode : ByteArray := prog_4_method_4_code
def yX2_takeStoppingCode : MethodName := ⟨RX2, "takeStoppingCode", "()I"⟩
abbrev cX2_abortIfSilent : ByteArray := prog_4_method_5_code
def yX2_abortIfSilent : MethodName := ⟨RX2, "abortIfSilent", "()V"⟩
abbrev cX2_pushWriteStampAbove : ByteArray := prog_4_method_6_code
def yX2_pushWriteStampAbove : MethodName := ⟨RX2, "pushWriteStampAbove", "(J)V"⟩
abbrev cX2_moveTo : ByteArray := prog_4_method_7_code
def yX2_moveTo : MethodName := ⟨RX2, "moveTo", "(J)V"⟩
def RX3 : String := "HlcStore"
def TX3 : u_T := fun k => match k with
  | 0 => ("HlcStore", "nodes", "[LHlcStore$Node;", true)
  | 1 => ("HlcStore", "keys", "[LHlcStore$Key;", true)
  | 2 => ("HlcStore", "slots", "[LHlcStore$Transaction;", true)
  | 3 => ("HlcStore", "commitStamps", "[J", true)
  | 4 => ("HlcStore", "commits", "I", false)
  | _ => ("HlcStore", "begins", "I", false)
def tyX3 : Nat → FieldType := fun k => match k with
  | 0 => .array (.object "HlcStore$Node")
  | 1 => .array (.object "HlcStore$Key")
  | 2 => .array (.object "HlcStore$Transaction")
  | 3 => .array .long
  | 4 => .int
  | _ => .int
abbrev wsX30 : List Cond := u_ws RX3 TX3 6
theorem nmX3 : ∀ a, a < 6 → ∀ b, b < 6 → a ≠ b → (TX3 a).2.1 ≠ (TX3 b).2.1 := by decide +kernel
theorem tyX3_ok : ∀ k, k < 6 → parseFieldDescriptor (TX3 k).2.2.1 = some (tyX3 k) := by decide +kernel
abbrev cX3_init : ByteArray := prog_1_method_1_code
def yX3_init : MethodName := ⟨RX3, "<init>", "()V"⟩
abbrev cX3_tick : ByteArray := prog_1_method_2_code
def yX3_tick : MethodName := ⟨RX3, "tick", "(II)I"⟩
abbrev cX3_reading : ByteArray := prog_1_method_3_code
def yX3_reading : MethodName := ⟨RX3, "reading", "(I)I"⟩
abbrev cX3_clock : ByteArray := prog_1_method_4_code
def yX3_clock : MethodName := ⟨RX3, "clock", "(I)J"⟩
abbrev cX3_begin : ByteArray := prog_1_method_5_code
def yX3_begin : MethodName := ⟨RX3, "begin", "(I)I"⟩
abbrev cX3_read : ByteArray := prog_1_method_6_code
def yX3_read : MethodName := ⟨RX3, "read", "(II)J"⟩
abbrev cX3_write : ByteArray := prog_1_method_7_code
def yX3_write : MethodName := ⟨RX3, "write", "(III)I"⟩
abbrev cX3_commit : ByteArray := prog_1_method_8_code
def yX3_commit : MethodName := ⟨RX3, "commit", "(I)I"⟩
abbrev cX3_abort : ByteArray := prog_1_method_9_code
def yX3_abort : MethodName := ⟨RX3, "abort", "(I)I"⟩
abbrev cX3_heartbeat : ByteArray := prog_1_method_10_code
def yX3_heartbeat : MethodName := ⟨RX3, "heartbeat", "(I)I"⟩
abbrev cX3_clean : ByteArray := prog_1_method_11_code
def yX3_clean : MethodName := ⟨RX3, "clean", "(I)I"⟩
abbrev cX3_state : ByteArray := prog_1_method_12_code
def yX3_state : MethodName := ⟨RX3, "state", "(I)I"⟩
abbrev cX3_stamp : ByteArray := prog_1_method_13_code
def yX3_stamp : MethodName := ⟨RX3, "stamp", "(I)J"⟩
abbrev cX3_versions : ByteArray := prog_1_method_14_code
def yX3_versions : MethodName := ⟨RX3, "versions", "(I)I"⟩
abbrev cX3_committed : ByteArray := prog_1_method_15_code
def yX3_committed : MethodName := ⟨RX3, "committed", "(I)J"⟩
abbrev cX3_nodeAt : ByteArray := prog_1_method_16_code
def yX3_nodeAt : MethodName := ⟨RX3, "nodeAt", "(I)LHlcStore$Node;"⟩
abbrev cX3_keyAt : ByteArray := prog_1_method_17_code
def yX3_keyAt : MethodName := ⟨RX3, "keyAt", "(I)LHlcStore$Key;"⟩
abbrev cX3_transactionAt : ByteArray := prog_1_method_18_code
def yX3_transactionAt : MethodName := ⟨RX3, "transactionAt", "(I)LHlcStore$Transaction;"⟩
abbrev cX3_leastFreeSlot : ByteArray := prog_1_method_19_code
def yX3_leastFreeSlot : MethodName := ⟨RX3, "leastFreeSlot", "()I"⟩
abbrev cX3_runsAhead : ByteArray := prog_1_method_20_code
def yX3_runsAhead : MethodName := ⟨RX3, "runsAhead", "(LHlcStore$Node;I)Z"⟩
abbrev cX3_readAtOwner : ByteArray := prog_1_method_21_code
def yX3_readAtOwner : MethodName := ⟨RX3, "readAtOwner", "(LHlcStore$Transaction;LHlcStore$Key;)J"⟩
abbrev cX3_writeAtOwner : ByteArray := prog_1_method_22_code
def yX3_writeAtOwner : MethodName := ⟨RX3, "writeAtOwner", "(LHlcStore$Transaction;LHlcStore$Key;I)I"⟩
abbrev cX3_moveReadsToWriteStamp : ByteArray := prog_1_method_23_code
def yX3_moveReadsToWriteStamp : MethodName := ⟨RX3, "moveReadsToWriteStamp", "(LHlcStore$Transaction;)Z"⟩
abbrev cX3_moveReadToWriteStamp : ByteArray := prog_1_method_24_code
def yX3_moveReadToWriteStamp : MethodName := ⟨RX3, "moveReadToWriteStamp", "(LHlcStore$Transaction;LHlcStore$Key;)Z"⟩
abbrev cX3_lookUp : ByteArray := prog_1_method_25_code
def yX3_lookUp : MethodName := ⟨RX3, "lookUp", "(LHlcStore$Key;LHlcStore$Transaction;)LHlcStore$Transaction;"⟩
abbrev cX3_restart : ByteArray := prog_1_method_26_code
def yX3_restart : MethodName := ⟨RX3, "restart", "(LHlcStore$Transaction;J)V"⟩
abbrev cX3_logCommit : ByteArray := prog_1_method_27_code
def yX3_logCommit : MethodName := ⟨RX3, "logCommit", "(J)V"⟩
def RX4 : String := "HlcStoreModel"
def TX4 : u_T := fun k => match k with
  | 0 => ("HlcStoreModel", "shown", "[I", true)
  | 1 => ("HlcStoreModel", "hlc", "[J", true)
  | 2 => ("HlcStoreModel", "phase", "[I", true)
  | 3 => ("HlcStoreModel", "gate", "[I", true)
  | 4 => ("HlcStoreModel", "beat", "[I", true)
  | 5 => ("HlcStoreModel", "birth", "[J", true)
  | 6 => ("HlcStoreModel", "rts", "[J", true)
  | 7 => ("HlcStoreModel", "wts", "[J", true)
  | 8 => ("HlcStoreModel", "limit", "[J", true)
  | 9 => ("HlcStoreModel", "hurt", "[Z", true)
  | 10 => ("HlcStoreModel", "seen", "[Z", true)
  | 11 => ("HlcStoreModel", "births", "J", false)
  | 12 => ("HlcStoreModel", "commits", "I", false)
  | 13 => ("HlcStoreModel", "commitAt", "[J", true)
  | 14 => ("HlcStoreModel", "lastRead", "[J", true)
  | 15 => ("HlcStoreModel", "holder", "[I", true)
  | 16 => ("HlcStoreModel", "planned", "[I", true)
  | 17 => ("HlcStoreModel", "held", "I", false)
  | 18 => ("HlcStoreModel", "vKey", "[I", true)
  | 19 => ("HlcStoreModel", "vAt", "[J", true)
  | _ => ("HlcStoreModel", "vValue", "[I", true)
def tyX4 : Nat → FieldType := fun k => match k with
  | 0 => .array .int
  | 1 => .array .long
  | 2 => .array .int
  | 3 => .array .int
  | 4 => .array .int
  | 5 => .array .long
  | 6 => .array .long
  | 7 => .array .long
  | 8 => .array .long
  | 9 => .array .boolean
  | 10 => .array .boolean
  | 11 => .long
  | 12 => .int
  | 13 => .array .long
  | 14 => .array .long
  | 15 => .array .int
  | 16 => .array .int
  | 17 => .int
  | 18 => .array .int
  | 19 => .array .long
  | _ => .array .int
abbrev wsX40 : List Cond := u_ws RX4 TX4 21
theorem nmX4 : ∀ a, a < 21 → ∀ b, b < 21 → a ≠ b → (TX4 a).2.1 ≠ (TX4 b).2.1 := by decide +kernel
theorem tyX4_ok : ∀ k, k < 21 → parseFieldDescriptor (TX4 k).2.2.1 = some (tyX4 k) := by decide +kernel
abbrev cX4_init : ByteArray := prog_6_method_1_code
def yX4_init : MethodName := ⟨RX4, "<init>", "()V"⟩
abbrev cX4_receive : ByteArray := prog_6_method_2_code
def yX4_receive : MethodName := ⟨RX4, "receive", "(IJ)V"⟩
abbrev cX4_event : ByteArray := prog_6_method_3_code
def yX4_event : MethodName := ⟨RX4, "event", "(I)V"⟩
abbrev cX4_tick : ByteArray := prog_6_method_4_code
def yX4_tick : MethodName := ⟨RX4, "tick", "(II)I"⟩
abbrev cX4_reading : ByteArray := prog_6_method_5_code
def yX4_reading : MethodName := ⟨RX4, "reading", "(I)I"⟩
abbrev cX4_clock : ByteArray := prog_6_method_6_code
def yX4_clock : MethodName := ⟨RX4, "clock", "(I)J"⟩
abbrev cX4_find : ByteArray := prog_6_method_7_code
def yX4_find : MethodName := ⟨RX4, "find", "(IJJ)I"⟩
abbrev cX4_versions : ByteArray := prog_6_method_8_code
def yX4_versions : MethodName := ⟨RX4, "versions", "(I)I"⟩
abbrev cX4_settle : ByteArray := prog_6_method_9_code
def yX4_settle : MethodName := ⟨RX4, "settle", "(I)V"⟩
abbrev cX4_meet : ByteArray := prog_6_method_10_code
def yX4_meet : MethodName := ⟨RX4, "meet", "(I)I"⟩
abbrev cX4_restart : ByteArray := prog_6_method_11_code
def yX4_restart : MethodName := ⟨RX4, "restart", "(IJ)V"⟩
abbrev cX4_begin : ByteArray := prog_6_method_12_code
def yX4_begin : MethodName := ⟨RX4, "begin", "(I)I"⟩
abbrev cX4_refused : ByteArray := prog_6_method_13_code
def yX4_refused : MethodName := ⟨RX4, "refused", "(I)I"⟩
abbrev cX4_stopped : ByteArray := prog_6_method_14_code
def yX4_stopped : MethodName := ⟨RX4, "stopped", "(I)I"⟩
abbrev cX4_read : ByteArray := prog_6_method_15_code
def yX4_read : MethodName := ⟨RX4, "read", "(II)J"⟩
abbrev cX4_write : ByteArray := prog_6_method_16_code
def yX4_write : MethodName := ⟨RX4, "write", "(III)I"⟩
abbrev cX4_commit : ByteArray := prog_6_method_17_code
def yX4_commit : MethodName := ⟨RX4, "commit", "(I)I"⟩
abbrev cX4_abort : ByteArray := prog_6_method_18_code
def yX4_abort : MethodName := ⟨RX4, "abort", "(I)I"⟩
abbrev cX4_heartbeat : ByteArray := prog_6_method_19_code
def yX4_heartbeat : MethodName := ⟨RX4, "heartbeat", "(I)I"⟩
abbrev cX4_clean : ByteArray := prog_6_method_20_code
def yX4_clean : MethodName := ⟨RX4, "clean", "(I)I"⟩
abbrev cX4_state : ByteArray := prog_6_method_21_code
def yX4_state : MethodName := ⟨RX4, "state", "(I)I"⟩
abbrev cX4_stamp : ByteArray := prog_6_method_22_code
def yX4_stamp : MethodName := ⟨RX4, "stamp", "(I)J"⟩
abbrev cX4_committed : ByteArray := prog_6_method_23_code
def yX4_committed : MethodName := ⟨RX4, "committed", "(I)J"⟩
def RJ9 : String := "java/lang/Math"
def TJ9 : u_T := fun k => match k with
  | _ => ("", "", "", false)
def tyJ9 : Nat → FieldType := fun k => match k with
  | _ => .int
abbrev wsJ90 : List Cond := u_ws RJ9 TJ9 0
theorem nmJ9 : ∀ a, a < 0 → ∀ b, b < 0 → a ≠ b → (TJ9 a).2.1 ≠ (TJ9 b).2.1 := by decide +kernel
theorem tyJ9_ok : ∀ k, k < 0 → parseFieldDescriptor (TJ9 k).2.2.1 = some (tyJ9 k) := by decide +kernel
abbrev cJ9_max_f86c9 : ByteArray := prog_7_method_66_code
def yJ9_max_f86c9 : MethodName := ⟨RJ9, "max", "(JJ)J"⟩
def RL : String := "HlcStoreLaw"
abbrev cL_law : ByteArray := code
def yL_law : MethodName := ⟨RL, "law", "([I)Z"⟩
def wsX0_init : List Cond := .code yX0_init cX0_init 3 none :: ([.methodLink RX0 3 objectInit, .instanceMethod objectInit, .code objectInit ⟨#[0xb1]⟩ 1 none, .fieldLink RX0 9 "HlcStore$Key" "bit" "I", .fieldLink RX0 15 "HlcStore$Key" "owner" "LHlcStore$Node;", .arrayClass .long, .fieldLink RX0 19 "HlcStore$Key" "stamps" "[J", .arrayClass .int, .fieldLink RX0 23 "HlcStore$Key" "values" "[I"] ++ wsX00)
def wsX0_raiseReadMark : List Cond := .code yX0_raiseReadMark cX0_raiseReadMark 3 none :: ([.fieldLink RX0 27 "HlcStore$Key" "readMark" "J", .methodLink RX0 31 Lib.MathLoose.max_long.x, .static Lib.MathLoose.max_long.x, .initialized "java/lang/Math", .code Lib.MathLoose.max_long.x Lib.MathLoose.max_long.code 4 (some .long)] ++ wsX00)
def wsX0_newestIn : List Cond := .code yX0_newestIn cX0_newestIn 9 (some .int) :: ([.fieldLink RX0 43 "HlcStore$Key" "count" "I", .fieldLink RX0 19 "HlcStore$Key" "stamps" "[J"] ++ wsX00)
def wsX0_greatestStampIn : List Cond := .code yX0_greatestStampIn cX0_greatestStampIn 6 (some .long) :: ([.constantLong RX0 41 (-1), .fieldLink RX0 19 "HlcStore$Key" "stamps" "[J", .methodLink RX0 37 yX0_newestIn, .instanceMethod yX0_newestIn, .selects RX0 yX0_newestIn yX0_newestIn, .initialized RX0, .code yX0_newestIn cX0_newestIn 9 (some .int), .fieldLink RX0 43 "HlcStore$Key" "count" "I"] ++ wsX00)
def wsX0_valueAt : List Cond := .code yX0_valueAt cX0_valueAt 4 (some .int) :: ([.constantLong RX0 41 (-1), .fieldLink RX0 23 "HlcStore$Key" "values" "[I", .methodLink RX0 37 yX0_newestIn, .instanceMethod yX0_newestIn, .selects RX0 yX0_newestIn yX0_newestIn, .initialized RX0, .code yX0_newestIn cX0_newestIn 9 (some .int), .fieldLink RX0 43 "HlcStore$Key" "count" "I", .fieldLink RX0 19 "HlcStore$Key" "stamps" "[J"] ++ wsX00)
def wsX0_addVersion : List Cond := .code yX0_addVersion cX0_addVersion 4 none :: ([.fieldLink RX0 43 "HlcStore$Key" "count" "I", .fieldLink RX0 19 "HlcStore$Key" "stamps" "[J", .fieldLink RX0 23 "HlcStore$Key" "values" "[I"] ++ wsX00)
def wsX0_settleIntent : List Cond := .code yX0_settleIntent cX0_settleIntent 1 none :: ([.fieldLink RX0 46 "HlcStore$Key" "holder" "LHlcStore$Transaction;", .fieldLink RX0 58 "HlcStore$Key" "intentValue" "I", .methodLink RX0 61 yX0_addVersion, .instanceMethod yX0_addVersion, .selects RX0 yX0_addVersion yX0_addVersion, .initialized RX0, .code yX0_addVersion cX0_addVersion 4 none, .fieldLink RX0 43 "HlcStore$Key" "count" "I", .fieldLink RX0 19 "HlcStore$Key" "stamps" "[J", .fieldLink RX0 23 "HlcStore$Key" "values" "[I"] ++ wsX00 ++ wsX20)
def wsX1_init : List Cond := .code yX1_init cX1_init 1 none :: ([.methodLink RX1 3 objectInit, .instanceMethod objectInit, .code objectInit ⟨#[0xb1]⟩ 1 none])
def wsX1_takeIn : List Cond := .code yX1_takeIn cX1_takeIn 3 none :: ([.fieldLink RX1 9 "HlcStore$Node" "clock" "J", .methodLink RX1 15 Lib.MathLoose.max_long.x, .static Lib.MathLoose.max_long.x, .initialized "java/lang/Math", .code Lib.MathLoose.max_long.x Lib.MathLoose.max_long.code 4 (some .long), .fieldLink RX1 21 "HlcStore$Node" "reading" "I", .constantLong RX1 25 (1048576)] ++ wsX10)
def wsX1_haveEvent : List Cond := .code yX1_haveEvent cX1_haveEvent 1 none :: ([.fieldLink RX1 9 "HlcStore$Node" "clock" "J", .methodLink RX1 27 yX1_takeIn, .instanceMethod yX1_takeIn, .selects RX1 yX1_takeIn yX1_takeIn, .initialized RX1, .code yX1_takeIn cX1_takeIn 3 none, .methodLink RX1 15 Lib.MathLoose.max_long.x, .static Lib.MathLoose.max_long.x, .initialized "java/lang/Math", .code Lib.MathLoose.max_long.x Lib.MathLoose.max_long.code 4 (some .long), .fieldLink RX1 21 "HlcStore$Node" "reading" "I", .constantLong RX1 25 (1048576)] ++ wsX10)
def wsX2_init : List Cond := .code yX2_init cX2_init 2 none :: ([.methodLink RX2 3 objectInit, .instanceMethod objectInit, .code objectInit ⟨#[0xb1]⟩ 1 none, .fieldLink RX2 9 "HlcStore$Transaction" "gateway" "LHlcStore$Node;"] ++ wsX20)
def wsX2_start : List Cond := .code yX2_start cX2_start 3 none :: ([.fieldLink RX2 15 "HlcStore$Transaction" "state" "I", .fieldLink RX2 9 "HlcStore$Transaction" "gateway" "LHlcStore$Node;", .fieldLink RX2 24 "HlcStore$Transaction" "lastBeat" "I", .fieldLink RX2 27 "HlcStore$Transaction" "place" "I", .fieldLink RX2 34 "HlcStore$Transaction" "readStamp" "J", .fieldLink RX2 37 "HlcStore$Transaction" "writeStamp" "J", .constantLong RX2 40 (1048576), .constantLong RX2 42 (10), .constantLong RX2 44 (1048575), .fieldLink RX2 46 "HlcStore$Transaction" "limit" "J", .fieldLink RX2 49 "HlcStore$Transaction" "keysRead" "I", .fieldLink RX2 52 "HlcStore$Transaction" "hurt" "Z"] ++ wsX20 ++ wsX10)
def wsX2_codeOfState : List Cond := .code yX2_codeOfState cX2_codeOfState 1 (some .int) :: ([.fieldLink RX2 15 "HlcStore$Transaction" "state" "I"] ++ wsX20)
def wsX2_takeStoppingCode : List Cond := .code yX2_takeStoppingCode cX2_takeStoppingCode 2 (some .int) :: ([.fieldLink RX2 52 "HlcStore$Transaction" "hurt" "Z", .methodLink RX2 56 yX2_codeOfState, .instanceMethod yX2_codeOfState, .selects RX2 yX2_codeOfState yX2_codeOfState, .initialized RX2, .code yX2_codeOfState cX2_codeOfState 1 (some .int), .fieldLink RX2 15 "HlcStore$Transaction" "state" "I"] ++ wsX20)
def wsX2_abortIfSilent : List Cond := .code yX2_abortIfSilent cX2_abortIfSilent 1 none :: ([.fieldLink RX2 15 "HlcStore$Transaction" "state" "I", .fieldLink RX2 9 "HlcStore$Transaction" "gateway" "LHlcStore$Node;", .fieldLink RX2 24 "HlcStore$Transaction" "lastBeat" "I"] ++ wsX20 ++ wsX10)
def wsX2_pushWriteStampAbove : List Cond := .code yX2_pushWriteStampAbove cX2_pushWriteStampAbove 3 none :: ([.fieldLink RX2 37 "HlcStore$Transaction" "writeStamp" "J", .methodLink RX2 60 Lib.MathLoose.max_long.x, .static Lib.MathLoose.max_long.x, .initialized "java/lang/Math", .code Lib.MathLoose.max_long.x Lib.MathLoose.max_long.code 4 (some .long)] ++ wsX20)
def wsX2_moveTo : List Cond := .code yX2_moveTo cX2_moveTo 3 none :: ([.fieldLink RX2 49 "HlcStore$Transaction" "keysRead" "I", .fieldLink RX2 37 "HlcStore$Transaction" "writeStamp" "J", .methodLink RX2 60 Lib.MathLoose.max_long.x, .static Lib.MathLoose.max_long.x, .initialized "java/lang/Math", .code Lib.MathLoose.max_long.x Lib.MathLoose.max_long.code 4 (some .long), .fieldLink RX2 34 "HlcStore$Transaction" "readStamp" "J", .fieldLink RX2 46 "HlcStore$Transaction" "limit" "J"] ++ wsX20)
def wsX3_init_r1 : List Cond := [Cond.methodLink RX3 1 objectInit, Cond.instanceMethod objectInit, Cond.code objectInit ⟨#[0xb1]⟩ 1 none, Cond.classLink RX3 9 RX1, Cond.fieldLink RX3 11 "HlcStore" "nodes" "[LHlcStore$Node;", Cond.instantiable RX1 2, Cond.initialized RX1, Cond.classLink RX3 16 RX0, Cond.fieldLink RX3 18 "HlcStore" "keys" "[LHlcStore$Key;", Cond.instantiable RX0 8, Cond.initialized RX0, Cond.classLink RX3 25 RX2, Cond.fieldLink RX3 27 "HlcStore" "slots" "[LHlcStore$Transaction;", Cond.instantiable RX2 9, Cond.initialized RX2, Cond.arrayClass .long, Cond.fieldLink RX3 34 "HlcStore" "commitStamps" "[J", Cond.instanceMethod yX1_init, Cond.code yX1_init cX1_init 1 none, Cond.methodLink RX1 3 objectInit, Cond.instanceMethod yX0_init, Cond.code yX0_init cX0_init 3 none, Cond.methodLink RX0 3 objectInit, Cond.fieldLink RX0 9 "HlcStore$Key" "bit" "I"]
def wsX3_init_r2 : List Cond := [Cond.fieldLink RX0 15 "HlcStore$Key" "owner" "LHlcStore$Node;", Cond.fieldLink RX0 19 "HlcStore$Key" "stamps" "[J", Cond.arrayClass .int, Cond.fieldLink RX0 23 "HlcStore$Key" "values" "[I", Cond.instanceMethod yX2_init, Cond.code yX2_init cX2_init 2 none, Cond.methodLink RX2 3 objectInit, Cond.fieldLink RX2 9 "HlcStore$Transaction" "gateway" "LHlcStore$Node;"]
def wsX3_init : List Cond := .code yX3_init cX3_init 2 none :: ((wsX3_init_r1 ++ wsX3_init_r2) ++ wsX30 ++ wsX10 ++ wsX00 ++ wsX20)
def wsX3_nodeAt : List Cond := .code yX3_nodeAt cX3_nodeAt 2 (some (.object "HlcStore$Node")) :: ([.fieldLink RX3 11 "HlcStore" "nodes" "[LHlcStore$Node;"] ++ wsX30)
def wsX3_runsAhead : List Cond := .code yX3_runsAhead cX3_runsAhead 7 (some .boolean) :: ([.fieldLink RX3 11 "HlcStore" "nodes" "[LHlcStore$Node;"] ++ wsX30 ++ wsX10)
def wsX3_tick_r1 : List Cond := [Cond.methodLink RX3 38 yX3_nodeAt, Cond.instanceMethod yX3_nodeAt, Cond.selects RX3 yX3_nodeAt yX3_nodeAt, Cond.initialized RX3, Cond.code yX3_nodeAt cX3_nodeAt 2 (some (.object "HlcStore$Node")), Cond.fieldLink RX3 11 "HlcStore" "nodes" "[LHlcStore$Node;", Cond.methodLink RX3 46 yX3_runsAhead, Cond.instanceMethod yX3_runsAhead, Cond.selects RX3 yX3_runsAhead yX3_runsAhead, Cond.code yX3_runsAhead cX3_runsAhead 7 (some .boolean), Cond.instanceMethod yX1_haveEvent, Cond.initialized RX1, Cond.selects RX1 yX1_haveEvent yX1_haveEvent, Cond.code yX1_haveEvent cX1_haveEvent 1 none, Cond.fieldLink RX1 9 "HlcStore$Node" "clock" "J", Cond.methodLink RX1 27 yX1_takeIn, Cond.instanceMethod yX1_takeIn, Cond.selects RX1 yX1_takeIn yX1_takeIn, Cond.code yX1_takeIn cX1_takeIn 3 none, Cond.methodLink RX1 15 Lib.MathLoose.max_long.x, Cond.static Lib.MathLoose.max_long.x, Cond.initialized "java/lang/Math", Cond.code Lib.MathLoose.max_long.x Lib.MathLoose.max_long.code 4 (some .long), Cond.fieldLink RX1 21 "HlcStore$Node" "reading" "I"]
def wsX3_tick_r2 : List Cond := [Cond.constantLong RX1 25 (1048576)]
def wsX3_tick : List Cond := .code yX3_tick cX3_tick 4 (some .int) :: ((wsX3_tick_r1 ++ wsX3_tick_r2) ++ wsX10 ++ wsX30)
def wsX3_reading : List Cond := .code yX3_reading cX3_reading 3 (some .int) :: ([.methodLink RX3 38 yX3_nodeAt, .instanceMethod yX3_nodeAt, .selects RX3 yX3_nodeAt yX3_nodeAt, .initialized RX3, .code yX3_nodeAt cX3_nodeAt 2 (some (.object "HlcStore$Node")), .fieldLink RX3 11 "HlcStore" "nodes" "[LHlcStore$Node;"] ++ wsX10 ++ wsX30)
def wsX3_clock : List Cond := .code yX3_clock cX3_clock 3 (some .long) :: ([.constantLong RX3 53 (-1), .methodLink RX3 38 yX3_nodeAt, .instanceMethod yX3_nodeAt, .selects RX3 yX3_nodeAt yX3_nodeAt, .initialized RX3, .code yX3_nodeAt cX3_nodeAt 2 (some (.object "HlcStore$Node")), .fieldLink RX3 11 "HlcStore" "nodes" "[LHlcStore$Node;"] ++ wsX10 ++ wsX30)
def wsX3_leastFreeSlot : List Cond := .code yX3_leastFreeSlot cX3_leastFreeSlot 2 (some .int) :: ([.fieldLink RX3 27 "HlcStore" "slots" "[LHlcStore$Transaction;"] ++ wsX30 ++ wsX20)
def wsX3_begin_r1 : List Cond := [Cond.fieldLink RX3 27 "HlcStore" "slots" "[LHlcStore$Transaction;", Cond.fieldLink RX3 63 "HlcStore" "begins" "I", Cond.methodLink RX3 38 yX3_nodeAt, Cond.instanceMethod yX3_nodeAt, Cond.selects RX3 yX3_nodeAt yX3_nodeAt, Cond.initialized RX3, Cond.code yX3_nodeAt cX3_nodeAt 2 (some (.object "HlcStore$Node")), Cond.fieldLink RX3 11 "HlcStore" "nodes" "[LHlcStore$Node;", Cond.methodLink RX3 59 yX3_leastFreeSlot, Cond.instanceMethod yX3_leastFreeSlot, Cond.selects RX3 yX3_leastFreeSlot yX3_leastFreeSlot, Cond.code yX3_leastFreeSlot cX3_leastFreeSlot 2 (some .int), Cond.instanceMethod yX1_haveEvent, Cond.initialized RX1, Cond.selects RX1 yX1_haveEvent yX1_haveEvent, Cond.code yX1_haveEvent cX1_haveEvent 1 none, Cond.fieldLink RX1 9 "HlcStore$Node" "clock" "J", Cond.methodLink RX1 27 yX1_takeIn, Cond.instanceMethod yX1_takeIn, Cond.selects RX1 yX1_takeIn yX1_takeIn, Cond.code yX1_takeIn cX1_takeIn 3 none, Cond.methodLink RX1 15 Lib.MathLoose.max_long.x, Cond.static Lib.MathLoose.max_long.x, Cond.initialized "java/lang/Math"]
def wsX3_begin_r2 : List Cond := [Cond.code Lib.MathLoose.max_long.x Lib.MathLoose.max_long.code 4 (some .long), Cond.fieldLink RX1 21 "HlcStore$Node" "reading" "I", Cond.constantLong RX1 25 (1048576), Cond.instanceMethod yX2_start, Cond.initialized RX2, Cond.selects RX2 yX2_start yX2_start, Cond.code yX2_start cX2_start 3 none, Cond.fieldLink RX2 15 "HlcStore$Transaction" "state" "I", Cond.fieldLink RX2 9 "HlcStore$Transaction" "gateway" "LHlcStore$Node;", Cond.fieldLink RX2 24 "HlcStore$Transaction" "lastBeat" "I", Cond.fieldLink RX2 27 "HlcStore$Transaction" "place" "I", Cond.fieldLink RX2 34 "HlcStore$Transaction" "readStamp" "J", Cond.fieldLink RX2 37 "HlcStore$Transaction" "writeStamp" "J", Cond.constantLong RX2 40 (1048576), Cond.constantLong RX2 42 (10), Cond.constantLong RX2 44 (1048575), Cond.fieldLink RX2 46 "HlcStore$Transaction" "limit" "J", Cond.fieldLink RX2 49 "HlcStore$Transaction" "keysRead" "I", Cond.fieldLink RX2 52 "HlcStore$Transaction" "hurt" "Z"]
def wsX3_begin : List Cond := .code yX3_begin cX3_begin 4 (some .int) :: ((wsX3_begin_r1 ++ wsX3_begin_r2) ++ wsX30 ++ wsX20 ++ wsX10)
def wsX3_transactionAt : List Cond := .code yX3_transactionAt cX3_transactionAt 2 (some (.object "HlcStore$Transaction")) :: ([.fieldLink RX3 27 "HlcStore" "slots" "[LHlcStore$Transaction;"] ++ wsX30)
def wsX3_keyAt : List Cond := .code yX3_keyAt cX3_keyAt 2 (some (.object "HlcStore$Key")) :: ([.fieldLink RX3 18 "HlcStore" "keys" "[LHlcStore$Key;"] ++ wsX30)
def wsX3_lookUp_r1 : List Cond := [Cond.instanceMethod yX1_takeIn, Cond.initialized RX1, Cond.selects RX1 yX1_takeIn yX1_takeIn, Cond.code yX1_takeIn cX1_takeIn 3 none, Cond.fieldLink RX1 9 "HlcStore$Node" "clock" "J", Cond.methodLink RX1 15 Lib.MathLoose.max_long.x, Cond.static Lib.MathLoose.max_long.x, Cond.initialized "java/lang/Math", Cond.code Lib.MathLoose.max_long.x Lib.MathLoose.max_long.code 4 (some .long), Cond.fieldLink RX1 21 "HlcStore$Node" "reading" "I", Cond.constantLong RX1 25 (1048576), Cond.instanceMethod yX2_abortIfSilent, Cond.initialized RX2, Cond.selects RX2 yX2_abortIfSilent yX2_abortIfSilent, Cond.code yX2_abortIfSilent cX2_abortIfSilent 1 none, Cond.fieldLink RX2 15 "HlcStore$Transaction" "state" "I", Cond.fieldLink RX2 9 "HlcStore$Transaction" "gateway" "LHlcStore$Node;", Cond.fieldLink RX2 24 "HlcStore$Transaction" "lastBeat" "I", Cond.instanceMethod yX0_settleIntent, Cond.initialized RX0, Cond.selects RX0 yX0_settleIntent yX0_settleIntent, Cond.code yX0_settleIntent cX0_settleIntent 1 none, Cond.fieldLink RX0 46 "HlcStore$Key" "holder" "LHlcStore$Transaction;", Cond.fieldLink RX0 58 "HlcStore$Key" "intentValue" "I"]
def wsX3_lookUp_r2 : List Cond := [Cond.methodLink RX0 61 yX0_addVersion, Cond.instanceMethod yX0_addVersion, Cond.selects RX0 yX0_addVersion yX0_addVersion, Cond.code yX0_addVersion cX0_addVersion 4 none, Cond.fieldLink RX0 43 "HlcStore$Key" "count" "I", Cond.fieldLink RX0 19 "HlcStore$Key" "stamps" "[J", Cond.fieldLink RX0 23 "HlcStore$Key" "values" "[I"]
def wsX3_lookUp : List Cond := .code yX3_lookUp cX3_lookUp 3 (some (.object "HlcStore$Transaction")) :: ((wsX3_lookUp_r1 ++ wsX3_lookUp_r2) ++ wsX00 ++ wsX20 ++ wsX10)
def wsX3_restart : List Cond := .code yX3_restart cX3_restart 8 none :: ([.fieldLink RX3 18 "HlcStore" "keys" "[LHlcStore$Key;", .instanceMethod yX2_moveTo, .initialized RX2, .selects RX2 yX2_moveTo yX2_moveTo, .code yX2_moveTo cX2_moveTo 3 none, .fieldLink RX2 49 "HlcStore$Transaction" "keysRead" "I", .fieldLink RX2 37 "HlcStore$Transaction" "writeStamp" "J", .methodLink RX2 60 Lib.MathLoose.max_long.x, .static Lib.MathLoose.max_long.x, .initialized "java/lang/Math", .code Lib.MathLoose.max_long.x Lib.MathLoose.max_long.code 4 (some .long), .fieldLink RX2 34 "HlcStore$Transaction" "readStamp" "J", .fieldLink RX2 46 "HlcStore$Transaction" "limit" "J"] ++ wsX30 ++ wsX00 ++ wsX20)
def wsX3_readAtOwner_r1 : List Cond := [Cond.constantLong RX3 53 (-1), Cond.constantLong RX3 160 (4294967297), Cond.methodLink RX3 146 yX3_lookUp, Cond.static yX3_lookUp, Cond.initialized RX3, Cond.code yX3_lookUp cX3_lookUp 3 (some (.object "HlcStore$Transaction")), Cond.instanceMethod yX1_takeIn, Cond.initialized RX1, Cond.selects RX1 yX1_takeIn yX1_takeIn, Cond.code yX1_takeIn cX1_takeIn 3 none, Cond.fieldLink RX1 9 "HlcStore$Node" "clock" "J", Cond.methodLink RX1 15 Lib.MathLoose.max_long.x, Cond.static Lib.MathLoose.max_long.x, Cond.initialized "java/lang/Math", Cond.code Lib.MathLoose.max_long.x Lib.MathLoose.max_long.code 4 (some .long), Cond.fieldLink RX1 21 "HlcStore$Node" "reading" "I", Cond.constantLong RX1 25 (1048576), Cond.instanceMethod yX2_abortIfSilent, Cond.initialized RX2, Cond.selects RX2 yX2_abortIfSilent yX2_abortIfSilent, Cond.code yX2_abortIfSilent cX2_abortIfSilent 1 none, Cond.fieldLink RX2 15 "HlcStore$Transaction" "state" "I", Cond.fieldLink RX2 9 "HlcStore$Transaction" "gateway" "LHlcStore$Node;", Cond.fieldLink RX2 24 "HlcStore$Transaction" "lastBeat" "I"]
def wsX3_readAtOwner_r2 : List Cond := [Cond.instanceMethod yX0_settleIntent, Cond.initialized RX0, Cond.selects RX0 yX0_settleIntent yX0_settleIntent, Cond.code yX0_settleIntent cX0_settleIntent 1 none, Cond.fieldLink RX0 46 "HlcStore$Key" "holder" "LHlcStore$Transaction;", Cond.fieldLink RX0 58 "HlcStore$Key" "intentValue" "I", Cond.methodLink RX0 61 yX0_addVersion, Cond.instanceMethod yX0_addVersion, Cond.selects RX0 yX0_addVersion yX0_addVersion, Cond.code yX0_addVersion cX0_addVersion 4 none, Cond.fieldLink RX0 43 "HlcStore$Key" "count" "I", Cond.fieldLink RX0 19 "HlcStore$Key" "stamps" "[J", Cond.fieldLink RX0 23 "HlcStore$Key" "values" "[I", Cond.instanceMethod yX2_pushWriteStampAbove, Cond.selects RX2 yX2_pushWriteStampAbove yX2_pushWriteStampAbove, Cond.code yX2_pushWriteStampAbove cX2_pushWriteStampAbove 3 none, Cond.fieldLink RX2 37 "HlcStore$Transaction" "writeStamp" "J", Cond.methodLink RX2 60 Lib.MathLoose.max_long.x, Cond.instanceMethod yX0_greatestStampIn, Cond.selects RX0 yX0_greatestStampIn yX0_greatestStampIn, Cond.code yX0_greatestStampIn cX0_greatestStampIn 6 (some .long), Cond.constantLong RX0 41 (-1), Cond.methodLink RX0 37 yX0_newestIn, Cond.instanceMethod yX0_newestIn]
def wsX3_readAtOwner_r3 : List Cond := [Cond.selects RX0 yX0_newestIn yX0_newestIn, Cond.code yX0_newestIn cX0_newestIn 9 (some .int), Cond.methodLink RX3 114 yX3_restart, Cond.instanceMethod yX3_restart, Cond.selects RX3 yX3_restart yX3_restart, Cond.code yX3_restart cX3_restart 8 none, Cond.fieldLink RX3 18 "HlcStore" "keys" "[LHlcStore$Key;", Cond.instanceMethod yX2_moveTo, Cond.selects RX2 yX2_moveTo yX2_moveTo, Cond.code yX2_moveTo cX2_moveTo 3 none, Cond.fieldLink RX2 49 "HlcStore$Transaction" "keysRead" "I", Cond.fieldLink RX2 34 "HlcStore$Transaction" "readStamp" "J", Cond.fieldLink RX2 46 "HlcStore$Transaction" "limit" "J", Cond.instanceMethod yX0_raiseReadMark, Cond.selects RX0 yX0_raiseReadMark yX0_raiseReadMark, Cond.code yX0_raiseReadMark cX0_raiseReadMark 3 none, Cond.fieldLink RX0 27 "HlcStore$Key" "readMark" "J", Cond.methodLink RX0 31 Lib.MathLoose.max_long.x, Cond.instanceMethod yX0_valueAt, Cond.selects RX0 yX0_valueAt yX0_valueAt, Cond.code yX0_valueAt cX0_valueAt 4 (some .int)]
def wsX3_readAtOwner : List Cond := .code yX3_readAtOwner cX3_readAtOwner 6 (some .long) :: ((wsX3_readAtOwner_r1 ++ (wsX3_readAtOwner_r2 ++ wsX3_readAtOwner_r3)) ++ wsX00 ++ wsX20 ++ wsX10 ++ wsX30)
def wsX3_read_r1 : List Cond := [Cond.constantLong RX3 78 (4294967295), Cond.constantLong RX3 83 (4294967296), Cond.methodLink RX3 70 yX3_transactionAt, Cond.instanceMethod yX3_transactionAt, Cond.selects RX3 yX3_transactionAt yX3_transactionAt, Cond.initialized RX3, Cond.code yX3_transactionAt cX3_transactionAt 2 (some (.object "HlcStore$Transaction")), Cond.fieldLink RX3 27 "HlcStore" "slots" "[LHlcStore$Transaction;", Cond.methodLink RX3 74 yX3_keyAt, Cond.instanceMethod yX3_keyAt, Cond.selects RX3 yX3_keyAt yX3_keyAt, Cond.code yX3_keyAt cX3_keyAt 2 (some (.object "HlcStore$Key")), Cond.fieldLink RX3 18 "HlcStore" "keys" "[LHlcStore$Key;", Cond.instanceMethod yX2_takeStoppingCode, Cond.initialized RX2, Cond.selects RX2 yX2_takeStoppingCode yX2_takeStoppingCode, Cond.code yX2_takeStoppingCode cX2_takeStoppingCode 2 (some .int), Cond.fieldLink RX2 52 "HlcStore$Transaction" "hurt" "Z", Cond.methodLink RX2 56 yX2_codeOfState, Cond.instanceMethod yX2_codeOfState, Cond.selects RX2 yX2_codeOfState yX2_codeOfState, Cond.code yX2_codeOfState cX2_codeOfState 1 (some .int), Cond.fieldLink RX2 15 "HlcStore$Transaction" "state" "I", Cond.instanceMethod yX1_haveEvent]
def wsX3_read_r2 : List Cond := [Cond.initialized RX1, Cond.selects RX1 yX1_haveEvent yX1_haveEvent, Cond.code yX1_haveEvent cX1_haveEvent 1 none, Cond.fieldLink RX1 9 "HlcStore$Node" "clock" "J", Cond.methodLink RX1 27 yX1_takeIn, Cond.instanceMethod yX1_takeIn, Cond.selects RX1 yX1_takeIn yX1_takeIn, Cond.code yX1_takeIn cX1_takeIn 3 none, Cond.methodLink RX1 15 Lib.MathLoose.max_long.x, Cond.static Lib.MathLoose.max_long.x, Cond.initialized "java/lang/Math", Cond.code Lib.MathLoose.max_long.x Lib.MathLoose.max_long.code 4 (some .long), Cond.fieldLink RX1 21 "HlcStore$Node" "reading" "I", Cond.constantLong RX1 25 (1048576), Cond.methodLink RX3 96 yX3_readAtOwner, Cond.instanceMethod yX3_readAtOwner, Cond.selects RX3 yX3_readAtOwner yX3_readAtOwner, Cond.code yX3_readAtOwner cX3_readAtOwner 6 (some .long), Cond.constantLong RX3 53 (-1), Cond.constantLong RX3 160 (4294967297), Cond.methodLink RX3 146 yX3_lookUp, Cond.static yX3_lookUp, Cond.code yX3_lookUp cX3_lookUp 3 (some (.object "HlcStore$Transaction")), Cond.instanceMethod yX2_abortIfSilent]
def wsX3_read_r3 : List Cond := [Cond.selects RX2 yX2_abortIfSilent yX2_abortIfSilent, Cond.code yX2_abortIfSilent cX2_abortIfSilent 1 none, Cond.fieldLink RX2 9 "HlcStore$Transaction" "gateway" "LHlcStore$Node;", Cond.fieldLink RX2 24 "HlcStore$Transaction" "lastBeat" "I", Cond.instanceMethod yX0_settleIntent, Cond.initialized RX0, Cond.selects RX0 yX0_settleIntent yX0_settleIntent, Cond.code yX0_settleIntent cX0_settleIntent 1 none, Cond.fieldLink RX0 46 "HlcStore$Key" "holder" "LHlcStore$Transaction;", Cond.fieldLink RX0 58 "HlcStore$Key" "intentValue" "I", Cond.methodLink RX0 61 yX0_addVersion, Cond.instanceMethod yX0_addVersion, Cond.selects RX0 yX0_addVersion yX0_addVersion, Cond.code yX0_addVersion cX0_addVersion 4 none, Cond.fieldLink RX0 43 "HlcStore$Key" "count" "I", Cond.fieldLink RX0 19 "HlcStore$Key" "stamps" "[J", Cond.fieldLink RX0 23 "HlcStore$Key" "values" "[I", Cond.instanceMethod yX2_pushWriteStampAbove, Cond.selects RX2 yX2_pushWriteStampAbove yX2_pushWriteStampAbove, Cond.code yX2_pushWriteStampAbove cX2_pushWriteStampAbove 3 none, Cond.fieldLink RX2 37 "HlcStore$Transaction" "writeStamp" "J", Cond.methodLink RX2 60 Lib.MathLoose.max_long.x, Cond.instanceMethod yX0_greatestStampIn, Cond.selects RX0 yX0_greatestStampIn yX0_greatestStampIn]
def wsX3_read_r4 : List Cond := [Cond.code yX0_greatestStampIn cX0_greatestStampIn 6 (some .long), Cond.constantLong RX0 41 (-1), Cond.methodLink RX0 37 yX0_newestIn, Cond.instanceMethod yX0_newestIn, Cond.selects RX0 yX0_newestIn yX0_newestIn, Cond.code yX0_newestIn cX0_newestIn 9 (some .int), Cond.methodLink RX3 114 yX3_restart, Cond.instanceMethod yX3_restart, Cond.selects RX3 yX3_restart yX3_restart, Cond.code yX3_restart cX3_restart 8 none, Cond.instanceMethod yX2_moveTo, Cond.selects RX2 yX2_moveTo yX2_moveTo, Cond.code yX2_moveTo cX2_moveTo 3 none, Cond.fieldLink RX2 49 "HlcStore$Transaction" "keysRead" "I", Cond.fieldLink RX2 34 "HlcStore$Transaction" "readStamp" "J", Cond.fieldLink RX2 46 "HlcStore$Transaction" "limit" "J", Cond.instanceMethod yX0_raiseReadMark, Cond.selects RX0 yX0_raiseReadMark yX0_raiseReadMark, Cond.code yX0_raiseReadMark cX0_raiseReadMark 3 none, Cond.fieldLink RX0 27 "HlcStore$Key" "readMark" "J", Cond.methodLink RX0 31 Lib.MathLoose.max_long.x, Cond.instanceMethod yX0_valueAt, Cond.selects RX0 yX0_valueAt yX0_valueAt, Cond.code yX0_valueAt cX0_valueAt 4 (some .int)]
def wsX3_read : List Cond := .code yX3_read cX3_read 8 (some .long) :: ((wsX3_read_r1 ++ (wsX3_read_r2 ++ (wsX3_read_r3 ++ wsX3_read_r4))) ++ wsX20 ++ wsX00 ++ wsX10 ++ wsX30)
def wsX3_writeAtOwner_r1 : List Cond := [Cond.constantLong RX3 53 (-1), Cond.constantLong RX3 187 (9223372036854775807), Cond.methodLink RX3 146 yX3_lookUp, Cond.static yX3_lookUp, Cond.initialized RX3, Cond.code yX3_lookUp cX3_lookUp 3 (some (.object "HlcStore$Transaction")), Cond.instanceMethod yX1_takeIn, Cond.initialized RX1, Cond.selects RX1 yX1_takeIn yX1_takeIn, Cond.code yX1_takeIn cX1_takeIn 3 none, Cond.fieldLink RX1 9 "HlcStore$Node" "clock" "J", Cond.methodLink RX1 15 Lib.MathLoose.max_long.x, Cond.static Lib.MathLoose.max_long.x, Cond.initialized "java/lang/Math", Cond.code Lib.MathLoose.max_long.x Lib.MathLoose.max_long.code 4 (some .long), Cond.fieldLink RX1 21 "HlcStore$Node" "reading" "I", Cond.constantLong RX1 25 (1048576), Cond.instanceMethod yX2_abortIfSilent, Cond.initialized RX2, Cond.selects RX2 yX2_abortIfSilent yX2_abortIfSilent, Cond.code yX2_abortIfSilent cX2_abortIfSilent 1 none, Cond.fieldLink RX2 15 "HlcStore$Transaction" "state" "I", Cond.fieldLink RX2 9 "HlcStore$Transaction" "gateway" "LHlcStore$Node;", Cond.fieldLink RX2 24 "HlcStore$Transaction" "lastBeat" "I"]
def wsX3_writeAtOwner_r2 : List Cond := [Cond.instanceMethod yX0_settleIntent, Cond.initialized RX0, Cond.selects RX0 yX0_settleIntent yX0_settleIntent, Cond.code yX0_settleIntent cX0_settleIntent 1 none, Cond.fieldLink RX0 46 "HlcStore$Key" "holder" "LHlcStore$Transaction;", Cond.fieldLink RX0 58 "HlcStore$Key" "intentValue" "I", Cond.methodLink RX0 61 yX0_addVersion, Cond.instanceMethod yX0_addVersion, Cond.selects RX0 yX0_addVersion yX0_addVersion, Cond.code yX0_addVersion cX0_addVersion 4 none, Cond.fieldLink RX0 43 "HlcStore$Key" "count" "I", Cond.fieldLink RX0 19 "HlcStore$Key" "stamps" "[J", Cond.fieldLink RX0 23 "HlcStore$Key" "values" "[I", Cond.methodLink RX3 114 yX3_restart, Cond.instanceMethod yX3_restart, Cond.selects RX3 yX3_restart yX3_restart, Cond.code yX3_restart cX3_restart 8 none, Cond.fieldLink RX3 18 "HlcStore" "keys" "[LHlcStore$Key;", Cond.instanceMethod yX2_moveTo, Cond.selects RX2 yX2_moveTo yX2_moveTo, Cond.code yX2_moveTo cX2_moveTo 3 none, Cond.fieldLink RX2 49 "HlcStore$Transaction" "keysRead" "I", Cond.fieldLink RX2 37 "HlcStore$Transaction" "writeStamp" "J", Cond.methodLink RX2 60 Lib.MathLoose.max_long.x]
def wsX3_writeAtOwner_r3 : List Cond := [Cond.fieldLink RX2 34 "HlcStore$Transaction" "readStamp" "J", Cond.fieldLink RX2 46 "HlcStore$Transaction" "limit" "J", Cond.instanceMethod yX2_pushWriteStampAbove, Cond.selects RX2 yX2_pushWriteStampAbove yX2_pushWriteStampAbove, Cond.code yX2_pushWriteStampAbove cX2_pushWriteStampAbove 3 none, Cond.instanceMethod yX0_greatestStampIn, Cond.selects RX0 yX0_greatestStampIn yX0_greatestStampIn, Cond.code yX0_greatestStampIn cX0_greatestStampIn 6 (some .long), Cond.constantLong RX0 41 (-1), Cond.methodLink RX0 37 yX0_newestIn, Cond.instanceMethod yX0_newestIn, Cond.selects RX0 yX0_newestIn yX0_newestIn, Cond.code yX0_newestIn cX0_newestIn 9 (some .int)]
def wsX3_writeAtOwner : List Cond := .code yX3_writeAtOwner cX3_writeAtOwner 5 (some .int) :: ((wsX3_writeAtOwner_r1 ++ (wsX3_writeAtOwner_r2 ++ wsX3_writeAtOwner_r3)) ++ wsX00 ++ wsX20 ++ wsX10 ++ wsX30)
def wsX3_write_r1 : List Cond := [Cond.methodLink RX3 70 yX3_transactionAt, Cond.instanceMethod yX3_transactionAt, Cond.selects RX3 yX3_transactionAt yX3_transactionAt, Cond.initialized RX3, Cond.code yX3_transactionAt cX3_transactionAt 2 (some (.object "HlcStore$Transaction")), Cond.fieldLink RX3 27 "HlcStore" "slots" "[LHlcStore$Transaction;", Cond.methodLink RX3 74 yX3_keyAt, Cond.instanceMethod yX3_keyAt, Cond.selects RX3 yX3_keyAt yX3_keyAt, Cond.code yX3_keyAt cX3_keyAt 2 (some (.object "HlcStore$Key")), Cond.fieldLink RX3 18 "HlcStore" "keys" "[LHlcStore$Key;", Cond.instanceMethod yX2_takeStoppingCode, Cond.initialized RX2, Cond.selects RX2 yX2_takeStoppingCode yX2_takeStoppingCode, Cond.code yX2_takeStoppingCode cX2_takeStoppingCode 2 (some .int), Cond.fieldLink RX2 52 "HlcStore$Transaction" "hurt" "Z", Cond.methodLink RX2 56 yX2_codeOfState, Cond.instanceMethod yX2_codeOfState, Cond.selects RX2 yX2_codeOfState yX2_codeOfState, Cond.code yX2_codeOfState cX2_codeOfState 1 (some .int), Cond.fieldLink RX2 15 "HlcStore$Transaction" "state" "I", Cond.instanceMethod yX1_haveEvent, Cond.initialized RX1, Cond.selects RX1 yX1_haveEvent yX1_haveEvent]
def wsX3_write_r2 : List Cond := [Cond.code yX1_haveEvent cX1_haveEvent 1 none, Cond.fieldLink RX1 9 "HlcStore$Node" "clock" "J", Cond.methodLink RX1 27 yX1_takeIn, Cond.instanceMethod yX1_takeIn, Cond.selects RX1 yX1_takeIn yX1_takeIn, Cond.code yX1_takeIn cX1_takeIn 3 none, Cond.methodLink RX1 15 Lib.MathLoose.max_long.x, Cond.static Lib.MathLoose.max_long.x, Cond.initialized "java/lang/Math", Cond.code Lib.MathLoose.max_long.x Lib.MathLoose.max_long.code 4 (some .long), Cond.fieldLink RX1 21 "HlcStore$Node" "reading" "I", Cond.constantLong RX1 25 (1048576), Cond.methodLink RX3 100 yX3_writeAtOwner, Cond.instanceMethod yX3_writeAtOwner, Cond.selects RX3 yX3_writeAtOwner yX3_writeAtOwner, Cond.code yX3_writeAtOwner cX3_writeAtOwner 5 (some .int), Cond.constantLong RX3 53 (-1), Cond.constantLong RX3 187 (9223372036854775807), Cond.methodLink RX3 146 yX3_lookUp, Cond.static yX3_lookUp, Cond.code yX3_lookUp cX3_lookUp 3 (some (.object "HlcStore$Transaction")), Cond.instanceMethod yX2_abortIfSilent, Cond.selects RX2 yX2_abortIfSilent yX2_abortIfSilent, Cond.code yX2_abortIfSilent cX2_abortIfSilent 1 none]
def wsX3_write_r3 : List Cond := [Cond.fieldLink RX2 9 "HlcStore$Transaction" "gateway" "LHlcStore$Node;", Cond.fieldLink RX2 24 "HlcStore$Transaction" "lastBeat" "I", Cond.instanceMethod yX0_settleIntent, Cond.initialized RX0, Cond.selects RX0 yX0_settleIntent yX0_settleIntent, Cond.code yX0_settleIntent cX0_settleIntent 1 none, Cond.fieldLink RX0 46 "HlcStore$Key" "holder" "LHlcStore$Transaction;", Cond.fieldLink RX0 58 "HlcStore$Key" "intentValue" "I", Cond.methodLink RX0 61 yX0_addVersion, Cond.instanceMethod yX0_addVersion, Cond.selects RX0 yX0_addVersion yX0_addVersion, Cond.code yX0_addVersion cX0_addVersion 4 none, Cond.fieldLink RX0 43 "HlcStore$Key" "count" "I", Cond.fieldLink RX0 19 "HlcStore$Key" "stamps" "[J", Cond.fieldLink RX0 23 "HlcStore$Key" "values" "[I", Cond.methodLink RX3 114 yX3_restart, Cond.instanceMethod yX3_restart, Cond.selects RX3 yX3_restart yX3_restart, Cond.code yX3_restart cX3_restart 8 none, Cond.instanceMethod yX2_moveTo, Cond.selects RX2 yX2_moveTo yX2_moveTo, Cond.code yX2_moveTo cX2_moveTo 3 none, Cond.fieldLink RX2 49 "HlcStore$Transaction" "keysRead" "I", Cond.fieldLink RX2 37 "HlcStore$Transaction" "writeStamp" "J"]
def wsX3_write_r4 : List Cond := [Cond.methodLink RX2 60 Lib.MathLoose.max_long.x, Cond.fieldLink RX2 34 "HlcStore$Transaction" "readStamp" "J", Cond.fieldLink RX2 46 "HlcStore$Transaction" "limit" "J", Cond.instanceMethod yX2_pushWriteStampAbove, Cond.selects RX2 yX2_pushWriteStampAbove yX2_pushWriteStampAbove, Cond.code yX2_pushWriteStampAbove cX2_pushWriteStampAbove 3 none, Cond.instanceMethod yX0_greatestStampIn, Cond.selects RX0 yX0_greatestStampIn yX0_greatestStampIn, Cond.code yX0_greatestStampIn cX0_greatestStampIn 6 (some .long), Cond.constantLong RX0 41 (-1), Cond.methodLink RX0 37 yX0_newestIn, Cond.instanceMethod yX0_newestIn, Cond.selects RX0 yX0_newestIn yX0_newestIn, Cond.code yX0_newestIn cX0_newestIn 9 (some .int)]
def wsX3_write : List Cond := .code yX3_write cX3_write 8 (some .int) :: ((wsX3_write_r1 ++ (wsX3_write_r2 ++ (wsX3_write_r3 ++ wsX3_write_r4))) ++ wsX20 ++ wsX00 ++ wsX10 ++ wsX30)
def wsX3_moveReadToWriteStamp_r1 : List Cond := [Cond.constantLong RX3 53 (-1), Cond.instanceMethod yX1_takeIn, Cond.initialized RX1, Cond.selects RX1 yX1_takeIn yX1_takeIn, Cond.code yX1_takeIn cX1_takeIn 3 none, Cond.fieldLink RX1 9 "HlcStore$Node" "clock" "J", Cond.methodLink RX1 15 Lib.MathLoose.max_long.x, Cond.static Lib.MathLoose.max_long.x, Cond.initialized "java/lang/Math", Cond.code Lib.MathLoose.max_long.x Lib.MathLoose.max_long.code 4 (some .long), Cond.fieldLink RX1 21 "HlcStore$Node" "reading" "I", Cond.constantLong RX1 25 (1048576), Cond.methodLink RX3 146 yX3_lookUp, Cond.static yX3_lookUp, Cond.initialized RX3, Cond.code yX3_lookUp cX3_lookUp 3 (some (.object "HlcStore$Transaction")), Cond.instanceMethod yX2_abortIfSilent, Cond.initialized RX2, Cond.selects RX2 yX2_abortIfSilent yX2_abortIfSilent, Cond.code yX2_abortIfSilent cX2_abortIfSilent 1 none, Cond.fieldLink RX2 15 "HlcStore$Transaction" "state" "I", Cond.fieldLink RX2 9 "HlcStore$Transaction" "gateway" "LHlcStore$Node;", Cond.fieldLink RX2 24 "HlcStore$Transaction" "lastBeat" "I", Cond.instanceMethod yX0_settleIntent]
def wsX3_moveReadToWriteStamp_r2 : List Cond := [Cond.initialized RX0, Cond.selects RX0 yX0_settleIntent yX0_settleIntent, Cond.code yX0_settleIntent cX0_settleIntent 1 none, Cond.fieldLink RX0 46 "HlcStore$Key" "holder" "LHlcStore$Transaction;", Cond.fieldLink RX0 58 "HlcStore$Key" "intentValue" "I", Cond.methodLink RX0 61 yX0_addVersion, Cond.instanceMethod yX0_addVersion, Cond.selects RX0 yX0_addVersion yX0_addVersion, Cond.code yX0_addVersion cX0_addVersion 4 none, Cond.fieldLink RX0 43 "HlcStore$Key" "count" "I", Cond.fieldLink RX0 19 "HlcStore$Key" "stamps" "[J", Cond.fieldLink RX0 23 "HlcStore$Key" "values" "[I", Cond.instanceMethod yX2_pushWriteStampAbove, Cond.selects RX2 yX2_pushWriteStampAbove yX2_pushWriteStampAbove, Cond.code yX2_pushWriteStampAbove cX2_pushWriteStampAbove 3 none, Cond.fieldLink RX2 37 "HlcStore$Transaction" "writeStamp" "J", Cond.methodLink RX2 60 Lib.MathLoose.max_long.x, Cond.instanceMethod yX0_greatestStampIn, Cond.selects RX0 yX0_greatestStampIn yX0_greatestStampIn, Cond.code yX0_greatestStampIn cX0_greatestStampIn 6 (some .long), Cond.constantLong RX0 41 (-1), Cond.methodLink RX0 37 yX0_newestIn, Cond.instanceMethod yX0_newestIn, Cond.selects RX0 yX0_newestIn yX0_newestIn]
def wsX3_moveReadToWriteStamp_r3 : List Cond := [Cond.code yX0_newestIn cX0_newestIn 9 (some .int), Cond.instanceMethod yX0_raiseReadMark, Cond.selects RX0 yX0_raiseReadMark yX0_raiseReadMark, Cond.code yX0_raiseReadMark cX0_raiseReadMark 3 none, Cond.fieldLink RX0 27 "HlcStore$Key" "readMark" "J", Cond.methodLink RX0 31 Lib.MathLoose.max_long.x]
def wsX3_moveReadToWriteStamp : List Cond := .code yX3_moveReadToWriteStamp cX3_moveReadToWriteStamp 4 (some .boolean) :: ((wsX3_moveReadToWriteStamp_r1 ++ (wsX3_moveReadToWriteStamp_r2 ++ wsX3_moveReadToWriteStamp_r3)) ++ wsX00 ++ wsX20 ++ wsX10)
def wsX3_moveReadsToWriteStamp_r1 : List Cond := [Cond.fieldLink RX3 18 "HlcStore" "keys" "[LHlcStore$Key;", Cond.methodLink RX3 189 yX3_moveReadToWriteStamp, Cond.static yX3_moveReadToWriteStamp, Cond.initialized RX3, Cond.code yX3_moveReadToWriteStamp cX3_moveReadToWriteStamp 4 (some .boolean), Cond.constantLong RX3 53 (-1), Cond.instanceMethod yX1_takeIn, Cond.initialized RX1, Cond.selects RX1 yX1_takeIn yX1_takeIn, Cond.code yX1_takeIn cX1_takeIn 3 none, Cond.fieldLink RX1 9 "HlcStore$Node" "clock" "J", Cond.methodLink RX1 15 Lib.MathLoose.max_long.x, Cond.static Lib.MathLoose.max_long.x, Cond.initialized "java/lang/Math", Cond.code Lib.MathLoose.max_long.x Lib.MathLoose.max_long.code 4 (some .long), Cond.fieldLink RX1 21 "HlcStore$Node" "reading" "I", Cond.constantLong RX1 25 (1048576), Cond.methodLink RX3 146 yX3_lookUp, Cond.static yX3_lookUp, Cond.code yX3_lookUp cX3_lookUp 3 (some (.object "HlcStore$Transaction")), Cond.instanceMethod yX2_abortIfSilent, Cond.initialized RX2, Cond.selects RX2 yX2_abortIfSilent yX2_abortIfSilent, Cond.code yX2_abortIfSilent cX2_abortIfSilent 1 none]
def wsX3_moveReadsToWriteStamp_r2 : List Cond := [Cond.fieldLink RX2 15 "HlcStore$Transaction" "state" "I", Cond.fieldLink RX2 9 "HlcStore$Transaction" "gateway" "LHlcStore$Node;", Cond.fieldLink RX2 24 "HlcStore$Transaction" "lastBeat" "I", Cond.instanceMethod yX0_settleIntent, Cond.initialized RX0, Cond.selects RX0 yX0_settleIntent yX0_settleIntent, Cond.code yX0_settleIntent cX0_settleIntent 1 none, Cond.fieldLink RX0 46 "HlcStore$Key" "holder" "LHlcStore$Transaction;", Cond.fieldLink RX0 58 "HlcStore$Key" "intentValue" "I", Cond.methodLink RX0 61 yX0_addVersion, Cond.instanceMethod yX0_addVersion, Cond.selects RX0 yX0_addVersion yX0_addVersion, Cond.code yX0_addVersion cX0_addVersion 4 none, Cond.fieldLink RX0 43 "HlcStore$Key" "count" "I", Cond.fieldLink RX0 19 "HlcStore$Key" "stamps" "[J", Cond.fieldLink RX0 23 "HlcStore$Key" "values" "[I", Cond.instanceMethod yX2_pushWriteStampAbove, Cond.selects RX2 yX2_pushWriteStampAbove yX2_pushWriteStampAbove, Cond.code yX2_pushWriteStampAbove cX2_pushWriteStampAbove 3 none, Cond.fieldLink RX2 37 "HlcStore$Transaction" "writeStamp" "J", Cond.methodLink RX2 60 Lib.MathLoose.max_long.x, Cond.instanceMethod yX0_greatestStampIn, Cond.selects RX0 yX0_greatestStampIn yX0_greatestStampIn, Cond.code yX0_greatestStampIn cX0_greatestStampIn 6 (some .long)]
def wsX3_moveReadsToWriteStamp_r3 : List Cond := [Cond.constantLong RX0 41 (-1), Cond.methodLink RX0 37 yX0_newestIn, Cond.instanceMethod yX0_newestIn, Cond.selects RX0 yX0_newestIn yX0_newestIn, Cond.code yX0_newestIn cX0_newestIn 9 (some .int), Cond.instanceMethod yX0_raiseReadMark, Cond.selects RX0 yX0_raiseReadMark yX0_raiseReadMark, Cond.code yX0_raiseReadMark cX0_raiseReadMark 3 none, Cond.fieldLink RX0 27 "HlcStore$Key" "readMark" "J", Cond.methodLink RX0 31 Lib.MathLoose.max_long.x]
def wsX3_moveReadsToWriteStamp : List Cond := .code yX3_moveReadsToWriteStamp cX3_moveReadsToWriteStamp 6 (some .boolean) :: ((wsX3_moveReadsToWriteStamp_r1 ++ (wsX3_moveReadsToWriteStamp_r2 ++ wsX3_moveReadsToWriteStamp_r3)) ++ wsX30 ++ wsX20 ++ wsX00 ++ wsX10)
def wsX3_logCommit : List Cond := .code yX3_logCommit cX3_logCommit 3 none :: ([.fieldLink RX3 140 "HlcStore" "commits" "I", .fieldLink RX3 34 "HlcStore" "commitStamps" "[J"] ++ wsX30)
def wsX3_commit_r1 : List Cond := [Cond.methodLink RX3 70 yX3_transactionAt, Cond.instanceMethod yX3_transactionAt, Cond.selects RX3 yX3_transactionAt yX3_transactionAt, Cond.initialized RX3, Cond.code yX3_transactionAt cX3_transactionAt 2 (some (.object "HlcStore$Transaction")), Cond.fieldLink RX3 27 "HlcStore" "slots" "[LHlcStore$Transaction;", Cond.instanceMethod yX2_takeStoppingCode, Cond.initialized RX2, Cond.selects RX2 yX2_takeStoppingCode yX2_takeStoppingCode, Cond.code yX2_takeStoppingCode cX2_takeStoppingCode 2 (some .int), Cond.fieldLink RX2 52 "HlcStore$Transaction" "hurt" "Z", Cond.methodLink RX2 56 yX2_codeOfState, Cond.instanceMethod yX2_codeOfState, Cond.selects RX2 yX2_codeOfState yX2_codeOfState, Cond.code yX2_codeOfState cX2_codeOfState 1 (some .int), Cond.fieldLink RX2 15 "HlcStore$Transaction" "state" "I", Cond.instanceMethod yX1_haveEvent, Cond.initialized RX1, Cond.selects RX1 yX1_haveEvent yX1_haveEvent, Cond.code yX1_haveEvent cX1_haveEvent 1 none, Cond.fieldLink RX1 9 "HlcStore$Node" "clock" "J", Cond.methodLink RX1 27 yX1_takeIn, Cond.instanceMethod yX1_takeIn, Cond.selects RX1 yX1_takeIn yX1_takeIn]
def wsX3_commit_r2 : List Cond := [Cond.code yX1_takeIn cX1_takeIn 3 none, Cond.methodLink RX1 15 Lib.MathLoose.max_long.x, Cond.static Lib.MathLoose.max_long.x, Cond.initialized "java/lang/Math", Cond.code Lib.MathLoose.max_long.x Lib.MathLoose.max_long.code 4 (some .long), Cond.fieldLink RX1 21 "HlcStore$Node" "reading" "I", Cond.constantLong RX1 25 (1048576), Cond.methodLink RX3 110 yX3_moveReadsToWriteStamp, Cond.instanceMethod yX3_moveReadsToWriteStamp, Cond.selects RX3 yX3_moveReadsToWriteStamp yX3_moveReadsToWriteStamp, Cond.code yX3_moveReadsToWriteStamp cX3_moveReadsToWriteStamp 6 (some .boolean), Cond.fieldLink RX3 18 "HlcStore" "keys" "[LHlcStore$Key;", Cond.methodLink RX3 189 yX3_moveReadToWriteStamp, Cond.static yX3_moveReadToWriteStamp, Cond.code yX3_moveReadToWriteStamp cX3_moveReadToWriteStamp 4 (some .boolean), Cond.constantLong RX3 53 (-1), Cond.methodLink RX3 146 yX3_lookUp, Cond.static yX3_lookUp, Cond.code yX3_lookUp cX3_lookUp 3 (some (.object "HlcStore$Transaction")), Cond.instanceMethod yX2_abortIfSilent, Cond.selects RX2 yX2_abortIfSilent yX2_abortIfSilent, Cond.code yX2_abortIfSilent cX2_abortIfSilent 1 none, Cond.fieldLink RX2 9 "HlcStore$Transaction" "gateway" "LHlcStore$Node;", Cond.fieldLink RX2 24 "HlcStore$Transaction" "lastBeat" "I"]
def wsX3_commit_r3 : List Cond := [Cond.instanceMethod yX0_settleIntent, Cond.initialized RX0, Cond.selects RX0 yX0_settleIntent yX0_settleIntent, Cond.code yX0_settleIntent cX0_settleIntent 1 none, Cond.fieldLink RX0 46 "HlcStore$Key" "holder" "LHlcStore$Transaction;", Cond.fieldLink RX0 58 "HlcStore$Key" "intentValue" "I", Cond.methodLink RX0 61 yX0_addVersion, Cond.instanceMethod yX0_addVersion, Cond.selects RX0 yX0_addVersion yX0_addVersion, Cond.code yX0_addVersion cX0_addVersion 4 none, Cond.fieldLink RX0 43 "HlcStore$Key" "count" "I", Cond.fieldLink RX0 19 "HlcStore$Key" "stamps" "[J", Cond.fieldLink RX0 23 "HlcStore$Key" "values" "[I", Cond.instanceMethod yX2_pushWriteStampAbove, Cond.selects RX2 yX2_pushWriteStampAbove yX2_pushWriteStampAbove, Cond.code yX2_pushWriteStampAbove cX2_pushWriteStampAbove 3 none, Cond.fieldLink RX2 37 "HlcStore$Transaction" "writeStamp" "J", Cond.methodLink RX2 60 Lib.MathLoose.max_long.x, Cond.instanceMethod yX0_greatestStampIn, Cond.selects RX0 yX0_greatestStampIn yX0_greatestStampIn, Cond.code yX0_greatestStampIn cX0_greatestStampIn 6 (some .long), Cond.constantLong RX0 41 (-1), Cond.methodLink RX0 37 yX0_newestIn, Cond.instanceMethod yX0_newestIn]
def wsX3_commit_r4 : List Cond := [Cond.selects RX0 yX0_newestIn yX0_newestIn, Cond.code yX0_newestIn cX0_newestIn 9 (some .int), Cond.instanceMethod yX0_raiseReadMark, Cond.selects RX0 yX0_raiseReadMark yX0_raiseReadMark, Cond.code yX0_raiseReadMark cX0_raiseReadMark 3 none, Cond.fieldLink RX0 27 "HlcStore$Key" "readMark" "J", Cond.methodLink RX0 31 Lib.MathLoose.max_long.x, Cond.methodLink RX3 114 yX3_restart, Cond.instanceMethod yX3_restart, Cond.selects RX3 yX3_restart yX3_restart, Cond.code yX3_restart cX3_restart 8 none, Cond.instanceMethod yX2_moveTo, Cond.selects RX2 yX2_moveTo yX2_moveTo, Cond.code yX2_moveTo cX2_moveTo 3 none, Cond.fieldLink RX2 49 "HlcStore$Transaction" "keysRead" "I", Cond.fieldLink RX2 34 "HlcStore$Transaction" "readStamp" "J", Cond.fieldLink RX2 46 "HlcStore$Transaction" "limit" "J", Cond.methodLink RX3 121 yX3_logCommit, Cond.instanceMethod yX3_logCommit, Cond.selects RX3 yX3_logCommit yX3_logCommit, Cond.code yX3_logCommit cX3_logCommit 3 none, Cond.fieldLink RX3 140 "HlcStore" "commits" "I", Cond.fieldLink RX3 34 "HlcStore" "commitStamps" "[J"]
def wsX3_commit : List Cond := .code yX3_commit cX3_commit 4 (some .int) :: ((wsX3_commit_r1 ++ (wsX3_commit_r2 ++ (wsX3_commit_r3 ++ wsX3_commit_r4))) ++ wsX20 ++ wsX30 ++ wsX10 ++ wsX00)
def wsX3_abort : List Cond := .code yX3_abort cX3_abort 4 (some .int) :: ([.methodLink RX3 70 yX3_transactionAt, .instanceMethod yX3_transactionAt, .selects RX3 yX3_transactionAt yX3_transactionAt, .initialized RX3, .code yX3_transactionAt cX3_transactionAt 2 (some (.object "HlcStore$Transaction")), .fieldLink RX3 27 "HlcStore" "slots" "[LHlcStore$Transaction;", .instanceMethod yX2_codeOfState, .initialized RX2, .selects RX2 yX2_codeOfState yX2_codeOfState, .code yX2_codeOfState cX2_codeOfState 1 (some .int), .fieldLink RX2 15 "HlcStore$Transaction" "state" "I"] ++ wsX20 ++ wsX30)
def wsX3_heartbeat_r1 : List Cond := [Cond.methodLink RX3 70 yX3_transactionAt, Cond.instanceMethod yX3_transactionAt, Cond.selects RX3 yX3_transactionAt yX3_transactionAt, Cond.initialized RX3, Cond.code yX3_transactionAt cX3_transactionAt 2 (some (.object "HlcStore$Transaction")), Cond.fieldLink RX3 27 "HlcStore" "slots" "[LHlcStore$Transaction;", Cond.instanceMethod yX2_codeOfState, Cond.initialized RX2, Cond.selects RX2 yX2_codeOfState yX2_codeOfState, Cond.code yX2_codeOfState cX2_codeOfState 1 (some .int), Cond.fieldLink RX2 15 "HlcStore$Transaction" "state" "I", Cond.instanceMethod yX1_haveEvent, Cond.initialized RX1, Cond.selects RX1 yX1_haveEvent yX1_haveEvent, Cond.code yX1_haveEvent cX1_haveEvent 1 none, Cond.fieldLink RX1 9 "HlcStore$Node" "clock" "J", Cond.methodLink RX1 27 yX1_takeIn, Cond.instanceMethod yX1_takeIn, Cond.selects RX1 yX1_takeIn yX1_takeIn, Cond.code yX1_takeIn cX1_takeIn 3 none, Cond.methodLink RX1 15 Lib.MathLoose.max_long.x, Cond.static Lib.MathLoose.max_long.x, Cond.initialized "java/lang/Math", Cond.code Lib.MathLoose.max_long.x Lib.MathLoose.max_long.code 4 (some .long)]
def wsX3_heartbeat_r2 : List Cond := [Cond.fieldLink RX1 21 "HlcStore$Node" "reading" "I", Cond.constantLong RX1 25 (1048576)]
def wsX3_heartbeat : List Cond := .code yX3_heartbeat cX3_heartbeat 4 (some .int) :: ((wsX3_heartbeat_r1 ++ wsX3_heartbeat_r2) ++ wsX20 ++ wsX10 ++ wsX30)
def wsX3_clean_r1 : List Cond := [Cond.fieldLink RX3 18 "HlcStore" "keys" "[LHlcStore$Key;", Cond.methodLink RX3 70 yX3_transactionAt, Cond.instanceMethod yX3_transactionAt, Cond.selects RX3 yX3_transactionAt yX3_transactionAt, Cond.initialized RX3, Cond.code yX3_transactionAt cX3_transactionAt 2 (some (.object "HlcStore$Transaction")), Cond.fieldLink RX3 27 "HlcStore" "slots" "[LHlcStore$Transaction;", Cond.instanceMethod yX1_takeIn, Cond.initialized RX1, Cond.selects RX1 yX1_takeIn yX1_takeIn, Cond.code yX1_takeIn cX1_takeIn 3 none, Cond.fieldLink RX1 9 "HlcStore$Node" "clock" "J", Cond.methodLink RX1 15 Lib.MathLoose.max_long.x, Cond.static Lib.MathLoose.max_long.x, Cond.initialized "java/lang/Math", Cond.code Lib.MathLoose.max_long.x Lib.MathLoose.max_long.code 4 (some .long), Cond.fieldLink RX1 21 "HlcStore$Node" "reading" "I", Cond.constantLong RX1 25 (1048576), Cond.instanceMethod yX0_settleIntent, Cond.initialized RX0, Cond.selects RX0 yX0_settleIntent yX0_settleIntent, Cond.code yX0_settleIntent cX0_settleIntent 1 none, Cond.fieldLink RX0 46 "HlcStore$Key" "holder" "LHlcStore$Transaction;", Cond.fieldLink RX0 58 "HlcStore$Key" "intentValue" "I"]
def wsX3_clean_r2 : List Cond := [Cond.methodLink RX0 61 yX0_addVersion, Cond.instanceMethod yX0_addVersion, Cond.selects RX0 yX0_addVersion yX0_addVersion, Cond.code yX0_addVersion cX0_addVersion 4 none, Cond.fieldLink RX0 43 "HlcStore$Key" "count" "I", Cond.fieldLink RX0 19 "HlcStore$Key" "stamps" "[J", Cond.fieldLink RX0 23 "HlcStore$Key" "values" "[I"]
def wsX3_clean : List Cond := .code yX3_clean cX3_clean 7 (some .int) :: ((wsX3_clean_r1 ++ wsX3_clean_r2) ++ wsX20 ++ wsX30 ++ wsX00 ++ wsX10)
def wsX3_state : List Cond := .code yX3_state cX3_state 3 (some .int) :: ([.methodLink RX3 70 yX3_transactionAt, .instanceMethod yX3_transactionAt, .selects RX3 yX3_transactionAt yX3_transactionAt, .initialized RX3, .code yX3_transactionAt cX3_transactionAt 2 (some (.object "HlcStore$Transaction")), .fieldLink RX3 27 "HlcStore" "slots" "[LHlcStore$Transaction;"] ++ wsX20 ++ wsX30)
def wsX3_stamp : List Cond := .code yX3_stamp cX3_stamp 3 (some .long) :: ([.constantLong RX3 53 (-1), .methodLink RX3 70 yX3_transactionAt, .instanceMethod yX3_transactionAt, .selects RX3 yX3_transactionAt yX3_transactionAt, .initialized RX3, .code yX3_transactionAt cX3_transactionAt 2 (some (.object "HlcStore$Transaction")), .fieldLink RX3 27 "HlcStore" "slots" "[LHlcStore$Transaction;"] ++ wsX20 ++ wsX30)
def wsX3_versions : List Cond := .code yX3_versions cX3_versions 3 (some .int) :: ([.methodLink RX3 74 yX3_keyAt, .instanceMethod yX3_keyAt, .selects RX3 yX3_keyAt yX3_keyAt, .initialized RX3, .code yX3_keyAt cX3_keyAt 2 (some (.object "HlcStore$Key")), .fieldLink RX3 18 "HlcStore" "keys" "[LHlcStore$Key;"] ++ wsX00 ++ wsX30)
def wsX3_committed : List Cond := .code yX3_committed cX3_committed 2 (some .long) :: ([.fieldLink RX3 140 "HlcStore" "commits" "I", .constantLong RX3 53 (-1), .fieldLink RX3 34 "HlcStore" "commitStamps" "[J"] ++ wsX30)
def wsX4_init : List Cond := .code yX4_init cX4_init 1 none :: ([.methodLink RX4 1 objectInit, .instanceMethod objectInit, .code objectInit ⟨#[0xb1]⟩ 1 none, .arrayClass .int, .fieldLink RX4 7 "HlcStoreModel" "shown" "[I", .arrayClass .long, .fieldLink RX4 13 "HlcStoreModel" "hlc" "[J", .fieldLink RX4 17 "HlcStoreModel" "phase" "[I", .fieldLink RX4 20 "HlcStoreModel" "gate" "[I", .fieldLink RX4 23 "HlcStoreModel" "beat" "[I", .fieldLink RX4 26 "HlcStoreModel" "birth" "[J", .fieldLink RX4 29 "HlcStoreModel" "rts" "[J", .fieldLink RX4 32 "HlcStoreModel" "wts" "[J", .fieldLink RX4 35 "HlcStoreModel" "limit" "[J", .arrayClass .boolean, .fieldLink RX4 38 "HlcStoreModel" "hurt" "[Z", .fieldLink RX4 42 "HlcStoreModel" "seen" "[Z", .fieldLink RX4 45 "HlcStoreModel" "commitAt" "[J", .fieldLink RX4 48 "HlcStoreModel" "lastRead" "[J", .fieldLink RX4 51 "HlcStoreModel" "holder" "[I", .fieldLink RX4 54 "HlcStoreModel" "planned" "[I", .fieldLink RX4 57 "HlcStoreModel" "vKey" "[I", .fieldLink RX4 60 "HlcStoreModel" "vAt" "[J", .fieldLink RX4 63 "HlcStoreModel" "vValue" "[I"] ++ wsX40)
def wsX4_receive : List Cond := .code yX4_receive cX4_receive 8 none :: ([.fieldLink RX4 13 "HlcStoreModel" "hlc" "[J", .fieldLink RX4 7 "HlcStoreModel" "shown" "[I"] ++ wsX40)
def wsX4_event : List Cond := .code yX4_event cX4_event 2 none :: ([.fieldLink RX4 13 "HlcStoreModel" "hlc" "[J", .methodLink RX4 66 yX4_receive, .instanceMethod yX4_receive, .selects RX4 yX4_receive yX4_receive, .initialized RX4, .code yX4_receive cX4_receive 8 none, .fieldLink RX4 7 "HlcStoreModel" "shown" "[I"] ++ wsX40)
def wsX4_tick : List Cond := .code yX4_tick cX4_tick 4 (some .int) :: ([.fieldLink RX4 7 "HlcStoreModel" "shown" "[I", .constantLong RX4 70 (10), .methodLink RX4 72 yX4_event, .instanceMethod yX4_event, .selects RX4 yX4_event yX4_event, .initialized RX4, .code yX4_event cX4_event 2 none, .fieldLink RX4 13 "HlcStoreModel" "hlc" "[J", .methodLink RX4 66 yX4_receive, .instanceMethod yX4_receive, .selects RX4 yX4_receive yX4_receive, .code yX4_receive cX4_receive 8 none] ++ wsX40)
def wsX4_reading : List Cond := .code yX4_reading cX4_reading 2 (some .int) :: ([.fieldLink RX4 7 "HlcStoreModel" "shown" "[I"] ++ wsX40)
def wsX4_clock : List Cond := .code yX4_clock cX4_clock 2 (some .long) :: ([.constantLong RX4 76 (-1), .fieldLink RX4 13 "HlcStoreModel" "hlc" "[J"] ++ wsX40)
def wsX4_find : List Cond := .code yX4_find cX4_find 8 (some .int) :: ([.fieldLink RX4 78 "HlcStoreModel" "held" "I", .fieldLink RX4 57 "HlcStoreModel" "vKey" "[I", .fieldLink RX4 60 "HlcStoreModel" "vAt" "[J"] ++ wsX40)
def wsX4_versions : List Cond := .code yX4_versions cX4_versions 4 (some .int) :: ([.fieldLink RX4 78 "HlcStoreModel" "held" "I", .fieldLink RX4 57 "HlcStoreModel" "vKey" "[I"] ++ wsX40)
def wsX4_settle : List Cond := .code yX4_settle cX4_settle 3 none :: ([.fieldLink RX4 51 "HlcStoreModel" "holder" "[I", .fieldLink RX4 17 "HlcStoreModel" "phase" "[I", .fieldLink RX4 57 "HlcStoreModel" "vKey" "[I", .fieldLink RX4 78 "HlcStoreModel" "held" "I", .fieldLink RX4 60 "HlcStoreModel" "vAt" "[J", .fieldLink RX4 32 "HlcStoreModel" "wts" "[J", .fieldLink RX4 63 "HlcStoreModel" "vValue" "[I", .fieldLink RX4 54 "HlcStoreModel" "planned" "[I"] ++ wsX40)
def wsX4_meet : List Cond := .code yX4_meet cX4_meet 5 (some .int) :: ([.fieldLink RX4 51 "HlcStoreModel" "holder" "[I", .fieldLink RX4 20 "HlcStoreModel" "gate" "[I", .fieldLink RX4 13 "HlcStoreModel" "hlc" "[J", .fieldLink RX4 17 "HlcStoreModel" "phase" "[I", .fieldLink RX4 7 "HlcStoreModel" "shown" "[I", .fieldLink RX4 23 "HlcStoreModel" "beat" "[I", .methodLink RX4 66 yX4_receive, .instanceMethod yX4_receive, .selects RX4 yX4_receive yX4_receive, .initialized RX4, .code yX4_receive cX4_receive 8 none, .methodLink RX4 82 yX4_settle, .instanceMethod yX4_settle, .selects RX4 yX4_settle yX4_settle, .code yX4_settle cX4_settle 3 none, .fieldLink RX4 57 "HlcStoreModel" "vKey" "[I", .fieldLink RX4 78 "HlcStoreModel" "held" "I", .fieldLink RX4 60 "HlcStoreModel" "vAt" "[J", .fieldLink RX4 32 "HlcStoreModel" "wts" "[J", .fieldLink RX4 63 "HlcStoreModel" "vValue" "[I", .fieldLink RX4 54 "HlcStoreModel" "planned" "[I"] ++ wsX40)
def wsX4_restart : List Cond := .code yX4_restart cX4_restart 5 none :: ([.fieldLink RX4 51 "HlcStoreModel" "holder" "[I", .fieldLink RX4 42 "HlcStoreModel" "seen" "[Z", .fieldLink RX4 32 "HlcStoreModel" "wts" "[J", .fieldLink RX4 29 "HlcStoreModel" "rts" "[J", .fieldLink RX4 35 "HlcStoreModel" "limit" "[J"] ++ wsX40)
def wsX4_begin : List Cond := .code yX4_begin cX4_begin 4 (some .int) :: ([.fieldLink RX4 17 "HlcStoreModel" "phase" "[I", .fieldLink RX4 20 "HlcStoreModel" "gate" "[I", .fieldLink RX4 23 "HlcStoreModel" "beat" "[I", .fieldLink RX4 7 "HlcStoreModel" "shown" "[I", .fieldLink RX4 26 "HlcStoreModel" "birth" "[J", .fieldLink RX4 85 "HlcStoreModel" "births" "J", .fieldLink RX4 29 "HlcStoreModel" "rts" "[J", .fieldLink RX4 13 "HlcStoreModel" "hlc" "[J", .fieldLink RX4 32 "HlcStoreModel" "wts" "[J", .fieldLink RX4 35 "HlcStoreModel" "limit" "[J", .constantLong RX4 70 (10), .constantLong RX4 89 (1048575), .fieldLink RX4 38 "HlcStoreModel" "hurt" "[Z", .fieldLink RX4 42 "HlcStoreModel" "seen" "[Z", .methodLink RX4 72 yX4_event, .instanceMethod yX4_event, .selects RX4 yX4_event yX4_event, .initialized RX4, .code yX4_event cX4_event 2 none, .methodLink RX4 66 yX4_receive, .instanceMethod yX4_receive, .selects RX4 yX4_receive yX4_receive, .code yX4_receive cX4_receive 8 none] ++ wsX40)
def wsX4_refused : List Cond := .code yX4_refused cX4_refused 2 (some .int) :: ([.fieldLink RX4 17 "HlcStoreModel" "phase" "[I"] ++ wsX40)
def wsX4_stopped : List Cond := .code yX4_stopped cX4_stopped 3 (some .int) :: ([.fieldLink RX4 38 "HlcStoreModel" "hurt" "[Z", .methodLink RX4 91 yX4_refused, .instanceMethod yX4_refused, .selects RX4 yX4_refused yX4_refused, .initialized RX4, .code yX4_refused cX4_refused 2 (some .int), .fieldLink RX4 17 "HlcStoreModel" "phase" "[I"] ++ wsX40)
def wsX4_read_r1 : List Cond := [Cond.constantLong RX4 95 (4294967295), Cond.constantLong RX4 100 (4294967296), Cond.fieldLink RX4 20 "HlcStoreModel" "gate" "[I", Cond.fieldLink RX4 13 "HlcStoreModel" "hlc" "[J", Cond.fieldLink RX4 51 "HlcStoreModel" "holder" "[I", Cond.fieldLink RX4 54 "HlcStoreModel" "planned" "[I", Cond.fieldLink RX4 32 "HlcStoreModel" "wts" "[J", Cond.fieldLink RX4 29 "HlcStoreModel" "rts" "[J", Cond.fieldLink RX4 35 "HlcStoreModel" "limit" "[J", Cond.fieldLink RX4 60 "HlcStoreModel" "vAt" "[J", Cond.constantLong RX4 112 (4294967297), Cond.fieldLink RX4 48 "HlcStoreModel" "lastRead" "[J", Cond.fieldLink RX4 42 "HlcStoreModel" "seen" "[Z", Cond.fieldLink RX4 63 "HlcStoreModel" "vValue" "[I", Cond.methodLink RX4 97 yX4_stopped, Cond.instanceMethod yX4_stopped, Cond.selects RX4 yX4_stopped yX4_stopped, Cond.initialized RX4, Cond.code yX4_stopped cX4_stopped 3 (some .int), Cond.fieldLink RX4 38 "HlcStoreModel" "hurt" "[Z", Cond.methodLink RX4 91 yX4_refused, Cond.instanceMethod yX4_refused, Cond.selects RX4 yX4_refused yX4_refused, Cond.code yX4_refused cX4_refused 2 (some .int)]
def wsX4_read_r2 : List Cond := [Cond.fieldLink RX4 17 "HlcStoreModel" "phase" "[I", Cond.methodLink RX4 72 yX4_event, Cond.instanceMethod yX4_event, Cond.selects RX4 yX4_event yX4_event, Cond.code yX4_event cX4_event 2 none, Cond.methodLink RX4 66 yX4_receive, Cond.instanceMethod yX4_receive, Cond.selects RX4 yX4_receive yX4_receive, Cond.code yX4_receive cX4_receive 8 none, Cond.fieldLink RX4 7 "HlcStoreModel" "shown" "[I", Cond.methodLink RX4 102 yX4_meet, Cond.instanceMethod yX4_meet, Cond.selects RX4 yX4_meet yX4_meet, Cond.code yX4_meet cX4_meet 5 (some .int), Cond.fieldLink RX4 23 "HlcStoreModel" "beat" "[I", Cond.methodLink RX4 82 yX4_settle, Cond.instanceMethod yX4_settle, Cond.selects RX4 yX4_settle yX4_settle, Cond.code yX4_settle cX4_settle 3 none, Cond.fieldLink RX4 57 "HlcStoreModel" "vKey" "[I", Cond.fieldLink RX4 78 "HlcStoreModel" "held" "I", Cond.methodLink RX4 105 yX4_find, Cond.instanceMethod yX4_find, Cond.selects RX4 yX4_find yX4_find]
def wsX4_read_r3 : List Cond := [Cond.code yX4_find cX4_find 8 (some .int), Cond.methodLink RX4 109 yX4_restart, Cond.instanceMethod yX4_restart, Cond.selects RX4 yX4_restart yX4_restart, Cond.code yX4_restart cX4_restart 5 none]
def wsX4_read : List Cond := .code yX4_read cX4_read 11 (some .long) :: ((wsX4_read_r1 ++ (wsX4_read_r2 ++ wsX4_read_r3)) ++ wsX40)
def wsX4_write_r1 : List Cond := [Cond.fieldLink RX4 20 "HlcStoreModel" "gate" "[I", Cond.fieldLink RX4 13 "HlcStoreModel" "hlc" "[J", Cond.fieldLink RX4 51 "HlcStoreModel" "holder" "[I", Cond.fieldLink RX4 54 "HlcStoreModel" "planned" "[I", Cond.fieldLink RX4 26 "HlcStoreModel" "birth" "[J", Cond.fieldLink RX4 38 "HlcStoreModel" "hurt" "[Z", Cond.fieldLink RX4 48 "HlcStoreModel" "lastRead" "[J", Cond.constantLong RX4 117 (9223372036854775807), Cond.fieldLink RX4 60 "HlcStoreModel" "vAt" "[J", Cond.fieldLink RX4 32 "HlcStoreModel" "wts" "[J", Cond.methodLink RX4 97 yX4_stopped, Cond.instanceMethod yX4_stopped, Cond.selects RX4 yX4_stopped yX4_stopped, Cond.initialized RX4, Cond.code yX4_stopped cX4_stopped 3 (some .int), Cond.methodLink RX4 91 yX4_refused, Cond.instanceMethod yX4_refused, Cond.selects RX4 yX4_refused yX4_refused, Cond.code yX4_refused cX4_refused 2 (some .int), Cond.fieldLink RX4 17 "HlcStoreModel" "phase" "[I", Cond.methodLink RX4 72 yX4_event, Cond.instanceMethod yX4_event, Cond.selects RX4 yX4_event yX4_event, Cond.code yX4_event cX4_event 2 none]
def wsX4_write_r2 : List Cond := [Cond.methodLink RX4 66 yX4_receive, Cond.instanceMethod yX4_receive, Cond.selects RX4 yX4_receive yX4_receive, Cond.code yX4_receive cX4_receive 8 none, Cond.fieldLink RX4 7 "HlcStoreModel" "shown" "[I", Cond.methodLink RX4 102 yX4_meet, Cond.instanceMethod yX4_meet, Cond.selects RX4 yX4_meet yX4_meet, Cond.code yX4_meet cX4_meet 5 (some .int), Cond.fieldLink RX4 23 "HlcStoreModel" "beat" "[I", Cond.methodLink RX4 82 yX4_settle, Cond.instanceMethod yX4_settle, Cond.selects RX4 yX4_settle yX4_settle, Cond.code yX4_settle cX4_settle 3 none, Cond.fieldLink RX4 57 "HlcStoreModel" "vKey" "[I", Cond.fieldLink RX4 78 "HlcStoreModel" "held" "I", Cond.fieldLink RX4 63 "HlcStoreModel" "vValue" "[I", Cond.methodLink RX4 109 yX4_restart, Cond.instanceMethod yX4_restart, Cond.selects RX4 yX4_restart yX4_restart, Cond.code yX4_restart cX4_restart 5 none, Cond.fieldLink RX4 42 "HlcStoreModel" "seen" "[Z", Cond.fieldLink RX4 29 "HlcStoreModel" "rts" "[J", Cond.fieldLink RX4 35 "HlcStoreModel" "limit" "[J"]
def wsX4_write_r3 : List Cond := [Cond.methodLink RX4 114 yX4_versions, Cond.instanceMethod yX4_versions, Cond.selects RX4 yX4_versions yX4_versions, Cond.code yX4_versions cX4_versions 4 (some .int), Cond.methodLink RX4 105 yX4_find, Cond.instanceMethod yX4_find, Cond.selects RX4 yX4_find yX4_find, Cond.code yX4_find cX4_find 8 (some .int)]
def wsX4_write : List Cond := .code yX4_write cX4_write 12 (some .int) :: ((wsX4_write_r1 ++ (wsX4_write_r2 ++ wsX4_write_r3)) ++ wsX40)
def wsX4_commit_r1 : List Cond := [Cond.fieldLink RX4 20 "HlcStoreModel" "gate" "[I", Cond.fieldLink RX4 32 "HlcStoreModel" "wts" "[J", Cond.fieldLink RX4 29 "HlcStoreModel" "rts" "[J", Cond.fieldLink RX4 42 "HlcStoreModel" "seen" "[Z", Cond.fieldLink RX4 13 "HlcStoreModel" "hlc" "[J", Cond.fieldLink RX4 51 "HlcStoreModel" "holder" "[I", Cond.fieldLink RX4 48 "HlcStoreModel" "lastRead" "[J", Cond.fieldLink RX4 17 "HlcStoreModel" "phase" "[I", Cond.fieldLink RX4 45 "HlcStoreModel" "commitAt" "[J", Cond.fieldLink RX4 119 "HlcStoreModel" "commits" "I", Cond.methodLink RX4 97 yX4_stopped, Cond.instanceMethod yX4_stopped, Cond.selects RX4 yX4_stopped yX4_stopped, Cond.initialized RX4, Cond.code yX4_stopped cX4_stopped 3 (some .int), Cond.fieldLink RX4 38 "HlcStoreModel" "hurt" "[Z", Cond.methodLink RX4 91 yX4_refused, Cond.instanceMethod yX4_refused, Cond.selects RX4 yX4_refused yX4_refused, Cond.code yX4_refused cX4_refused 2 (some .int), Cond.methodLink RX4 72 yX4_event, Cond.instanceMethod yX4_event, Cond.selects RX4 yX4_event yX4_event, Cond.code yX4_event cX4_event 2 none]
def wsX4_commit_r2 : List Cond := [Cond.methodLink RX4 66 yX4_receive, Cond.instanceMethod yX4_receive, Cond.selects RX4 yX4_receive yX4_receive, Cond.code yX4_receive cX4_receive 8 none, Cond.fieldLink RX4 7 "HlcStoreModel" "shown" "[I", Cond.methodLink RX4 102 yX4_meet, Cond.instanceMethod yX4_meet, Cond.selects RX4 yX4_meet yX4_meet, Cond.code yX4_meet cX4_meet 5 (some .int), Cond.fieldLink RX4 23 "HlcStoreModel" "beat" "[I", Cond.methodLink RX4 82 yX4_settle, Cond.instanceMethod yX4_settle, Cond.selects RX4 yX4_settle yX4_settle, Cond.code yX4_settle cX4_settle 3 none, Cond.fieldLink RX4 57 "HlcStoreModel" "vKey" "[I", Cond.fieldLink RX4 78 "HlcStoreModel" "held" "I", Cond.fieldLink RX4 60 "HlcStoreModel" "vAt" "[J", Cond.fieldLink RX4 63 "HlcStoreModel" "vValue" "[I", Cond.fieldLink RX4 54 "HlcStoreModel" "planned" "[I", Cond.methodLink RX4 105 yX4_find, Cond.instanceMethod yX4_find, Cond.selects RX4 yX4_find yX4_find, Cond.code yX4_find cX4_find 8 (some .int), Cond.methodLink RX4 109 yX4_restart]
def wsX4_commit_r3 : List Cond := [Cond.instanceMethod yX4_restart, Cond.selects RX4 yX4_restart yX4_restart, Cond.code yX4_restart cX4_restart 5 none, Cond.fieldLink RX4 35 "HlcStoreModel" "limit" "[J"]
def wsX4_commit : List Cond := .code yX4_commit cX4_commit 7 (some .int) :: ((wsX4_commit_r1 ++ (wsX4_commit_r2 ++ wsX4_commit_r3)) ++ wsX40)
def wsX4_abort : List Cond := .code yX4_abort cX4_abort 3 (some .int) :: ([.fieldLink RX4 17 "HlcStoreModel" "phase" "[I", .methodLink RX4 91 yX4_refused, .instanceMethod yX4_refused, .selects RX4 yX4_refused yX4_refused, .initialized RX4, .code yX4_refused cX4_refused 2 (some .int)] ++ wsX40)
def wsX4_heartbeat : List Cond := .code yX4_heartbeat cX4_heartbeat 3 (some .int) :: ([.fieldLink RX4 20 "HlcStoreModel" "gate" "[I", .fieldLink RX4 23 "HlcStoreModel" "beat" "[I", .fieldLink RX4 7 "HlcStoreModel" "shown" "[I", .methodLink RX4 91 yX4_refused, .instanceMethod yX4_refused, .selects RX4 yX4_refused yX4_refused, .initialized RX4, .code yX4_refused cX4_refused 2 (some .int), .fieldLink RX4 17 "HlcStoreModel" "phase" "[I", .methodLink RX4 72 yX4_event, .instanceMethod yX4_event, .selects RX4 yX4_event yX4_event, .code yX4_event cX4_event 2 none, .fieldLink RX4 13 "HlcStoreModel" "hlc" "[J", .methodLink RX4 66 yX4_receive, .instanceMethod yX4_receive, .selects RX4 yX4_receive yX4_receive, .code yX4_receive cX4_receive 8 none] ++ wsX40)
def wsX4_clean : List Cond := .code yX4_clean cX4_clean 3 (some .int) :: ([.fieldLink RX4 17 "HlcStoreModel" "phase" "[I", .fieldLink RX4 51 "HlcStoreModel" "holder" "[I", .fieldLink RX4 13 "HlcStoreModel" "hlc" "[J", .fieldLink RX4 20 "HlcStoreModel" "gate" "[I", .methodLink RX4 66 yX4_receive, .instanceMethod yX4_receive, .selects RX4 yX4_receive yX4_receive, .initialized RX4, .code yX4_receive cX4_receive 8 none, .fieldLink RX4 7 "HlcStoreModel" "shown" "[I", .methodLink RX4 82 yX4_settle, .instanceMethod yX4_settle, .selects RX4 yX4_settle yX4_settle, .code yX4_settle cX4_settle 3 none, .fieldLink RX4 57 "HlcStoreModel" "vKey" "[I", .fieldLink RX4 78 "HlcStoreModel" "held" "I", .fieldLink RX4 60 "HlcStoreModel" "vAt" "[J", .fieldLink RX4 32 "HlcStoreModel" "wts" "[J", .fieldLink RX4 63 "HlcStoreModel" "vValue" "[I", .fieldLink RX4 54 "HlcStoreModel" "planned" "[I"] ++ wsX40)
def wsX4_state : List Cond := .code yX4_state cX4_state 2 (some .int) :: ([.fieldLink RX4 17 "HlcStoreModel" "phase" "[I"] ++ wsX40)
def wsX4_stamp : List Cond := .code yX4_stamp cX4_stamp 2 (some .long) :: ([.fieldLink RX4 17 "HlcStoreModel" "phase" "[I", .constantLong RX4 76 (-1), .fieldLink RX4 29 "HlcStoreModel" "rts" "[J"] ++ wsX40)
def wsX4_committed : List Cond := .code yX4_committed cX4_committed 2 (some .long) :: ([.fieldLink RX4 119 "HlcStoreModel" "commits" "I", .constantLong RX4 76 (-1), .fieldLink RX4 45 "HlcStoreModel" "commitAt" "[J"] ++ wsX40)
def wsJ9_max_f86c9 : List Cond := .code yJ9_max_f86c9 cJ9_max_f86c9 4 (some .long) :: ([])
def wsL_law_r1 : List Cond := [Cond.classLink RL 7 RX3, Cond.instantiable RX3 6, Cond.initialized RX3, Cond.classLink RL 10 RX4, Cond.instantiable RX4 21, Cond.initialized RX4, Cond.methodLink RL 9 yX3_init, Cond.instanceMethod yX3_init, Cond.code yX3_init cX3_init 2 none, Cond.methodLink RX3 1 objectInit, Cond.instanceMethod objectInit, Cond.code objectInit ⟨#[0xb1]⟩ 1 none, Cond.classLink RX3 9 RX1, Cond.fieldLink RX3 11 "HlcStore" "nodes" "[LHlcStore$Node;", Cond.instantiable RX1 2, Cond.initialized RX1, Cond.classLink RX3 16 RX0, Cond.fieldLink RX3 18 "HlcStore" "keys" "[LHlcStore$Key;", Cond.instantiable RX0 8, Cond.initialized RX0, Cond.classLink RX3 25 RX2, Cond.fieldLink RX3 27 "HlcStore" "slots" "[LHlcStore$Transaction;", Cond.instantiable RX2 9, Cond.initialized RX2]
def wsL_law_r2 : List Cond := [Cond.arrayClass .long, Cond.fieldLink RX3 34 "HlcStore" "commitStamps" "[J", Cond.instanceMethod yX1_init, Cond.code yX1_init cX1_init 1 none, Cond.methodLink RX1 3 objectInit, Cond.instanceMethod yX0_init, Cond.code yX0_init cX0_init 3 none, Cond.methodLink RX0 3 objectInit, Cond.fieldLink RX0 9 "HlcStore$Key" "bit" "I", Cond.fieldLink RX0 15 "HlcStore$Key" "owner" "LHlcStore$Node;", Cond.fieldLink RX0 19 "HlcStore$Key" "stamps" "[J", Cond.arrayClass .int, Cond.fieldLink RX0 23 "HlcStore$Key" "values" "[I", Cond.instanceMethod yX2_init, Cond.code yX2_init cX2_init 2 none, Cond.methodLink RX2 3 objectInit, Cond.fieldLink RX2 9 "HlcStore$Transaction" "gateway" "LHlcStore$Node;", Cond.methodLink RL 12 yX4_init, Cond.instanceMethod yX4_init, Cond.code yX4_init cX4_init 1 none, Cond.methodLink RX4 1 objectInit, Cond.fieldLink RX4 7 "HlcStoreModel" "shown" "[I", Cond.fieldLink RX4 13 "HlcStoreModel" "hlc" "[J", Cond.fieldLink RX4 17 "HlcStoreModel" "phase" "[I"]
def wsL_law_r3 : List Cond := [Cond.fieldLink RX4 20 "HlcStoreModel" "gate" "[I", Cond.fieldLink RX4 23 "HlcStoreModel" "beat" "[I", Cond.fieldLink RX4 26 "HlcStoreModel" "birth" "[J", Cond.fieldLink RX4 29 "HlcStoreModel" "rts" "[J", Cond.fieldLink RX4 32 "HlcStoreModel" "wts" "[J", Cond.fieldLink RX4 35 "HlcStoreModel" "limit" "[J", Cond.arrayClass .boolean, Cond.fieldLink RX4 38 "HlcStoreModel" "hurt" "[Z", Cond.fieldLink RX4 42 "HlcStoreModel" "seen" "[Z", Cond.fieldLink RX4 45 "HlcStoreModel" "commitAt" "[J", Cond.fieldLink RX4 48 "HlcStoreModel" "lastRead" "[J", Cond.fieldLink RX4 51 "HlcStoreModel" "holder" "[I", Cond.fieldLink RX4 54 "HlcStoreModel" "planned" "[I", Cond.fieldLink RX4 57 "HlcStoreModel" "vKey" "[I", Cond.fieldLink RX4 60 "HlcStoreModel" "vAt" "[J", Cond.fieldLink RX4 63 "HlcStoreModel" "vValue" "[I", Cond.methodLink RL 13 yX3_tick, Cond.instanceMethod yX3_tick, Cond.selects RX3 yX3_tick yX3_tick, Cond.code yX3_tick cX3_tick 4 (some .int), Cond.methodLink RX3 38 yX3_nodeAt, Cond.instanceMethod yX3_nodeAt, Cond.selects RX3 yX3_nodeAt yX3_nodeAt, Cond.code yX3_nodeAt cX3_nodeAt 2 (some (.object "HlcStore$Node"))]
def wsL_law_r4 : List Cond := [Cond.methodLink RX3 46 yX3_runsAhead, Cond.instanceMethod yX3_runsAhead, Cond.selects RX3 yX3_runsAhead yX3_runsAhead, Cond.code yX3_runsAhead cX3_runsAhead 7 (some .boolean), Cond.instanceMethod yX1_haveEvent, Cond.selects RX1 yX1_haveEvent yX1_haveEvent, Cond.code yX1_haveEvent cX1_haveEvent 1 none, Cond.fieldLink RX1 9 "HlcStore$Node" "clock" "J", Cond.methodLink RX1 27 yX1_takeIn, Cond.instanceMethod yX1_takeIn, Cond.selects RX1 yX1_takeIn yX1_takeIn, Cond.code yX1_takeIn cX1_takeIn 3 none, Cond.methodLink RX1 15 Lib.MathLoose.max_long.x, Cond.static Lib.MathLoose.max_long.x, Cond.initialized "java/lang/Math", Cond.code Lib.MathLoose.max_long.x Lib.MathLoose.max_long.code 4 (some .long), Cond.fieldLink RX1 21 "HlcStore$Node" "reading" "I", Cond.constantLong RX1 25 (1048576), Cond.methodLink RL 17 yX4_tick, Cond.instanceMethod yX4_tick, Cond.selects RX4 yX4_tick yX4_tick, Cond.code yX4_tick cX4_tick 4 (some .int), Cond.constantLong RX4 70 (10), Cond.methodLink RX4 72 yX4_event]
def wsL_law_r5 : List Cond := [Cond.instanceMethod yX4_event, Cond.selects RX4 yX4_event yX4_event, Cond.code yX4_event cX4_event 2 none, Cond.methodLink RX4 66 yX4_receive, Cond.instanceMethod yX4_receive, Cond.selects RX4 yX4_receive yX4_receive, Cond.code yX4_receive cX4_receive 8 none, Cond.methodLink RL 18 yX3_reading, Cond.instanceMethod yX3_reading, Cond.selects RX3 yX3_reading yX3_reading, Cond.code yX3_reading cX3_reading 3 (some .int), Cond.methodLink RL 22 yX4_reading, Cond.instanceMethod yX4_reading, Cond.selects RX4 yX4_reading yX4_reading, Cond.code yX4_reading cX4_reading 2 (some .int), Cond.methodLink RL 23 yX3_clock, Cond.instanceMethod yX3_clock, Cond.selects RX3 yX3_clock yX3_clock, Cond.code yX3_clock cX3_clock 3 (some .long), Cond.constantLong RX3 53 (-1), Cond.methodLink RL 27 yX4_clock, Cond.instanceMethod yX4_clock, Cond.selects RX4 yX4_clock yX4_clock, Cond.code yX4_clock cX4_clock 2 (some .long)]
def wsL_law_r6 : List Cond := [Cond.constantLong RX4 76 (-1), Cond.methodLink RL 28 yX3_begin, Cond.instanceMethod yX3_begin, Cond.selects RX3 yX3_begin yX3_begin, Cond.code yX3_begin cX3_begin 4 (some .int), Cond.fieldLink RX3 63 "HlcStore" "begins" "I", Cond.methodLink RX3 59 yX3_leastFreeSlot, Cond.instanceMethod yX3_leastFreeSlot, Cond.selects RX3 yX3_leastFreeSlot yX3_leastFreeSlot, Cond.code yX3_leastFreeSlot cX3_leastFreeSlot 2 (some .int), Cond.instanceMethod yX2_start, Cond.selects RX2 yX2_start yX2_start, Cond.code yX2_start cX2_start 3 none, Cond.fieldLink RX2 15 "HlcStore$Transaction" "state" "I", Cond.fieldLink RX2 24 "HlcStore$Transaction" "lastBeat" "I", Cond.fieldLink RX2 27 "HlcStore$Transaction" "place" "I", Cond.fieldLink RX2 34 "HlcStore$Transaction" "readStamp" "J", Cond.fieldLink RX2 37 "HlcStore$Transaction" "writeStamp" "J", Cond.constantLong RX2 40 (1048576), Cond.constantLong RX2 42 (10), Cond.constantLong RX2 44 (1048575), Cond.fieldLink RX2 46 "HlcStore$Transaction" "limit" "J", Cond.fieldLink RX2 49 "HlcStore$Transaction" "keysRead" "I", Cond.fieldLink RX2 52 "HlcStore$Transaction" "hurt" "Z"]
def wsL_law_r7 : List Cond := [Cond.methodLink RL 31 yX4_begin, Cond.instanceMethod yX4_begin, Cond.selects RX4 yX4_begin yX4_begin, Cond.code yX4_begin cX4_begin 4 (some .int), Cond.fieldLink RX4 85 "HlcStoreModel" "births" "J", Cond.constantLong RX4 89 (1048575), Cond.methodLink RL 32 yX3_read, Cond.instanceMethod yX3_read, Cond.selects RX3 yX3_read yX3_read, Cond.code yX3_read cX3_read 8 (some .long), Cond.constantLong RX3 78 (4294967295), Cond.constantLong RX3 83 (4294967296), Cond.methodLink RX3 70 yX3_transactionAt, Cond.instanceMethod yX3_transactionAt, Cond.selects RX3 yX3_transactionAt yX3_transactionAt, Cond.code yX3_transactionAt cX3_transactionAt 2 (some (.object "HlcStore$Transaction")), Cond.methodLink RX3 74 yX3_keyAt, Cond.instanceMethod yX3_keyAt, Cond.selects RX3 yX3_keyAt yX3_keyAt, Cond.code yX3_keyAt cX3_keyAt 2 (some (.object "HlcStore$Key")), Cond.instanceMethod yX2_takeStoppingCode, Cond.selects RX2 yX2_takeStoppingCode yX2_takeStoppingCode, Cond.code yX2_takeStoppingCode cX2_takeStoppingCode 2 (some .int), Cond.methodLink RX2 56 yX2_codeOfState]
def wsL_law_r8 : List Cond := [Cond.instanceMethod yX2_codeOfState, Cond.selects RX2 yX2_codeOfState yX2_codeOfState, Cond.code yX2_codeOfState cX2_codeOfState 1 (some .int), Cond.methodLink RX3 96 yX3_readAtOwner, Cond.instanceMethod yX3_readAtOwner, Cond.selects RX3 yX3_readAtOwner yX3_readAtOwner, Cond.code yX3_readAtOwner cX3_readAtOwner 6 (some .long), Cond.constantLong RX3 160 (4294967297), Cond.methodLink RX3 146 yX3_lookUp, Cond.static yX3_lookUp, Cond.code yX3_lookUp cX3_lookUp 3 (some (.object "HlcStore$Transaction")), Cond.instanceMethod yX2_abortIfSilent, Cond.selects RX2 yX2_abortIfSilent yX2_abortIfSilent, Cond.code yX2_abortIfSilent cX2_abortIfSilent 1 none, Cond.instanceMethod yX0_settleIntent, Cond.selects RX0 yX0_settleIntent yX0_settleIntent, Cond.code yX0_settleIntent cX0_settleIntent 1 none, Cond.fieldLink RX0 46 "HlcStore$Key" "holder" "LHlcStore$Transaction;", Cond.fieldLink RX0 58 "HlcStore$Key" "intentValue" "I", Cond.methodLink RX0 61 yX0_addVersion, Cond.instanceMethod yX0_addVersion, Cond.selects RX0 yX0_addVersion yX0_addVersion, Cond.code yX0_addVersion cX0_addVersion 4 none, Cond.fieldLink RX0 43 "HlcStore$Key" "count" "I"]
def wsL_law_r9 : List Cond := [Cond.instanceMethod yX2_pushWriteStampAbove, Cond.selects RX2 yX2_pushWriteStampAbove yX2_pushWriteStampAbove, Cond.code yX2_pushWriteStampAbove cX2_pushWriteStampAbove 3 none, Cond.methodLink RX2 60 Lib.MathLoose.max_long.x, Cond.instanceMethod yX0_greatestStampIn, Cond.selects RX0 yX0_greatestStampIn yX0_greatestStampIn, Cond.code yX0_greatestStampIn cX0_greatestStampIn 6 (some .long), Cond.constantLong RX0 41 (-1), Cond.methodLink RX0 37 yX0_newestIn, Cond.instanceMethod yX0_newestIn, Cond.selects RX0 yX0_newestIn yX0_newestIn, Cond.code yX0_newestIn cX0_newestIn 9 (some .int), Cond.methodLink RX3 114 yX3_restart, Cond.instanceMethod yX3_restart, Cond.selects RX3 yX3_restart yX3_restart, Cond.code yX3_restart cX3_restart 8 none, Cond.instanceMethod yX2_moveTo, Cond.selects RX2 yX2_moveTo yX2_moveTo, Cond.code yX2_moveTo cX2_moveTo 3 none, Cond.instanceMethod yX0_raiseReadMark, Cond.selects RX0 yX0_raiseReadMark yX0_raiseReadMark, Cond.code yX0_raiseReadMark cX0_raiseReadMark 3 none, Cond.fieldLink RX0 27 "HlcStore$Key" "readMark" "J", Cond.methodLink RX0 31 Lib.MathLoose.max_long.x]
def wsL_law_r10 : List Cond := [Cond.instanceMethod yX0_valueAt, Cond.selects RX0 yX0_valueAt yX0_valueAt, Cond.code yX0_valueAt cX0_valueAt 4 (some .int), Cond.methodLink RL 36 yX4_read, Cond.instanceMethod yX4_read, Cond.selects RX4 yX4_read yX4_read, Cond.code yX4_read cX4_read 11 (some .long), Cond.constantLong RX4 95 (4294967295), Cond.constantLong RX4 100 (4294967296), Cond.constantLong RX4 112 (4294967297), Cond.methodLink RX4 97 yX4_stopped, Cond.instanceMethod yX4_stopped, Cond.selects RX4 yX4_stopped yX4_stopped, Cond.code yX4_stopped cX4_stopped 3 (some .int), Cond.methodLink RX4 91 yX4_refused, Cond.instanceMethod yX4_refused, Cond.selects RX4 yX4_refused yX4_refused, Cond.code yX4_refused cX4_refused 2 (some .int), Cond.methodLink RX4 102 yX4_meet, Cond.instanceMethod yX4_meet, Cond.selects RX4 yX4_meet yX4_meet, Cond.code yX4_meet cX4_meet 5 (some .int), Cond.methodLink RX4 82 yX4_settle, Cond.instanceMethod yX4_settle]
def wsL_law_r11 : List Cond := [Cond.selects RX4 yX4_settle yX4_settle, Cond.code yX4_settle cX4_settle 3 none, Cond.fieldLink RX4 78 "HlcStoreModel" "held" "I", Cond.methodLink RX4 105 yX4_find, Cond.instanceMethod yX4_find, Cond.selects RX4 yX4_find yX4_find, Cond.code yX4_find cX4_find 8 (some .int), Cond.methodLink RX4 109 yX4_restart, Cond.instanceMethod yX4_restart, Cond.selects RX4 yX4_restart yX4_restart, Cond.code yX4_restart cX4_restart 5 none, Cond.methodLink RL 37 yX3_write, Cond.instanceMethod yX3_write, Cond.selects RX3 yX3_write yX3_write, Cond.code yX3_write cX3_write 8 (some .int), Cond.methodLink RX3 100 yX3_writeAtOwner, Cond.instanceMethod yX3_writeAtOwner, Cond.selects RX3 yX3_writeAtOwner yX3_writeAtOwner, Cond.code yX3_writeAtOwner cX3_writeAtOwner 5 (some .int), Cond.constantLong RX3 187 (9223372036854775807), Cond.methodLink RL 41 yX4_write, Cond.instanceMethod yX4_write, Cond.selects RX4 yX4_write yX4_write, Cond.code yX4_write cX4_write 12 (some .int)]
def wsL_law_r12 : List Cond := [Cond.constantLong RX4 117 (9223372036854775807), Cond.methodLink RX4 114 yX4_versions, Cond.instanceMethod yX4_versions, Cond.selects RX4 yX4_versions yX4_versions, Cond.code yX4_versions cX4_versions 4 (some .int), Cond.methodLink RL 42 yX3_commit, Cond.instanceMethod yX3_commit, Cond.selects RX3 yX3_commit yX3_commit, Cond.code yX3_commit cX3_commit 4 (some .int), Cond.methodLink RX3 110 yX3_moveReadsToWriteStamp, Cond.instanceMethod yX3_moveReadsToWriteStamp, Cond.selects RX3 yX3_moveReadsToWriteStamp yX3_moveReadsToWriteStamp, Cond.code yX3_moveReadsToWriteStamp cX3_moveReadsToWriteStamp 6 (some .boolean), Cond.methodLink RX3 189 yX3_moveReadToWriteStamp, Cond.static yX3_moveReadToWriteStamp, Cond.code yX3_moveReadToWriteStamp cX3_moveReadToWriteStamp 4 (some .boolean), Cond.methodLink RX3 121 yX3_logCommit, Cond.instanceMethod yX3_logCommit, Cond.selects RX3 yX3_logCommit yX3_logCommit, Cond.code yX3_logCommit cX3_logCommit 3 none, Cond.fieldLink RX3 140 "HlcStore" "commits" "I", Cond.methodLink RL 45 yX4_commit, Cond.instanceMethod yX4_commit, Cond.selects RX4 yX4_commit yX4_commit]
def wsL_law_r13 : List Cond := [Cond.code yX4_commit cX4_commit 7 (some .int), Cond.fieldLink RX4 119 "HlcStoreModel" "commits" "I", Cond.methodLink RL 46 yX3_abort, Cond.instanceMethod yX3_abort, Cond.selects RX3 yX3_abort yX3_abort, Cond.code yX3_abort cX3_abort 4 (some .int), Cond.methodLink RL 49 yX4_abort, Cond.instanceMethod yX4_abort, Cond.selects RX4 yX4_abort yX4_abort, Cond.code yX4_abort cX4_abort 3 (some .int), Cond.methodLink RL 50 yX3_heartbeat, Cond.instanceMethod yX3_heartbeat, Cond.selects RX3 yX3_heartbeat yX3_heartbeat, Cond.code yX3_heartbeat cX3_heartbeat 4 (some .int), Cond.methodLink RL 53 yX4_heartbeat, Cond.instanceMethod yX4_heartbeat, Cond.selects RX4 yX4_heartbeat yX4_heartbeat, Cond.code yX4_heartbeat cX4_heartbeat 3 (some .int), Cond.methodLink RL 54 yX3_clean, Cond.instanceMethod yX3_clean, Cond.selects RX3 yX3_clean yX3_clean, Cond.code yX3_clean cX3_clean 7 (some .int), Cond.methodLink RL 57 yX4_clean, Cond.instanceMethod yX4_clean]
def wsL_law_r14 : List Cond := [Cond.selects RX4 yX4_clean yX4_clean, Cond.code yX4_clean cX4_clean 3 (some .int), Cond.methodLink RL 58 yX3_state, Cond.instanceMethod yX3_state, Cond.selects RX3 yX3_state yX3_state, Cond.code yX3_state cX3_state 3 (some .int), Cond.methodLink RL 61 yX4_state, Cond.instanceMethod yX4_state, Cond.selects RX4 yX4_state yX4_state, Cond.code yX4_state cX4_state 2 (some .int), Cond.methodLink RL 62 yX3_stamp, Cond.instanceMethod yX3_stamp, Cond.selects RX3 yX3_stamp yX3_stamp, Cond.code yX3_stamp cX3_stamp 3 (some .long), Cond.methodLink RL 65 yX4_stamp, Cond.instanceMethod yX4_stamp, Cond.selects RX4 yX4_stamp yX4_stamp, Cond.code yX4_stamp cX4_stamp 2 (some .long), Cond.methodLink RL 66 yX3_versions, Cond.instanceMethod yX3_versions, Cond.selects RX3 yX3_versions yX3_versions, Cond.code yX3_versions cX3_versions 3 (some .int), Cond.methodLink RL 69 yX4_versions, Cond.methodLink RL 70 yX3_committed]
def wsL_law_r15 : List Cond := [Cond.instanceMethod yX3_committed, Cond.selects RX3 yX3_committed yX3_committed, Cond.code yX3_committed cX3_committed 2 (some .long), Cond.methodLink RL 73 yX4_committed, Cond.instanceMethod yX4_committed, Cond.selects RX4 yX4_committed yX4_committed, Cond.code yX4_committed cX4_committed 2 (some .long)]
def wsL_law : List Cond := (wsL_law_r1 ++ (wsL_law_r2 ++ (wsL_law_r3 ++ (wsL_law_r4 ++ (wsL_law_r5 ++ (wsL_law_r6 ++ (wsL_law_r7 ++ (wsL_law_r8 ++ (wsL_law_r9 ++ (wsL_law_r10 ++ (wsL_law_r11 ++ (wsL_law_r12 ++ (wsL_law_r13 ++ (wsL_law_r14 ++ wsL_law_r15)))))))))))))) ++ wsX30 ++ wsX40 ++ wsX10 ++ wsX00 ++ wsX20 ++ ([] : List Cond)
set_option maxRecDepth 20000 in
theorem inlX0 : ∀ w ∈ wsX00, w ∈ wsL_law := fun _ h => List.mem_append_left _ (List.mem_append_left _ (List.mem_append_right _ h))
theorem inlX1 : ∀ w ∈ wsX10, w ∈ wsL_law := fun _ h => List.mem_append_left _ (List.mem_append_left _ (List.mem_append_left _ (List.mem_append_right _ h)))
theorem inlX2 : ∀ w ∈ wsX20, w ∈ wsL_law := fun _ h => List.mem_append_left _ (List.mem_append_right _ h)
theorem inlX3 : ∀ w ∈ wsX30, w ∈ wsL_law := fun _ h => List.mem_append_left _ (List.mem_append_left _ (List.mem_append_left _ (List.mem_append_left _ (List.mem_append_left _ (List.mem_append_right _ h)))))
theorem inlX4 : ∀ w ∈ wsX40, w ∈ wsL_law := fun _ h => List.mem_append_left _ (List.mem_append_left _ (List.mem_append_left _ (List.mem_append_left _ (List.mem_append_right _ h))))
theorem inJ9 : ∀ w ∈ wsJ90, w ∈ lw_tbl := by decide +kernel
theorem dX0_init_0 : decode cX0_init 0 = .ok (.aload_n 0, 1) := by decide +kernel
theorem dX0_init_1 : decode cX0_init 1 = .ok (.invokespecial 3, 3) := by decide +kernel
theorem dX0_init_4 : decode cX0_init 4 = .ok (.aload_n 0, 1) := by decide +kernel
theorem dX0_init_5 : decode cX0_init 5 = .ok (.iload_n 1, 1) := by decide +kernel
theorem dX0_init_6 : decode cX0_init 6 = .ok (.putfield 9, 3) := by decide +kernel
theorem dX0_init_9 : decode cX0_init 9 = .ok (.aload_n 0, 1) := by decide +kernel
theorem dX0_init_10 : decode cX0_init 10 = .ok (.aload_n 2, 1) := by decide +kernel
theorem dX0_init_11 : decode cX0_init 11 = .ok (.putfield 15, 3) := by decide +kernel
theorem dX0_init_14 : decode cX0_init 14 = .ok (.aload_n 0, 1) := by decide +kernel
theorem dX0_init_15 : decode cX0_init 15 = .ok (.bipush 16, 2) := by decide +kernel
theorem dX0_init_17 : decode cX0_init 17 = .ok (.newarray .long, 2) := by decide +kernel
theorem dX0_init_19 : decode cX0_init 19 = .ok (.putfield 19, 3) := by decide +kernel
theorem dX0_init_22 : decode cX0_init 22 = .ok (.aload_n 0, 1) := by decide +kernel
theorem dX0_init_23 : decode cX0_init 23 = .ok (.bipush 16, 2) := by decide +kernel
theorem dX0_init_25 : decode cX0_init 25 = .ok (.newarray .int, 2) := by decide +kernel
theorem dX0_init_27 : decode cX0_init 27 = .ok (.putfield 23, 3) := by decide +kernel
theorem dX0_init_30 : decode cX0_init 30 = .ok (.return_, 1) := by decide +kernel
theorem dX0_raiseReadMark_0 : decode cX0_raiseReadMark 0 = .ok (.aload_n 0, 1) := by decide +kernel
theorem dX0_raiseReadMark_1 : decode cX0_raiseReadMark 1 = .ok (.aload_n 0, 1) := by decide +kernel
theorem dX0_raiseReadMark_2 : decode cX0_raiseReadMark 2 = .ok (.getfield 27, 3) := by decide +kernel
theorem dX0_raiseReadMark_5 : decode cX0_raiseReadMark 5 = .ok (.lload_n 1, 1) := by decide +kernel
theorem dX0_raiseReadMark_6 : decode cX0_raiseReadMark 6 = .ok (.invokestatic 31, 3) := by decide +kernel
theorem dX0_raiseReadMark_9 : decode cX0_raiseReadMark 9 = .ok (.putfield 27, 3) := by decide +kernel
theorem dX0_raiseReadMark_12 : decode cX0_raiseReadMark 12 = .ok (.return_, 1) := by decide +kernel
set_option maxRecDepth 20000 in
theorem ggX0_greatestStampIn_X0_newestIn : GoodIn wsX0_greatestStampIn wsX0_newestIn := goodIn_r _ [7, 8, 2, 9, 10, 11, 12, 13, 14, 15, 16] (by decide +kernel) (by decide +kernel)
set_option maxRecDepth 20000 in
theorem gX0_greatestStampIn_X0_newestIn : GoodIn wsX0_greatestStampIn (wsV RX0 37 RX0 yX0_newestIn wsX0_newestIn) := goodIn_app (goodIn_of _ (by decide +kernel)) ggX0_greatestStampIn_X0_newestIn
theorem dX0_greatestStampIn_0 : decode cX0_greatestStampIn 0 = .ok (.aload_n 0, 1) := by decide +kernel
theorem dX0_greatestStampIn_1 : decode cX0_greatestStampIn 1 = .ok (.lload_n 1, 1) := by decide +kernel
theorem dX0_greatestStampIn_2 : decode cX0_greatestStampIn 2 = .ok (.lload_n 3, 1) := by decide +kernel
theorem dX0_greatestStampIn_3 : decode cX0_greatestStampIn 3 = .ok (.invokevirtual 37, 3) := by decide +kernel
theorem dX0_greatestStampIn_6 : decode cX0_greatestStampIn 6 = .ok (.istore 5, 2) := by decide +kernel
theorem dX0_greatestStampIn_8 : decode cX0_greatestStampIn 8 = .ok (.iload 5, 2) := by decide +kernel
theorem dX0_greatestStampIn_10 : decode cX0_greatestStampIn 10 = .ok (.iconst (-1), 1) := by decide +kernel
theorem dX0_greatestStampIn_11 : decode cX0_greatestStampIn 11 = .ok (.if_icmp .ne 9, 3) := by decide +kernel
theorem dX0_greatestStampIn_14 : decode cX0_greatestStampIn 14 = .ok (.ldc2_w 41, 3) := by decide +kernel
theorem dX0_greatestStampIn_17 : decode cX0_greatestStampIn 17 = .ok (.goto 10, 3) := by decide +kernel
theorem dX0_greatestStampIn_20 : decode cX0_greatestStampIn 20 = .ok (.aload_n 0, 1) := by decide +kernel
theorem dX0_greatestStampIn_21 : decode cX0_greatestStampIn 21 = .ok (.getfield 19, 3) := by decide +kernel
theorem dX0_greatestStampIn_24 : decode cX0_greatestStampIn 24 = .ok (.iload 5, 2) := by decide +kernel
theorem dX0_greatestStampIn_26 : decode cX0_greatestStampIn 26 = .ok (.laload, 1) := by decide +kernel
theorem dX0_greatestStampIn_27 : decode cX0_greatestStampIn 27 = .ok (.lreturn, 1) := by decide +kernel
set_option maxRecDepth 20000 in
theorem ggX0_valueAt_X0_newestIn : GoodIn wsX0_valueAt wsX0_newestIn := goodIn_r _ [7, 8, 9, 10, 11, 12, 13, 14, 15, 16, 17] (by decide +kernel) (by decide +kernel)
set_option maxRecDepth 20000 in
theorem gX0_valueAt_X0_newestIn : GoodIn wsX0_valueAt (wsV RX0 37 RX0 yX0_newestIn wsX0_newestIn) := goodIn_app (goodIn_of _ (by decide +kernel)) ggX0_valueAt_X0_newestIn
theorem dX0_valueAt_0 : decode cX0_valueAt 0 = .ok (.aload_n 0, 1) := by decide +kernel
theorem dX0_valueAt_1 : decode cX0_valueAt 1 = .ok (.ldc2_w 41, 3) := by decide +kernel
theorem dX0_valueAt_4 : decode cX0_valueAt 4 = .ok (.lload_n 1, 1) := by decide +kernel
theorem dX0_valueAt_5 : decode cX0_valueAt 5 = .ok (.invokevirtual 37, 3) := by decide +kernel
theorem dX0_valueAt_8 : decode cX0_valueAt 8 = .ok (.istore_n 3, 1) := by decide +kernel
theorem dX0_valueAt_9 : decode cX0_valueAt 9 = .ok (.iload_n 3, 1) := by decide +kernel
theorem dX0_valueAt_10 : decode cX0_valueAt 10 = .ok (.iconst (-1), 1) := by decide +kernel
theorem dX0_valueAt_11 : decode cX0_valueAt 11 = .ok (.if_icmp .ne 7, 3) := by decide +kernel
theorem dX0_valueAt_14 : decode cX0_valueAt 14 = .ok (.iconst 0, 1) := by decide +kernel
theorem dX0_valueAt_15 : decode cX0_valueAt 15 = .ok (.goto 9, 3) := by decide +kernel
theorem dX0_valueAt_18 : decode cX0_valueAt 18 = .ok (.aload_n 0, 1) := by decide +kernel
theorem dX0_valueAt_19 : decode cX0_valueAt 19 = .ok (.getfield 23, 3) := by decide +kernel
theorem dX0_valueAt_22 : decode cX0_valueAt 22 = .ok (.iload_n 3, 1) := by decide +kernel
theorem dX0_valueAt_23 : decode cX0_valueAt 23 = .ok (.iaload, 1) := by decide +kernel
theorem dX0_valueAt_24 : decode cX0_valueAt 24 = .ok (.ireturn, 1) := by decide +kernel
theorem dX0_newestIn_0 : decode cX0_newestIn 0 = .ok (.iconst (-1), 1) := by decide +kernel
theorem dX0_newestIn_1 : decode cX0_newestIn 1 = .ok (.istore 5, 2) := by decide +kernel
theorem dX0_newestIn_3 : decode cX0_newestIn 3 = .ok (.lload_n 1, 1) := by decide +kernel
theorem dX0_newestIn_4 : decode cX0_newestIn 4 = .ok (.lstore 6, 2) := by decide +kernel
theorem dX0_newestIn_6 : decode cX0_newestIn 6 = .ok (.iconst 0, 1) := by decide +kernel
theorem dX0_newestIn_7 : decode cX0_newestIn 7 = .ok (.istore 8, 2) := by decide +kernel
theorem dX0_newestIn_9 : decode cX0_newestIn 9 = .ok (.iload 8, 2) := by decide +kernel
theorem dX0_newestIn_11 : decode cX0_newestIn 11 = .ok (.aload_n 0, 1) := by decide +kernel
theorem dX0_newestIn_12 : decode cX0_newestIn 12 = .ok (.getfield 43, 3) := by decide +kernel
theorem dX0_newestIn_15 : decode cX0_newestIn 15 = .ok (.if_icmp .ge 47, 3) := by decide +kernel
theorem dX0_newestIn_18 : decode cX0_newestIn 18 = .ok (.aload_n 0, 1) := by decide +kernel
theorem dX0_newestIn_19 : decode cX0_newestIn 19 = .ok (.getfield 19, 3) := by decide +kernel
theorem dX0_newestIn_22 : decode cX0_newestIn 22 = .ok (.iload 8, 2) := by decide +kernel
theorem dX0_newestIn_24 : decode cX0_newestIn 24 = .ok (.laload, 1) := by decide +kernel
theorem dX0_newestIn_25 : decode cX0_newestIn 25 = .ok (.lload 6, 2) := by decide +kernel
theorem dX0_newestIn_27 : decode cX0_newestIn 27 = .ok (.lcmp, 1) := by decide +kernel
theorem dX0_newestIn_28 : decode cX0_newestIn 28 = .ok (.ifCond .le 28, 3) := by decide +kernel
theorem dX0_newestIn_31 : decode cX0_newestIn 31 = .ok (.aload_n 0, 1) := by decide +kernel
theorem dX0_newestIn_32 : decode cX0_newestIn 32 = .ok (.getfield 19, 3) := by decide +kernel
theorem dX0_newestIn_35 : decode cX0_newestIn 35 = .ok (.iload 8, 2) := by decide +kernel
theorem dX0_newestIn_37 : decode cX0_newestIn 37 = .ok (.laload, 1) := by decide +kernel
theorem dX0_newestIn_38 : decode cX0_newestIn 38 = .ok (.lload_n 3, 1) := by decide +kernel
theorem dX0_newestIn_39 : decode cX0_newestIn 39 = .ok (.lcmp, 1) := by decide +kernel
theorem dX0_newestIn_40 : decode cX0_newestIn 40 = .ok (.ifCond .gt 16, 3) := by decide +kernel
theorem dX0_newestIn_43 : decode cX0_newestIn 43 = .ok (.aload_n 0, 1) := by decide +kernel
theorem dX0_newestIn_44 : decode cX0_newestIn 44 = .ok (.getfield 19, 3) := by decide +kernel
theorem dX0_newestIn_47 : decode cX0_newestIn 47 = .ok (.iload 8, 2) := by decide +kernel
theorem dX0_newestIn_49 : decode cX0_newestIn 49 = .ok (.laload, 1) := by decide +kernel
theorem dX0_newestIn_50 : decode cX0_newestIn 50 = .ok (.lstore 6, 2) := by decide +kernel
theorem dX0_newestIn_52 : decode cX0_newestIn 52 = .ok (.iload 8, 2) := by decide +kernel
theorem dX0_newestIn_54 : decode cX0_newestIn 54 = .ok (.istore 5, 2) := by decide +kernel
theorem dX0_newestIn_56 : decode cX0_newestIn 56 = .ok (.iinc 8 1, 3) := by decide +kernel
theorem dX0_newestIn_59 : decode cX0_newestIn 59 = .ok (.goto (-50), 3) := by decide +kernel
theorem dX0_newestIn_62 : decode cX0_newestIn 62 = .ok (.iload 5, 2) := by decide +kernel
theorem dX0_newestIn_64 : decode cX0_newestIn 64 = .ok (.ireturn, 1) := by decide +kernel
set_option maxRecDepth 20000 in
theorem ggX0_settleIntent_X0_addVersion : GoodIn wsX0_settleIntent wsX0_addVersion := goodIn_r _ [7, 8, 9, 10, 11, 12, 13, 14, 15, 16, 17, 18] (by decide +kernel) (by decide +kernel)
set_option maxRecDepth 20000 in
theorem gX0_settleIntent_X0_addVersion : GoodIn wsX0_settleIntent (wsV RX0 61 RX0 yX0_addVersion wsX0_addVersion) := goodIn_app (goodIn_of _ (by decide +kernel)) ggX0_settleIntent_X0_addVersion
theorem dX0_settleIntent_0 : decode cX0_settleIntent 0 = .ok (.aload_n 0, 1) := by decide +kernel
theorem dX0_settleIntent_1 : decode cX0_settleIntent 1 = .ok (.getfield 46, 3) := by decide +kernel
theorem dX0_settleIntent_4 : decode cX0_settleIntent 4 = .ok (.ifnull 29, 3) := by decide +kernel
theorem dX0_settleIntent_7 : decode cX0_settleIntent 7 = .ok (.aload_n 0, 1) := by decide +kernel
theorem dX0_settleIntent_8 : decode cX0_settleIntent 8 = .ok (.getfield 46, 3) := by decide +kernel
theorem dX0_settleIntent_11 : decode cX0_settleIntent 11 = .ok (.getfield 50, 3) := by decide +kernel
theorem dX0_settleIntent_14 : decode cX0_settleIntent 14 = .ok (.iconst 2, 1) := by decide +kernel
theorem dX0_settleIntent_15 : decode cX0_settleIntent 15 = .ok (.if_icmp .ne 18, 3) := by decide +kernel
theorem dX0_settleIntent_18 : decode cX0_settleIntent 18 = .ok (.aload_n 0, 1) := by decide +kernel
theorem dX0_settleIntent_19 : decode cX0_settleIntent 19 = .ok (.aload_n 0, 1) := by decide +kernel
theorem dX0_settleIntent_20 : decode cX0_settleIntent 20 = .ok (.getfield 46, 3) := by decide +kernel
theorem dX0_settleIntent_23 : decode cX0_settleIntent 23 = .ok (.getfield 55, 3) := by decide +kernel
theorem dX0_settleIntent_26 : decode cX0_settleIntent 26 = .ok (.aload_n 0, 1) := by decide +kernel
theorem dX0_settleIntent_27 : decode cX0_settleIntent 27 = .ok (.getfield 58, 3) := by decide +kernel
theorem dX0_settleIntent_30 : decode cX0_settleIntent 30 = .ok (.invokevirtual 61, 3) := by decide +kernel
theorem dX0_settleIntent_33 : decode cX0_settleIntent 33 = .ok (.aload_n 0, 1) := by decide +kernel
theorem dX0_settleIntent_34 : decode cX0_settleIntent 34 = .ok (.aconst_null, 1) := by decide +kernel
theorem dX0_settleIntent_35 : decode cX0_settleIntent 35 = .ok (.putfield 46, 3) := by decide +kernel
theorem dX0_settleIntent_38 : decode cX0_settleIntent 38 = .ok (.return_, 1) := by decide +kernel
theorem dX0_addVersion_0 : decode cX0_addVersion 0 = .ok (.aload_n 0, 1) := by decide +kernel
theorem dX0_addVersion_1 : decode cX0_addVersion 1 = .ok (.getfield 43, 3) := by decide +kernel
theorem dX0_addVersion_4 : decode cX0_addVersion 4 = .ok (.bipush 16, 2) := by decide +kernel
theorem dX0_addVersion_6 : decode cX0_addVersion 6 = .ok (.if_icmp .ge 33, 3) := by decide +kernel
theorem dX0_addVersion_9 : decode cX0_addVersion 9 = .ok (.aload_n 0, 1) := by decide +kernel
theorem dX0_addVersion_10 : decode cX0_addVersion 10 = .ok (.getfield 19, 3) := by decide +kernel
theorem dX0_addVersion_13 : decode cX0_addVersion 13 = .ok (.aload_n 0, 1) := by decide +kernel
theorem dX0_addVersion_14 : decode cX0_addVersion 14 = .ok (.getfield 43, 3) := by decide +kernel
theorem dX0_addVersion_17 : decode cX0_addVersion 17 = .ok (.lload_n 1, 1) := by decide +kernel
theorem dX0_addVersion_18 : decode cX0_addVersion 18 = .ok (.lastore, 1) := by decide +kernel
theorem dX0_addVersion_19 : decode cX0_addVersion 19 = .ok (.aload_n 0, 1) := by decide +kernel
theorem dX0_addVersion_20 : decode cX0_addVersion 20 = .ok (.getfield 23, 3) := by decide +kernel
theorem dX0_addVersion_23 : decode cX0_addVersion 23 = .ok (.aload_n 0, 1) := by decide +kernel
theorem dX0_addVersion_24 : decode cX0_addVersion 24 = .ok (.getfield 43, 3) := by decide +kernel
theorem dX0_addVersion_27 : decode cX0_addVersion 27 = .ok (.iload_n 3, 1) := by decide +kernel
theorem dX0_addVersion_28 : decode cX0_addVersion 28 = .ok (.iastore, 1) := by decide +kernel
theorem dX0_addVersion_29 : decode cX0_addVersion 29 = .ok (.aload_n 0, 1) := by decide +kernel
theorem dX0_addVersion_30 : decode cX0_addVersion 30 = .ok (.dup, 1) := by decide +kernel
theorem dX0_addVersion_31 : decode cX0_addVersion 31 = .ok (.getfield 43, 3) := by decide +kernel
theorem dX0_addVersion_34 : decode cX0_addVersion 34 = .ok (.iconst 1, 1) := by decide +kernel
theorem dX0_addVersion_35 : decode cX0_addVersion 35 = .ok (.iadd, 1) := by decide +kernel
theorem dX0_addVersion_36 : decode cX0_addVersion 36 = .ok (.putfield 43, 3) := by decide +kernel
theorem dX0_addVersion_39 : decode cX0_addVersion 39 = .ok (.return_, 1) := by decide +kernel
theorem dX1_init_0 : decode cX1_init 0 = .ok (.aload_n 0, 1) := by decide +kernel
theorem dX1_init_1 : decode cX1_init 1 = .ok (.invokespecial 3, 3) := by decide +kernel
theorem dX1_init_4 : decode cX1_init 4 = .ok (.return_, 1) := by decide +kernel
theorem dX1_takeIn_0 : decode cX1_takeIn 0 = .ok (.aload_n 0, 1) := by decide +kernel
theorem dX1_takeIn_1 : decode cX1_takeIn 1 = .ok (.aload_n 0, 1) := by decide +kernel
theorem dX1_takeIn_2 : decode cX1_takeIn 2 = .ok (.getfield 9, 3) := by decide +kernel
theorem dX1_takeIn_5 : decode cX1_takeIn 5 = .ok (.lload_n 1, 1) := by decide +kernel
theorem dX1_takeIn_6 : decode cX1_takeIn 6 = .ok (.invokestatic 15, 3) := by decide +kernel
theorem dX1_takeIn_9 : decode cX1_takeIn 9 = .ok (.lconst 1, 1) := by decide +kernel
theorem dX1_takeIn_10 : decode cX1_takeIn 10 = .ok (.ladd, 1) := by decide +kernel
theorem dX1_takeIn_11 : decode cX1_takeIn 11 = .ok (.aload_n 0, 1) := by decide +kernel
theorem dX1_takeIn_12 : decode cX1_takeIn 12 = .ok (.getfield 21, 3) := by decide +kernel
theorem dX1_takeIn_15 : decode cX1_takeIn 15 = .ok (.i2l, 1) := by decide +kernel
theorem dX1_takeIn_16 : decode cX1_takeIn 16 = .ok (.ldc2_w 25, 3) := by decide +kernel
theorem dX1_takeIn_19 : decode cX1_takeIn 19 = .ok (.lmul, 1) := by decide +kernel
theorem dX1_takeIn_20 : decode cX1_takeIn 20 = .ok (.invokestatic 15, 3) := by decide +kernel
theorem dX1_takeIn_23 : decode cX1_takeIn 23 = .ok (.putfield 9, 3) := by decide +kernel
theorem dX1_takeIn_26 : decode cX1_takeIn 26 = .ok (.return_, 1) := by decide +kernel
set_option maxRecDepth 20000 in
theorem ggX1_haveEvent_X1_takeIn : GoodIn wsX1_haveEvent wsX1_takeIn := goodIn_r _ [6, 1, 7, 8, 9, 10, 11, 12, 13, 14] (by decide +kernel) (by decide +kernel)
set_option maxRecDepth 20000 in
theorem gX1_haveEvent_X1_takeIn : GoodIn wsX1_haveEvent (wsV RX1 27 RX1 yX1_takeIn wsX1_takeIn) := goodIn_app (goodIn_of _ (by decide +kernel)) ggX1_haveEvent_X1_takeIn
theorem dX1_haveEvent_0 : decode cX1_haveEvent 0 = .ok (.aload_n 0, 1) := by decide +kernel
theorem dX1_haveEvent_1 : decode cX1_haveEvent 1 = .ok (.aload_n 0, 1) := by decide +kernel
theorem dX1_haveEvent_2 : decode cX1_haveEvent 2 = .ok (.getfield 9, 3) := by decide +kernel
theorem dX1_haveEvent_5 : decode cX1_haveEvent 5 = .ok (.invokevirtual 27, 3) := by decide +kernel
theorem dX1_haveEvent_8 : decode cX1_haveEvent 8 = .ok (.return_, 1) := by decide +kernel
theorem dX2_init_0 : decode cX2_init 0 = .ok (.aload_n 0, 1) := by decide +kernel
theorem dX2_init_1 : decode cX2_init 1 = .ok (.invokespecial 3, 3) := by decide +kernel
theorem dX2_init_4 : decode cX2_init 4 = .ok (.aload_n 0, 1) := by decide +kernel
theorem dX2_init_5 : decode cX2_init 5 = .ok (.aload_n 1, 1) := by decide +kernel
theorem dX2_init_6 : decode cX2_init 6 = .ok (.putfield 9, 3) := by decide +kernel
theorem dX2_init_9 : decode cX2_init 9 = .ok (.return_, 1) := by decide +kernel
theorem dX2_start_0 : decode cX2_start 0 = .ok (.aload_n 0, 1) := by decide +kernel
theorem dX2_start_1 : decode cX2_start 1 = .ok (.iconst 1, 1) := by decide +kernel
theorem dX2_start_2 : decode cX2_start 2 = .ok (.putfield 15, 3) := by decide +kernel
theorem dX2_start_5 : decode cX2_start 5 = .ok (.aload_n 0, 1) := by decide +kernel
theorem dX2_start_6 : decode cX2_start 6 = .ok (.aload_n 1, 1) := by decide +kernel
theorem dX2_start_7 : decode cX2_start 7 = .ok (.putfield 9, 3) := by decide +kernel
theorem dX2_start_10 : decode cX2_start 10 = .ok (.aload_n 0, 1) := by decide +kernel
theorem dX2_start_11 : decode cX2_start 11 = .ok (.aload_n 1, 1) := by decide +kernel
theorem dX2_start_12 : decode cX2_start 12 = .ok (.getfield 19, 3) := by decide +kernel
theorem dX2_start_15 : decode cX2_start 15 = .ok (.putfield 24, 3) := by decide +kernel
theorem dX2_start_18 : decode cX2_start 18 = .ok (.aload_n 0, 1) := by decide +kernel
theorem dX2_start_19 : decode cX2_start 19 = .ok (.iload_n 2, 1) := by decide +kernel
theorem dX2_start_20 : decode cX2_start 20 = .ok (.putfield 27, 3) := by decide +kernel
theorem dX2_start_23 : decode cX2_start 23 = .ok (.aload_n 0, 1) := by decide +kernel
theorem dX2_start_24 : decode cX2_start 24 = .ok (.aload_n 1, 1) := by decide +kernel
theorem dX2_start_25 : decode cX2_start 25 = .ok (.getfield 30, 3) := by decide +kernel
theorem dX2_start_28 : decode cX2_start 28 = .ok (.putfield 34, 3) := by decide +kernel
theorem dX2_start_31 : decode cX2_start 31 = .ok (.aload_n 0, 1) := by decide +kernel
theorem dX2_start_32 : decode cX2_start 32 = .ok (.aload_n 1, 1) := by decide +kernel
theorem dX2_start_33 : decode cX2_start 33 = .ok (.getfield 30, 3) := by decide +kernel
theorem dX2_start_36 : decode cX2_start 36 = .ok (.putfield 37, 3) := by decide +kernel
theorem dX2_start_39 : decode cX2_start 39 = .ok (.aload_n 0, 1) := by decide +kernel
theorem dX2_start_40 : decode cX2_start 40 = .ok (.aload_n 1, 1) := by decide +kernel
theorem dX2_start_41 : decode cX2_start 41 = .ok (.getfield 30, 3) := by decide +kernel
theorem dX2_start_44 : decode cX2_start 44 = .ok (.ldc2_w 40, 3) := by decide +kernel
theorem dX2_start_47 : decode cX2_start 47 = .ok (.ldiv, 1) := by decide +kernel
theorem dX2_start_48 : decode cX2_start 48 = .ok (.ldc2_w 42, 3) := by decide +kernel
theorem dX2_start_51 : decode cX2_start 51 = .ok (.ladd, 1) := by decide +kernel
theorem dX2_start_52 : decode cX2_start 52 = .ok (.ldc2_w 40, 3) := by decide +kernel
theorem dX2_start_55 : decode cX2_start 55 = .ok (.lmul, 1) := by decide +kernel
theorem dX2_start_56 : decode cX2_start 56 = .ok (.ldc2_w 44, 3) := by decide +kernel
theorem dX2_start_59 : decode cX2_start 59 = .ok (.ladd, 1) := by decide +kernel
theorem dX2_start_60 : decode cX2_start 60 = .ok (.putfield 46, 3) := by decide +kernel
theorem dX2_start_63 : decode cX2_start 63 = .ok (.aload_n 0, 1) := by decide +kernel
theorem dX2_start_64 : decode cX2_start 64 = .ok (.iconst 0, 1) := by decide +kernel
theorem dX2_start_65 : decode cX2_start 65 = .ok (.putfield 49, 3) := by decide +kernel
theorem dX2_start_68 : decode cX2_start 68 = .ok (.aload_n 0, 1) := by decide +kernel
theorem dX2_start_69 : decode cX2_start 69 = .ok (.iconst 0, 1) := by decide +kernel
theorem dX2_start_70 : decode cX2_start 70 = .ok (.putfield 52, 3) := by decide +kernel
theorem dX2_start_73 : decode cX2_start 73 = .ok (.return_, 1) := by decide +kernel
theorem dX2_codeOfState_0 : decode cX2_codeOfState 0 = .ok (.aload_n 0, 1) := by decide +kernel
theorem dX2_codeOfState_1 : decode cX2_codeOfState 1 = .ok (.getfield 15, 3) := by decide +kernel
theorem dX2_codeOfState_4 : decode cX2_codeOfState 4 = .ok (.tableswitch 36 1 3 #[28, 30, 33], 28) := by decide +kernel
theorem dX2_codeOfState_32 : decode cX2_codeOfState 32 = .ok (.iconst 0, 1) := by decide +kernel
theorem dX2_codeOfState_33 : decode cX2_codeOfState 33 = .ok (.ireturn, 1) := by decide +kernel
theorem dX2_codeOfState_34 : decode cX2_codeOfState 34 = .ok (.bipush (-8), 2) := by decide +kernel
theorem dX2_codeOfState_36 : decode cX2_codeOfState 36 = .ok (.ireturn, 1) := by decide +kernel
theorem dX2_codeOfState_37 : decode cX2_codeOfState 37 = .ok (.bipush (-6), 2) := by decide +kernel
theorem dX2_codeOfState_39 : decode cX2_codeOfState 39 = .ok (.ireturn, 1) := by decide +kernel
theorem dX2_codeOfState_40 : decode cX2_codeOfState 40 = .ok (.bipush (-4), 2) := by decide +kernel
theorem dX2_codeOfState_42 : decode cX2_codeOfState 42 = .ok (.ireturn, 1) := by decide +kernel
set_option maxRecDepth 20000 in
theorem ggX2_takeStoppingCode_X2_codeOfState : GoodIn wsX2_takeStoppingCode wsX2_codeOfState := goodIn_r _ [6, 7, 8, 9, 10, 11, 12, 13, 14, 15, 16] (by decide +kernel) (by decide +kernel)
set_option maxRecDepth 20000 in
theorem gX2_takeStoppingCode_X2_codeOfState : GoodIn wsX2_takeStoppingCode (wsV RX2 56 RX2 yX2_codeOfState wsX2_codeOfState) := goodIn_app (goodIn_of _ (by decide +kernel)) ggX2_takeStoppingCode_X2_codeOfState
theorem dX2_takeStoppingCode_0 : decode cX2_takeStoppingCode 0 = .ok (.aload_n 0, 1) := by decide +kernel
theorem dX2_takeStoppingCode_1 : decode cX2_takeStoppingCode 1 = .ok (.invokevirtual 56, 3) := by decide +kernel
theorem dX2_takeStoppingCode_4 : decode cX2_takeStoppingCode 4 = .ok (.istore_n 1, 1) := by decide +kernel
theorem dX2_takeStoppingCode_5 : decode cX2_takeStoppingCode 5 = .ok (.iload_n 1, 1) := by decide +kernel
theorem dX2_takeStoppingCode_6 : decode cX2_takeStoppingCode 6 = .ok (.ifCond .ne 17, 3) := by decide +kernel
theorem dX2_takeStoppingCode_9 : decode cX2_takeStoppingCode 9 = .ok (.aload_n 0, 1) := by decide +kernel
theorem dX2_takeStoppingCode_10 : decode cX2_takeStoppingCode 10 = .ok (.getfield 52, 3) := by decide +kernel
theorem dX2_takeStoppingCode_13 : decode cX2_takeStoppingCode 13 = .ok (.ifCond .eq 10, 3) := by decide +kernel
theorem dX2_takeStoppingCode_16 : decode cX2_takeStoppingCode 16 = .ok (.aload_n 0, 1) := by decide +kernel
theorem dX2_takeStoppingCode_17 : decode cX2_takeStoppingCode 17 = .ok (.iconst 0, 1) := by decide +kernel
theorem dX2_takeStoppingCode_18 : decode cX2_takeStoppingCode 18 = .ok (.putfield 52, 3) := by decide +kernel
theorem dX2_takeStoppingCode_21 : decode cX2_takeStoppingCode 21 = .ok (.iconst 1, 1) := by decide +kernel
theorem dX2_takeStoppingCode_22 : decode cX2_takeStoppingCode 22 = .ok (.ireturn, 1) := by decide +kernel
theorem dX2_takeStoppingCode_23 : decode cX2_takeStoppingCode 23 = .ok (.iload_n 1, 1) := by decide +kernel
theorem dX2_takeStoppingCode_24 : decode cX2_takeStoppingCode 24 = .ok (.ireturn, 1) := by decide +kernel
theorem dX2_abortIfSilent_0 : decode cX2_abortIfSilent 0 = .ok (.aload_n 0, 1) := by decide +kernel
theorem dX2_abortIfSilent_1 : decode cX2_abortIfSilent 1 = .ok (.getfield 15, 3) := by decide +kernel
theorem dX2_abortIfSilent_4 : decode cX2_abortIfSilent 4 = .ok (.iconst 1, 1) := by decide +kernel
theorem dX2_abortIfSilent_5 : decode cX2_abortIfSilent 5 = .ok (.if_icmp .ne 25, 3) := by decide +kernel
theorem dX2_abortIfSilent_8 : decode cX2_abortIfSilent 8 = .ok (.aload_n 0, 1) := by decide +kernel
theorem dX2_abortIfSilent_9 : decode cX2_abortIfSilent 9 = .ok (.getfield 9, 3) := by decide +kernel
theorem dX2_abortIfSilent_12 : decode cX2_abortIfSilent 12 = .ok (.getfield 19, 3) := by decide +kernel
theorem dX2_abortIfSilent_15 : decode cX2_abortIfSilent 15 = .ok (.aload_n 0, 1) := by decide +kernel
theorem dX2_abortIfSilent_16 : decode cX2_abortIfSilent 16 = .ok (.getfield 24, 3) := by decide +kernel
theorem dX2_abortIfSilent_19 : decode cX2_abortIfSilent 19 = .ok (.isub, 1) := by decide +kernel
theorem dX2_abortIfSilent_20 : decode cX2_abortIfSilent 20 = .ok (.bipush 40, 2) := by decide +kernel
theorem dX2_abortIfSilent_22 : decode cX2_abortIfSilent 22 = .ok (.if_icmp .le 8, 3) := by decide +kernel
theorem dX2_abortIfSilent_25 : decode cX2_abortIfSilent 25 = .ok (.aload_n 0, 1) := by decide +kernel
theorem dX2_abortIfSilent_26 : decode cX2_abortIfSilent 26 = .ok (.iconst 3, 1) := by decide +kernel
theorem dX2_abortIfSilent_27 : decode cX2_abortIfSilent 27 = .ok (.putfield 15, 3) := by decide +kernel
theorem dX2_abortIfSilent_30 : decode cX2_abortIfSilent 30 = .ok (.return_, 1) := by decide +kernel
theorem dX2_pushWriteStampAbove_0 : decode cX2_pushWriteStampAbove 0 = .ok (.aload_n 0, 1) := by decide +kernel
theorem dX2_pushWriteStampAbove_1 : decode cX2_pushWriteStampAbove 1 = .ok (.aload_n 0, 1) := by decide +kernel
theorem dX2_pushWriteStampAbove_2 : decode cX2_pushWriteStampAbove 2 = .ok (.getfield 37, 3) := by decide +kernel
theorem dX2_pushWriteStampAbove_5 : decode cX2_pushWriteStampAbove 5 = .ok (.lload_n 1, 1) := by decide +kernel
theorem dX2_pushWriteStampAbove_6 : decode cX2_pushWriteStampAbove 6 = .ok (.lconst 1, 1) := by decide +kernel
theorem dX2_pushWriteStampAbove_7 : decode cX2_pushWriteStampAbove 7 = .ok (.ladd, 1) := by decide +kernel
theorem dX2_pushWriteStampAbove_8 : decode cX2_pushWriteStampAbove 8 = .ok (.invokestatic 60, 3) := by decide +kernel
theorem dX2_pushWriteStampAbove_11 : decode cX2_pushWriteStampAbove 11 = .ok (.putfield 37, 3) := by decide +kernel
theorem dX2_pushWriteStampAbove_14 : decode cX2_pushWriteStampAbove 14 = .ok (.return_, 1) := by decide +kernel
theorem dX2_moveTo_0 : decode cX2_moveTo 0 = .ok (.aload_n 0, 1) := by decide +kernel
theorem dX2_moveTo_1 : decode cX2_moveTo 1 = .ok (.iconst 0, 1) := by decide +kernel
theorem dX2_moveTo_2 : decode cX2_moveTo 2 = .ok (.putfield 49, 3) := by decide +kernel
theorem dX2_moveTo_5 : decode cX2_moveTo 5 = .ok (.aload_n 0, 1) := by decide +kernel
theorem dX2_moveTo_6 : decode cX2_moveTo 6 = .ok (.aload_n 0, 1) := by decide +kernel
theorem dX2_moveTo_7 : decode cX2_moveTo 7 = .ok (.getfield 37, 3) := by decide +kernel
theorem dX2_moveTo_10 : decode cX2_moveTo 10 = .ok (.lload_n 1, 1) := by decide +kernel
theorem dX2_moveTo_11 : decode cX2_moveTo 11 = .ok (.invokestatic 60, 3) := by decide +kernel
theorem dX2_moveTo_14 : decode cX2_moveTo 14 = .ok (.putfield 37, 3) := by decide +kernel
theorem dX2_moveTo_17 : decode cX2_moveTo 17 = .ok (.aload_n 0, 1) := by decide +kernel
theorem dX2_moveTo_18 : decode cX2_moveTo 18 = .ok (.aload_n 0, 1) := by decide +kernel
theorem dX2_moveTo_19 : decode cX2_moveTo 19 = .ok (.getfield 37, 3) := by decide +kernel
theorem dX2_moveTo_22 : decode cX2_moveTo 22 = .ok (.putfield 34, 3) := by decide +kernel
theorem dX2_moveTo_25 : decode cX2_moveTo 25 = .ok (.aload_n 0, 1) := by decide +kernel
theorem dX2_moveTo_26 : decode cX2_moveTo 26 = .ok (.aload_n 0, 1) := by decide +kernel
theorem dX2_moveTo_27 : decode cX2_moveTo 27 = .ok (.getfield 46, 3) := by decide +kernel
theorem dX2_moveTo_30 : decode cX2_moveTo 30 = .ok (.aload_n 0, 1) := by decide +kernel
theorem dX2_moveTo_31 : decode cX2_moveTo 31 = .ok (.getfield 34, 3) := by decide +kernel
theorem dX2_moveTo_34 : decode cX2_moveTo 34 = .ok (.invokestatic 60, 3) := by decide +kernel
theorem dX2_moveTo_37 : decode cX2_moveTo 37 = .ok (.putfield 46, 3) := by decide +kernel
theorem dX2_moveTo_40 : decode cX2_moveTo 40 = .ok (.return_, 1) := by decide +kernel
set_option maxRecDepth 20000 in
theorem ggX3_init_X1_init : GoodIn wsX3_init wsX1_init := goodIn_r _ [19, 20, 2, 3] (by decide +kernel) (by decide +kernel)
set_option maxRecDepth 20000 in
theorem gX3_init_X1_init_n15 : GoodIn wsX3_init (wsX1_init) := ggX3_init_X1_init
set_option maxRecDepth 20000 in
theorem ggX3_init_X0_init : GoodIn wsX3_init wsX0_init := goodIn_r _ [22, 23, 2, 3, 24, 25, 16, 26, 27, 28, 41, 42, 43, 44, 45, 46, 47, 48] (by decide +kernel) (by decide +kernel)
set_option maxRecDepth 20000 in
theorem gX3_init_X0_init_n22 : GoodIn wsX3_init (wsX0_init) := ggX3_init_X0_init
set_option maxRecDepth 20000 in
theorem ggX3_init_X2_init : GoodIn wsX3_init wsX2_init := goodIn_r _ [30, 31, 2, 3, 32, 49, 50, 51, 52, 53, 54, 55, 56, 57] (by decide +kernel) (by decide +kernel)
set_option maxRecDepth 20000 in
theorem gX3_init_X2_init_n31 : GoodIn wsX3_init (wsX2_init) := ggX3_init_X2_init
abbrev vwCl : List vw_C := [(RX0, TX0, 8), (RX1, TX1, 2), (RX2, TX2, 9), (RX3, TX3, 6), (RX4, TX4, 21)]
end
section
theorem dX3_init_0 : decode cX3_init 0 = .ok (.aload_n 0, 1) := by decide +kernel
theorem dX3_init_1 : decode cX3_init 1 = .ok (.invokespecial 1, 3) := by decide +kernel
theorem dX3_init_4 : decode cX3_init 4 = .ok (.aload_n 0, 1) := by decide +kernel
theorem dX3_init_5 : decode cX3_init 5 = .ok (.iconst 4, 1) := by decide +kernel
theorem dX3_init_6 : decode cX3_init 6 = .ok (.anewarray 9, 3) := by decide +kernel
theorem dX3_init_9 : decode cX3_init 9 = .ok (.putfield 11, 3) := by decide +kernel
theorem dX3_init_12 : decode cX3_init 12 = .ok (.iconst 0, 1) := by decide +kernel
theorem dX3_init_13 : decode cX3_init 13 = .ok (.istore_n 1, 1) := by decide +kernel
theorem dX3_init_14 : decode cX3_init 14 = .ok (.iload_n 1, 1) := by decide +kernel
theorem dX3_init_15 : decode cX3_init 15 = .ok (.iconst 4, 1) := by decide +kernel
theorem dX3_init_16 : decode cX3_init 16 = .ok (.if_icmp .ge 22, 3) := by decide +kernel
theorem dX3_init_19 : decode cX3_init 19 = .ok (.aload_n 0, 1) := by decide +kernel
theorem dX3_init_20 : decode cX3_init 20 = .ok (.getfield 11, 3) := by decide +kernel
theorem dX3_init_23 : decode cX3_init 23 = .ok (.iload_n 1, 1) := by decide +kernel
theorem dX3_init_24 : decode cX3_init 24 = .ok (.new 9, 3) := by decide +kernel
theorem dX3_init_27 : decode cX3_init 27 = .ok (.dup, 1) := by decide +kernel
theorem dX3_init_28 : decode cX3_init 28 = .ok (.invokespecial 15, 3) := by decide +kernel
theorem dX3_init_31 : decode cX3_init 31 = .ok (.aastore, 1) := by decide +kernel
theorem dX3_init_32 : decode cX3_init 32 = .ok (.iinc 1 1, 3) := by decide +kernel
theorem dX3_init_35 : decode cX3_init 35 = .ok (.goto (-21), 3) := by decide +kernel
theorem dX3_init_38 : decode cX3_init 38 = .ok (.aload_n 0, 1) := by decide +kernel
theorem dX3_init_39 : decode cX3_init 39 = .ok (.bipush 16, 2) := by decide +kernel
theorem dX3_init_41 : decode cX3_init 41 = .ok (.anewarray 16, 3) := by decide +kernel
theorem dX3_init_44 : decode cX3_init 44 = .ok (.putfield 18, 3) := by decide +kernel
theorem dX3_init_47 : decode cX3_init 47 = .ok (.iconst 0, 1) := by decide +kernel
theorem dX3_init_48 : decode cX3_init 48 = .ok (.istore_n 1, 1) := by decide +kernel
theorem dX3_init_49 : decode cX3_init 49 = .ok (.iload_n 1, 1) := by decide +kernel
theorem dX3_init_50 : decode cX3_init 50 = .ok (.bipush 16, 2) := by decide +kernel
theorem dX3_init_52 : decode cX3_init 52 = .ok (.if_icmp .ge 33, 3) := by decide +kernel
theorem dX3_init_55 : decode cX3_init 55 = .ok (.aload_n 0, 1) := by decide +kernel
theorem dX3_init_56 : decode cX3_init 56 = .ok (.getfield 18, 3) := by decide +kernel
theorem dX3_init_59 : decode cX3_init 59 = .ok (.iload_n 1, 1) := by decide +kernel
theorem dX3_init_60 : decode cX3_init 60 = .ok (.new 16, 3) := by decide +kernel
theorem dX3_init_63 : decode cX3_init 63 = .ok (.dup, 1) := by decide +kernel
theorem dX3_init_64 : decode cX3_init 64 = .ok (.iconst 1, 1) := by decide +kernel
theorem dX3_init_65 : decode cX3_init 65 = .ok (.iload_n 1, 1) := by decide +kernel
theorem dX3_init_66 : decode cX3_init 66 = .ok (.ishl, 1) := by decide +kernel
theorem dX3_init_67 : decode cX3_init 67 = .ok (.aload_n 0, 1) := by decide +kernel
theorem dX3_init_68 : decode cX3_init 68 = .ok (.getfield 11, 3) := by decide +kernel
theorem dX3_init_71 : decode cX3_init 71 = .ok (.iload_n 1, 1) := by decide +kernel
theorem dX3_init_72 : decode cX3_init 72 = .ok (.iconst 4, 1) := by decide +kernel
theorem dX3_init_73 : decode cX3_init 73 = .ok (.irem, 1) := by decide +kernel
theorem dX3_init_74 : decode cX3_init 74 = .ok (.aaload, 1) := by decide +kernel
theorem dX3_init_75 : decode cX3_init 75 = .ok (.invokespecial 22, 3) := by decide +kernel
theorem dX3_init_78 : decode cX3_init 78 = .ok (.aastore, 1) := by decide +kernel
theorem dX3_init_79 : decode cX3_init 79 = .ok (.iinc 1 1, 3) := by decide +kernel
theorem dX3_init_82 : decode cX3_init 82 = .ok (.goto (-33), 3) := by decide +kernel
theorem dX3_init_85 : decode cX3_init 85 = .ok (.aload_n 0, 1) := by decide +kernel
theorem dX3_init_86 : decode cX3_init 86 = .ok (.bipush 8, 2) := by decide +kernel
theorem dX3_init_88 : decode cX3_init 88 = .ok (.anewarray 25, 3) := by decide +kernel
theorem dX3_init_91 : decode cX3_init 91 = .ok (.putfield 27, 3) := by decide +kernel
theorem dX3_init_94 : decode cX3_init 94 = .ok (.iconst 0, 1) := by decide +kernel
theorem dX3_init_95 : decode cX3_init 95 = .ok (.istore_n 1, 1) := by decide +kernel
theorem dX3_init_96 : decode cX3_init 96 = .ok (.iload_n 1, 1) := by decide +kernel
theorem dX3_init_97 : decode cX3_init 97 = .ok (.bipush 8, 2) := by decide +kernel
theorem dX3_init_99 : decode cX3_init 99 = .ok (.if_icmp .ge 28, 3) := by decide +kernel
theorem dX3_init_102 : decode cX3_init 102 = .ok (.aload_n 0, 1) := by decide +kernel
theorem dX3_init_103 : decode cX3_init 103 = .ok (.getfield 27, 3) := by decide +kernel
theorem dX3_init_106 : decode cX3_init 106 = .ok (.iload_n 1, 1) := by decide +kernel
theorem dX3_init_107 : decode cX3_init 107 = .ok (.new 25, 3) := by decide +kernel
theorem dX3_init_110 : decode cX3_init 110 = .ok (.dup, 1) := by decide +kernel
theorem dX3_init_111 : decode cX3_init 111 = .ok (.aload_n 0, 1) := by decide +kernel
theorem dX3_init_112 : decode cX3_init 112 = .ok (.getfield 11, 3) := by decide +kernel
theorem dX3_init_115 : decode cX3_init 115 = .ok (.iconst 0, 1) := by decide +kernel
theorem dX3_init_116 : decode cX3_init 116 = .ok (.aaload, 1) := by decide +kernel
theorem dX3_init_117 : decode cX3_init 117 = .ok (.invokespecial 31, 3) := by decide +kernel
theorem dX3_init_120 : decode cX3_init 120 = .ok (.aastore, 1) := by decide +kernel
theorem dX3_init_121 : decode cX3_init 121 = .ok (.iinc 1 1, 3) := by decide +kernel
theorem dX3_init_124 : decode cX3_init 124 = .ok (.goto (-28), 3) := by decide +kernel
theorem dX3_init_127 : decode cX3_init 127 = .ok (.aload_n 0, 1) := by decide +kernel
theorem dX3_init_128 : decode cX3_init 128 = .ok (.sipush 256, 3) := by decide +kernel
theorem dX3_init_131 : decode cX3_init 131 = .ok (.newarray .long, 2) := by decide +kernel
theorem dX3_init_133 : decode cX3_init 133 = .ok (.putfield 34, 3) := by decide +kernel
theorem dX3_init_136 : decode cX3_init 136 = .ok (.return_, 1) := by decide +kernel
set_option maxRecDepth 20000 in
theorem ggX3_tick_X3_nodeAt : GoodIn wsX3_tick wsX3_nodeAt := goodIn_r _ [5, 6, 28, 29, 30, 31, 32, 33] (by decide +kernel) (by decide +kernel)
set_option maxRecDepth 20000 in
theorem gX3_tick_X3_nodeAt : GoodIn wsX3_tick (wsV RX3 38 RX3 yX3_nodeAt wsX3_nodeAt) := goodIn_app (goodIn_of _ (by decide +kernel)) ggX3_tick_X3_nodeAt
set_option maxRecDepth 20000 in
theorem ggX3_tick_X3_runsAhead : GoodIn wsX3_tick wsX3_runsAhead := goodIn_r _ [10, 6, 28, 29, 30, 31, 32, 33, 26, 27] (by decide +kernel) (by decide +kernel)
set_option maxRecDepth 20000 in
theorem gX3_tick_X3_runsAhead : GoodIn wsX3_tick (wsV RX3 46 RX3 yX3_runsAhead wsX3_runsAhead) := goodIn_app (goodIn_of _ (by decide +kernel)) ggX3_tick_X3_runsAhead
set_option maxRecDepth 20000 in
theorem ggX3_tick_X1_haveEvent : GoodIn wsX3_tick wsX1_haveEvent := goodIn_r _ [14, 15, 16, 17, 18, 12, 19, 20, 21, 22, 23, 24, 25, 26, 27] (by decide +kernel) (by decide +kernel)
set_option maxRecDepth 20000 in
theorem gX3_tick_X1_haveEvent_n50 : GoodIn wsX3_tick (wsX1_haveEvent) := ggX3_tick_X1_haveEvent
theorem dX3_tick_0 : decode cX3_tick 0 = .ok (.aload_n 0, 1) := by decide +kernel
theorem dX3_tick_1 : decode cX3_tick 1 = .ok (.iload_n 1, 1) := by decide +kernel
theorem dX3_tick_2 : decode cX3_tick 2 = .ok (.invokevirtual 38, 3) := by decide +kernel
theorem dX3_tick_5 : decode cX3_tick 5 = .ok (.astore_n 3, 1) := by decide +kernel
theorem dX3_tick_6 : decode cX3_tick 6 = .ok (.aload_n 3, 1) := by decide +kernel
theorem dX3_tick_7 : decode cX3_tick 7 = .ok (.ifnonnull 5, 3) := by decide +kernel
theorem dX3_tick_10 : decode cX3_tick 10 = .ok (.iconst (-1), 1) := by decide +kernel
theorem dX3_tick_11 : decode cX3_tick 11 = .ok (.ireturn, 1) := by decide +kernel
theorem dX3_tick_12 : decode cX3_tick 12 = .ok (.iload_n 2, 1) := by decide +kernel
theorem dX3_tick_13 : decode cX3_tick 13 = .ok (.aload_n 3, 1) := by decide +kernel
theorem dX3_tick_14 : decode cX3_tick 14 = .ok (.getfield 42, 3) := by decide +kernel
theorem dX3_tick_17 : decode cX3_tick 17 = .ok (.if_icmp .lt 12, 3) := by decide +kernel
theorem dX3_tick_20 : decode cX3_tick 20 = .ok (.aload_n 0, 1) := by decide +kernel
theorem dX3_tick_21 : decode cX3_tick 21 = .ok (.aload_n 3, 1) := by decide +kernel
theorem dX3_tick_22 : decode cX3_tick 22 = .ok (.iload_n 2, 1) := by decide +kernel
theorem dX3_tick_23 : decode cX3_tick 23 = .ok (.invokevirtual 46, 3) := by decide +kernel
theorem dX3_tick_26 : decode cX3_tick 26 = .ok (.ifCond .eq 6, 3) := by decide +kernel
theorem dX3_tick_29 : decode cX3_tick 29 = .ok (.bipush (-2), 2) := by decide +kernel
theorem dX3_tick_31 : decode cX3_tick 31 = .ok (.ireturn, 1) := by decide +kernel
theorem dX3_tick_32 : decode cX3_tick 32 = .ok (.aload_n 3, 1) := by decide +kernel
theorem dX3_tick_33 : decode cX3_tick 33 = .ok (.iload_n 2, 1) := by decide +kernel
theorem dX3_tick_34 : decode cX3_tick 34 = .ok (.putfield 42, 3) := by decide +kernel
theorem dX3_tick_37 : decode cX3_tick 37 = .ok (.aload_n 3, 1) := by decide +kernel
theorem dX3_tick_38 : decode cX3_tick 38 = .ok (.invokevirtual 50, 3) := by decide +kernel
theorem dX3_tick_41 : decode cX3_tick 41 = .ok (.iconst 0, 1) := by decide +kernel
theorem dX3_tick_42 : decode cX3_tick 42 = .ok (.ireturn, 1) := by decide +kernel
set_option maxRecDepth 20000 in
theorem ggX3_reading_X3_nodeAt : GoodIn wsX3_reading wsX3_nodeAt := goodIn_r _ [5, 6, 9, 10, 11, 12, 13, 14] (by decide +kernel) (by decide +kernel)
set_option maxRecDepth 20000 in
theorem gX3_reading_X3_nodeAt : GoodIn wsX3_reading (wsV RX3 38 RX3 yX3_nodeAt wsX3_nodeAt) := goodIn_app (goodIn_of _ (by decide +kernel)) ggX3_reading_X3_nodeAt
theorem dX3_reading_0 : decode cX3_reading 0 = .ok (.aload_n 0, 1) := by decide +kernel
theorem dX3_reading_1 : decode cX3_reading 1 = .ok (.iload_n 1, 1) := by decide +kernel
theorem dX3_reading_2 : decode cX3_reading 2 = .ok (.invokevirtual 38, 3) := by decide +kernel
theorem dX3_reading_5 : decode cX3_reading 5 = .ok (.astore_n 2, 1) := by decide +kernel
theorem dX3_reading_6 : decode cX3_reading 6 = .ok (.aload_n 2, 1) := by decide +kernel
theorem dX3_reading_7 : decode cX3_reading 7 = .ok (.ifnonnull 7, 3) := by decide +kernel
theorem dX3_reading_10 : decode cX3_reading 10 = .ok (.iconst (-1), 1) := by decide +kernel
theorem dX3_reading_11 : decode cX3_reading 11 = .ok (.goto 7, 3) := by decide +kernel
theorem dX3_reading_14 : decode cX3_reading 14 = .ok (.aload_n 2, 1) := by decide +kernel
theorem dX3_reading_15 : decode cX3_reading 15 = .ok (.getfield 42, 3) := by decide +kernel
theorem dX3_reading_18 : decode cX3_reading 18 = .ok (.ireturn, 1) := by decide +kernel
set_option maxRecDepth 20000 in
theorem ggX3_clock_X3_nodeAt : GoodIn wsX3_clock wsX3_nodeAt := goodIn_r _ [6, 7, 10, 11, 12, 13, 14, 15] (by decide +kernel) (by decide +kernel)
set_option maxRecDepth 20000 in
theorem gX3_clock_X3_nodeAt : GoodIn wsX3_clock (wsV RX3 38 RX3 yX3_nodeAt wsX3_nodeAt) := goodIn_app (goodIn_of _ (by decide +kernel)) ggX3_clock_X3_nodeAt
theorem dX3_clock_0 : decode cX3_clock 0 = .ok (.aload_n 0, 1) := by decide +kernel
theorem dX3_clock_1 : decode cX3_clock 1 = .ok (.iload_n 1, 1) := by decide +kernel
theorem dX3_clock_2 : decode cX3_clock 2 = .ok (.invokevirtual 38, 3) := by decide +kernel
theorem dX3_clock_5 : decode cX3_clock 5 = .ok (.astore_n 2, 1) := by decide +kernel
theorem dX3_clock_6 : decode cX3_clock 6 = .ok (.aload_n 2, 1) := by decide +kernel
theorem dX3_clock_7 : decode cX3_clock 7 = .ok (.ifnonnull 9, 3) := by decide +kernel
theorem dX3_clock_10 : decode cX3_clock 10 = .ok (.ldc2_w 53, 3) := by decide +kernel
theorem dX3_clock_13 : decode cX3_clock 13 = .ok (.goto 7, 3) := by decide +kernel
theorem dX3_clock_16 : decode cX3_clock 16 = .ok (.aload_n 2, 1) := by decide +kernel
theorem dX3_clock_17 : decode cX3_clock 17 = .ok (.getfield 55, 3) := by decide +kernel
theorem dX3_clock_20 : decode cX3_clock 20 = .ok (.lreturn, 1) := by decide +kernel
set_option maxRecDepth 20000 in
theorem ggX3_begin_X3_nodeAt : GoodIn wsX3_begin wsX3_nodeAt := goodIn_r _ [7, 8, 44, 45, 46, 47, 48, 49] (by decide +kernel) (by decide +kernel)
set_option maxRecDepth 20000 in
theorem gX3_begin_X3_nodeAt : GoodIn wsX3_begin (wsV RX3 38 RX3 yX3_nodeAt wsX3_nodeAt) := goodIn_app (goodIn_of _ (by decide +kernel)) ggX3_begin_X3_nodeAt
set_option maxRecDepth 20000 in
theorem ggX3_begin_X3_leastFreeSlot : GoodIn wsX3_begin wsX3_leastFreeSlot := goodIn_r _ [12, 1, 44, 45, 46, 47, 48, 49, 50, 51, 52, 53, 54, 55, 56, 57, 58] (by decide +kernel) (by decide +kernel)
set_option maxRecDepth 20000 in
theorem gX3_begin_X3_leastFreeSlot : GoodIn wsX3_begin (wsV RX3 59 RX3 yX3_leastFreeSlot wsX3_leastFreeSlot) := goodIn_app (goodIn_of _ (by decide +kernel)) ggX3_begin_X3_leastFreeSlot
set_option maxRecDepth 20000 in
theorem ggX3_begin_X1_haveEvent : GoodIn wsX3_begin wsX1_haveEvent := goodIn_r _ [16, 17, 18, 19, 20, 14, 21, 22, 23, 24, 25, 26, 27, 59, 60] (by decide +kernel) (by decide +kernel)
set_option maxRecDepth 20000 in
theorem gX3_begin_X1_haveEvent_n50 : GoodIn wsX3_begin (wsX1_haveEvent) := ggX3_begin_X1_haveEvent
set_option maxRecDepth 20000 in
theorem ggX3_begin_X2_start : GoodIn wsX3_begin wsX2_start := goodIn_r _ [31, 32, 33, 34, 35, 36, 37, 38, 39, 40, 41, 42, 43, 50, 51, 52, 53, 54, 55, 56, 57, 58, 59, 60] (by decide +kernel) (by decide +kernel)
set_option maxRecDepth 20000 in
theorem gX3_begin_X2_start_n66 : GoodIn wsX3_begin (wsX2_start) := ggX3_begin_X2_start
theorem dX3_begin_0 : decode cX3_begin 0 = .ok (.aload_n 0, 1) := by decide +kernel
theorem dX3_begin_1 : decode cX3_begin 1 = .ok (.iload_n 1, 1) := by decide +kernel
theorem dX3_begin_2 : decode cX3_begin 2 = .ok (.invokevirtual 38, 3) := by decide +kernel
theorem dX3_begin_5 : decode cX3_begin 5 = .ok (.astore_n 2, 1) := by decide +kernel
theorem dX3_begin_6 : decode cX3_begin 6 = .ok (.aload_n 2, 1) := by decide +kernel
theorem dX3_begin_7 : decode cX3_begin 7 = .ok (.ifnonnull 5, 3) := by decide +kernel
theorem dX3_begin_10 : decode cX3_begin 10 = .ok (.iconst (-1), 1) := by decide +kernel
theorem dX3_begin_11 : decode cX3_begin 11 = .ok (.ireturn, 1) := by decide +kernel
theorem dX3_begin_12 : decode cX3_begin 12 = .ok (.aload_n 0, 1) := by decide +kernel
theorem dX3_begin_13 : decode cX3_begin 13 = .ok (.invokevirtual 59, 3) := by decide +kernel
theorem dX3_begin_16 : decode cX3_begin 16 = .ok (.istore_n 3, 1) := by decide +kernel
theorem dX3_begin_17 : decode cX3_begin 17 = .ok (.iload_n 3, 1) := by decide +kernel
theorem dX3_begin_18 : decode cX3_begin 18 = .ok (.iconst (-1), 1) := by decide +kernel
theorem dX3_begin_19 : decode cX3_begin 19 = .ok (.if_icmp .ne 6, 3) := by decide +kernel
theorem dX3_begin_22 : decode cX3_begin 22 = .ok (.bipush (-3), 2) := by decide +kernel
theorem dX3_begin_24 : decode cX3_begin 24 = .ok (.ireturn, 1) := by decide +kernel
theorem dX3_begin_25 : decode cX3_begin 25 = .ok (.aload_n 2, 1) := by decide +kernel
theorem dX3_begin_26 : decode cX3_begin 26 = .ok (.invokevirtual 50, 3) := by decide +kernel
theorem dX3_begin_29 : decode cX3_begin 29 = .ok (.aload_n 0, 1) := by decide +kernel
theorem dX3_begin_30 : decode cX3_begin 30 = .ok (.getfield 27, 3) := by decide +kernel
theorem dX3_begin_33 : decode cX3_begin 33 = .ok (.iload_n 3, 1) := by decide +kernel
theorem dX3_begin_34 : decode cX3_begin 34 = .ok (.aaload, 1) := by decide +kernel
theorem dX3_begin_35 : decode cX3_begin 35 = .ok (.aload_n 2, 1) := by decide +kernel
theorem dX3_begin_36 : decode cX3_begin 36 = .ok (.aload_n 0, 1) := by decide +kernel
theorem dX3_begin_37 : decode cX3_begin 37 = .ok (.getfield 63, 3) := by decide +kernel
theorem dX3_begin_40 : decode cX3_begin 40 = .ok (.invokevirtual 66, 3) := by decide +kernel
theorem dX3_begin_43 : decode cX3_begin 43 = .ok (.aload_n 0, 1) := by decide +kernel
theorem dX3_begin_44 : decode cX3_begin 44 = .ok (.dup, 1) := by decide +kernel
theorem dX3_begin_45 : decode cX3_begin 45 = .ok (.getfield 63, 3) := by decide +kernel
theorem dX3_begin_48 : decode cX3_begin 48 = .ok (.iconst 1, 1) := by decide +kernel
theorem dX3_begin_49 : decode cX3_begin 49 = .ok (.iadd, 1) := by decide +kernel
theorem dX3_begin_50 : decode cX3_begin 50 = .ok (.putfield 63, 3) := by decide +kernel
theorem dX3_begin_53 : decode cX3_begin 53 = .ok (.iload_n 3, 1) := by decide +kernel
theorem dX3_begin_54 : decode cX3_begin 54 = .ok (.ireturn, 1) := by decide +kernel
set_option maxRecDepth 20000 in
theorem ggX3_read_X3_transactionAt : GoodIn wsX3_read wsX3_transactionAt := goodIn_r _ [7, 8, 116, 117, 118, 119, 120, 121] (by decide +kernel) (by decide +kernel)
set_option maxRecDepth 20000 in
theorem gX3_read_X3_transactionAt : GoodIn wsX3_read (wsV RX3 70 RX3 yX3_transactionAt wsX3_transactionAt) := goodIn_app (goodIn_of _ (by decide +kernel)) ggX3_read_X3_transactionAt
set_option maxRecDepth 20000 in
theorem ggX3_read_X3_keyAt : GoodIn wsX3_read wsX3_keyAt := goodIn_r _ [12, 13, 116, 117, 118, 119, 120, 121] (by decide +kernel) (by decide +kernel)
set_option maxRecDepth 20000 in
theorem gX3_read_X3_keyAt : GoodIn wsX3_read (wsV RX3 74 RX3 yX3_keyAt wsX3_keyAt) := goodIn_app (goodIn_of _ (by decide +kernel)) ggX3_read_X3_keyAt
set_option maxRecDepth 20000 in
theorem ggX3_read_X2_takeStoppingCode : GoodIn wsX3_read wsX2_takeStoppingCode := goodIn_r _ [17, 18, 19, 20, 21, 15, 22, 23, 97, 98, 99, 100, 101, 102, 103, 104, 105] (by decide +kernel) (by decide +kernel)
set_option maxRecDepth 20000 in
theorem gX3_read_X2_takeStoppingCode_n80 : GoodIn wsX3_read (wsX2_takeStoppingCode) := ggX3_read_X2_takeStoppingCode
set_option maxRecDepth 20000 in
theorem ggX3_read_X1_haveEvent : GoodIn wsX3_read wsX1_haveEvent := goodIn_r _ [27, 28, 29, 30, 31, 25, 32, 33, 34, 35, 36, 37, 38, 114, 115] (by decide +kernel) (by decide +kernel)
set_option maxRecDepth 20000 in
theorem gX3_read_X1_haveEvent_n50 : GoodIn wsX3_read (wsX1_haveEvent) := ggX3_read_X1_haveEvent
set_option maxRecDepth 20000 in
theorem ggX3_read_X1_takeIn : GoodIn wsX3_read wsX1_takeIn := goodIn_r _ [32, 28, 33, 34, 35, 36, 37, 38, 114, 115] (by decide +kernel) (by decide +kernel)
set_option maxRecDepth 20000 in
theorem gX3_read_X1_takeIn_n92 : GoodIn wsX3_read (wsX1_takeIn) := ggX3_read_X1_takeIn
set_option maxRecDepth 20000 in
theorem ggX3_read_X3_readAtOwner : GoodIn wsX3_read wsX3_readAtOwner := goodIn_r _ [42, 43, 44, 45, 46, 6, 47, 30, 25, 31, 32, 28, 33, 34, 35, 36, 37, 38, 48, 15, 49, 50, 23, 51, 52, 53, 54, 55, 56, 57, 58, 59, 60, 61, 62, 63, 64, 65, 66, 67, 68, 69, 70, 71, 72, 73, 74, 75, 76, 77, 78, 79, 80, 81, 82, 13, 83, 84, 85, 86, 87, 88, 89, 90, 91, 92, 93, 94, 95, 96, 106, 107, 108, 109, 110, 111, 112, 113, 97, 98, 99, 100, 101, 102, 103, 104, 105, 114, 115, 116, 117, 118, 119, 120, 121] (by decide +kernel) (by decide +kernel)
set_option maxRecDepth 20000 in
theorem gX3_read_X3_readAtOwner : GoodIn wsX3_read (wsV RX3 96 RX3 yX3_readAtOwner wsX3_readAtOwner) := goodIn_app (goodIn_of _ (by decide +kernel)) ggX3_read_X3_readAtOwner
theorem dX3_read_0 : decode cX3_read 0 = .ok (.aload_n 0, 1) := by decide +kernel
theorem dX3_read_1 : decode cX3_read 1 = .ok (.iload_n 1, 1) := by decide +kernel
theorem dX3_read_2 : decode cX3_read 2 = .ok (.invokevirtual 70, 3) := by decide +kernel
theorem dX3_read_5 : decode cX3_read 5 = .ok (.astore_n 3, 1) := by decide +kernel
theorem dX3_read_6 : decode cX3_read 6 = .ok (.aload_n 0, 1) := by decide +kernel
theorem dX3_read_7 : decode cX3_read 7 = .ok (.iload_n 2, 1) := by decide +kernel
theorem dX3_read_8 : decode cX3_read 8 = .ok (.invokevirtual 74, 3) := by decide +kernel
theorem dX3_read_11 : decode cX3_read 11 = .ok (.astore 4, 2) := by decide +kernel
theorem dX3_read_13 : decode cX3_read 13 = .ok (.aload_n 3, 1) := by decide +kernel
theorem dX3_read_14 : decode cX3_read 14 = .ok (.ifnull 8, 3) := by decide +kernel
theorem dX3_read_17 : decode cX3_read 17 = .ok (.aload 4, 2) := by decide +kernel
theorem dX3_read_19 : decode cX3_read 19 = .ok (.ifnonnull 7, 3) := by decide +kernel
theorem dX3_read_22 : decode cX3_read 22 = .ok (.ldc2_w 78, 3) := by decide +kernel
theorem dX3_read_25 : decode cX3_read 25 = .ok (.lreturn, 1) := by decide +kernel
theorem dX3_read_26 : decode cX3_read 26 = .ok (.aload_n 3, 1) := by decide +kernel
theorem dX3_read_27 : decode cX3_read 27 = .ok (.invokevirtual 80, 3) := by decide +kernel
theorem dX3_read_30 : decode cX3_read 30 = .ok (.istore 5, 2) := by decide +kernel
theorem dX3_read_32 : decode cX3_read 32 = .ok (.iload 5, 2) := by decide +kernel
theorem dX3_read_34 : decode cX3_read 34 = .ok (.ifCond .eq 11, 3) := by decide +kernel
theorem dX3_read_37 : decode cX3_read 37 = .ok (.ldc2_w 83, 3) := by decide +kernel
theorem dX3_read_40 : decode cX3_read 40 = .ok (.iload 5, 2) := by decide +kernel
theorem dX3_read_42 : decode cX3_read 42 = .ok (.i2l, 1) := by decide +kernel
theorem dX3_read_43 : decode cX3_read 43 = .ok (.ladd, 1) := by decide +kernel
theorem dX3_read_44 : decode cX3_read 44 = .ok (.lreturn, 1) := by decide +kernel
theorem dX3_read_45 : decode cX3_read 45 = .ok (.aload_n 3, 1) := by decide +kernel
theorem dX3_read_46 : decode cX3_read 46 = .ok (.getfield 85, 3) := by decide +kernel
theorem dX3_read_49 : decode cX3_read 49 = .ok (.invokevirtual 50, 3) := by decide +kernel
theorem dX3_read_52 : decode cX3_read 52 = .ok (.aload 4, 2) := by decide +kernel
theorem dX3_read_54 : decode cX3_read 54 = .ok (.getfield 89, 3) := by decide +kernel
theorem dX3_read_57 : decode cX3_read 57 = .ok (.aload_n 3, 1) := by decide +kernel
theorem dX3_read_58 : decode cX3_read 58 = .ok (.getfield 85, 3) := by decide +kernel
theorem dX3_read_61 : decode cX3_read 61 = .ok (.getfield 55, 3) := by decide +kernel
theorem dX3_read_64 : decode cX3_read 64 = .ok (.invokevirtual 92, 3) := by decide +kernel
theorem dX3_read_67 : decode cX3_read 67 = .ok (.aload_n 0, 1) := by decide +kernel
theorem dX3_read_68 : decode cX3_read 68 = .ok (.aload_n 3, 1) := by decide +kernel
theorem dX3_read_69 : decode cX3_read 69 = .ok (.aload 4, 2) := by decide +kernel
theorem dX3_read_71 : decode cX3_read 71 = .ok (.invokevirtual 96, 3) := by decide +kernel
theorem dX3_read_74 : decode cX3_read 74 = .ok (.lstore 6, 2) := by decide +kernel
theorem dX3_read_76 : decode cX3_read 76 = .ok (.aload_n 3, 1) := by decide +kernel
theorem dX3_read_77 : decode cX3_read 77 = .ok (.getfield 85, 3) := by decide +kernel
theorem dX3_read_80 : decode cX3_read 80 = .ok (.aload 4, 2) := by decide +kernel
theorem dX3_read_82 : decode cX3_read 82 = .ok (.getfield 89, 3) := by decide +kernel
theorem dX3_read_85 : decode cX3_read 85 = .ok (.getfield 55, 3) := by decide +kernel
theorem dX3_read_88 : decode cX3_read 88 = .ok (.invokevirtual 92, 3) := by decide +kernel
theorem dX3_read_91 : decode cX3_read 91 = .ok (.lload 6, 2) := by decide +kernel
theorem dX3_read_93 : decode cX3_read 93 = .ok (.lreturn, 1) := by decide +kernel
set_option maxRecDepth 20000 in
theorem ggX3_write_X3_transactionAt : GoodIn wsX3_write wsX3_transactionAt := goodIn_r _ [5, 6, 106, 107, 108, 109, 110, 111] (by decide +kernel) (by decide +kernel)
set_option maxRecDepth 20000 in
theorem gX3_write_X3_transactionAt : GoodIn wsX3_write (wsV RX3 70 RX3 yX3_transactionAt wsX3_transactionAt) := goodIn_app (goodIn_of _ (by decide +kernel)) ggX3_write_X3_transactionAt
set_option maxRecDepth 20000 in
theorem ggX3_write_X3_keyAt : GoodIn wsX3_write wsX3_keyAt := goodIn_r _ [10, 11, 106, 107, 108, 109, 110, 111] (by decide +kernel) (by decide +kernel)
set_option maxRecDepth 20000 in
theorem gX3_write_X3_keyAt : GoodIn wsX3_write (wsV RX3 74 RX3 yX3_keyAt wsX3_keyAt) := goodIn_app (goodIn_of _ (by decide +kernel)) ggX3_write_X3_keyAt
set_option maxRecDepth 20000 in
theorem ggX3_write_X2_takeStoppingCode : GoodIn wsX3_write wsX2_takeStoppingCode := goodIn_r _ [15, 16, 17, 18, 19, 13, 20, 21, 87, 88, 89, 90, 91, 92, 93, 94, 95] (by decide +kernel) (by decide +kernel)
set_option maxRecDepth 20000 in
theorem gX3_write_X2_takeStoppingCode_n80 : GoodIn wsX3_write (wsX2_takeStoppingCode) := ggX3_write_X2_takeStoppingCode
set_option maxRecDepth 20000 in
theorem ggX3_write_X1_haveEvent : GoodIn wsX3_write wsX1_haveEvent := goodIn_r _ [25, 26, 27, 28, 29, 23, 30, 31, 32, 33, 34, 35, 36, 104, 105] (by decide +kernel) (by decide +kernel)
set_option maxRecDepth 20000 in
theorem gX3_write_X1_haveEvent_n50 : GoodIn wsX3_write (wsX1_haveEvent) := ggX3_write_X1_haveEvent
set_option maxRecDepth 20000 in
theorem ggX3_write_X1_takeIn : GoodIn wsX3_write wsX1_takeIn := goodIn_r _ [30, 26, 31, 32, 33, 34, 35, 36, 104, 105] (by decide +kernel) (by decide +kernel)
set_option maxRecDepth 20000 in
theorem gX3_write_X1_takeIn_n92 : GoodIn wsX3_write (wsX1_takeIn) := ggX3_write_X1_takeIn
set_option maxRecDepth 20000 in
theorem ggX3_write_X3_writeAtOwner : GoodIn wsX3_write wsX3_writeAtOwner := goodIn_r _ [40, 41, 42, 43, 44, 4, 45, 28, 23, 29, 30, 26, 31, 32, 33, 34, 35, 36, 46, 13, 47, 48, 21, 49, 50, 51, 52, 53, 54, 55, 56, 57, 58, 59, 60, 61, 62, 63, 64, 65, 66, 67, 11, 68, 69, 70, 71, 72, 73, 74, 75, 76, 77, 78, 79, 80, 81, 82, 83, 84, 85, 86, 96, 97, 98, 99, 100, 101, 102, 103, 87, 88, 89, 90, 91, 92, 93, 94, 95, 104, 105, 106, 107, 108, 109, 110, 111] (by decide +kernel) (by decide +kernel)
set_option maxRecDepth 20000 in
theorem gX3_write_X3_writeAtOwner : GoodIn wsX3_write (wsV RX3 100 RX3 yX3_writeAtOwner wsX3_writeAtOwner) := goodIn_app (goodIn_of _ (by decide +kernel)) ggX3_write_X3_writeAtOwner
theorem dX3_write_0 : decode cX3_write 0 = .ok (.aload_n 0, 1) := by decide +kernel
theorem dX3_write_1 : decode cX3_write 1 = .ok (.iload_n 1, 1) := by decide +kernel
theorem dX3_write_2 : decode cX3_write 2 = .ok (.invokevirtual 70, 3) := by decide +kernel
theorem dX3_write_5 : decode cX3_write 5 = .ok (.astore 4, 2) := by decide +kernel
theorem dX3_write_7 : decode cX3_write 7 = .ok (.aload_n 0, 1) := by decide +kernel
theorem dX3_write_8 : decode cX3_write 8 = .ok (.iload_n 2, 1) := by decide +kernel
theorem dX3_write_9 : decode cX3_write 9 = .ok (.invokevirtual 74, 3) := by decide +kernel
theorem dX3_write_12 : decode cX3_write 12 = .ok (.astore 5, 2) := by decide +kernel
theorem dX3_write_14 : decode cX3_write 14 = .ok (.aload 4, 2) := by decide +kernel
theorem dX3_write_16 : decode cX3_write 16 = .ok (.ifnull 8, 3) := by decide +kernel
theorem dX3_write_19 : decode cX3_write 19 = .ok (.aload 5, 2) := by decide +kernel
theorem dX3_write_21 : decode cX3_write 21 = .ok (.ifnonnull 5, 3) := by decide +kernel
theorem dX3_write_24 : decode cX3_write 24 = .ok (.iconst (-1), 1) := by decide +kernel
theorem dX3_write_25 : decode cX3_write 25 = .ok (.ireturn, 1) := by decide +kernel
theorem dX3_write_26 : decode cX3_write 26 = .ok (.aload 4, 2) := by decide +kernel
theorem dX3_write_28 : decode cX3_write 28 = .ok (.invokevirtual 80, 3) := by decide +kernel
theorem dX3_write_31 : decode cX3_write 31 = .ok (.istore 6, 2) := by decide +kernel
theorem dX3_write_33 : decode cX3_write 33 = .ok (.iload 6, 2) := by decide +kernel
theorem dX3_write_35 : decode cX3_write 35 = .ok (.ifCond .eq 6, 3) := by decide +kernel
theorem dX3_write_38 : decode cX3_write 38 = .ok (.iload 6, 2) := by decide +kernel
theorem dX3_write_40 : decode cX3_write 40 = .ok (.ireturn, 1) := by decide +kernel
theorem dX3_write_41 : decode cX3_write 41 = .ok (.aload 4, 2) := by decide +kernel
theorem dX3_write_43 : decode cX3_write 43 = .ok (.getfield 85, 3) := by decide +kernel
theorem dX3_write_46 : decode cX3_write 46 = .ok (.invokevirtual 50, 3) := by decide +kernel
theorem dX3_write_49 : decode cX3_write 49 = .ok (.aload 5, 2) := by decide +kernel
theorem dX3_write_51 : decode cX3_write 51 = .ok (.getfield 89, 3) := by decide +kernel
theorem dX3_write_54 : decode cX3_write 54 = .ok (.aload 4, 2) := by decide +kernel
theorem dX3_write_56 : decode cX3_write 56 = .ok (.getfield 85, 3) := by decide +kernel
theorem dX3_write_59 : decode cX3_write 59 = .ok (.getfield 55, 3) := by decide +kernel
theorem dX3_write_62 : decode cX3_write 62 = .ok (.invokevirtual 92, 3) := by decide +kernel
theorem dX3_write_65 : decode cX3_write 65 = .ok (.aload_n 0, 1) := by decide +kernel
theorem dX3_write_66 : decode cX3_write 66 = .ok (.aload 4, 2) := by decide +kernel
theorem dX3_write_68 : decode cX3_write 68 = .ok (.aload 5, 2) := by decide +kernel
theorem dX3_write_70 : decode cX3_write 70 = .ok (.iload_n 3, 1) := by decide +kernel
theorem dX3_write_71 : decode cX3_write 71 = .ok (.invokevirtual 100, 3) := by decide +kernel
theorem dX3_write_74 : decode cX3_write 74 = .ok (.istore 7, 2) := by decide +kernel
theorem dX3_write_76 : decode cX3_write 76 = .ok (.aload 4, 2) := by decide +kernel
theorem dX3_write_78 : decode cX3_write 78 = .ok (.getfield 85, 3) := by decide +kernel
theorem dX3_write_81 : decode cX3_write 81 = .ok (.aload 5, 2) := by decide +kernel
theorem dX3_write_83 : decode cX3_write 83 = .ok (.getfield 89, 3) := by decide +kernel
theorem dX3_write_86 : decode cX3_write 86 = .ok (.getfield 55, 3) := by decide +kernel
theorem dX3_write_89 : decode cX3_write 89 = .ok (.invokevirtual 92, 3) := by decide +kernel
theorem dX3_write_92 : decode cX3_write 92 = .ok (.iload 7, 2) := by decide +kernel
theorem dX3_write_94 : decode cX3_write 94 = .ok (.ireturn, 1) := by decide +kernel
set_option maxRecDepth 20000 in
theorem ggX3_commit_X3_transactionAt : GoodIn wsX3_commit wsX3_transactionAt := goodIn_r _ [5, 6, 105, 106, 107, 108, 109, 110] (by decide +kernel) (by decide +kernel)
set_option maxRecDepth 20000 in
theorem gX3_commit_X3_transactionAt : GoodIn wsX3_commit (wsV RX3 70 RX3 yX3_transactionAt wsX3_transactionAt) := goodIn_app (goodIn_of _ (by decide +kernel)) ggX3_commit_X3_transactionAt
set_option maxRecDepth 20000 in
theorem ggX3_commit_X2_takeStoppingCode : GoodIn wsX3_commit wsX2_takeStoppingCode := goodIn_r _ [10, 11, 12, 13, 14, 8, 15, 16, 96, 97, 98, 99, 100, 101, 102, 103, 104] (by decide +kernel) (by decide +kernel)
set_option maxRecDepth 20000 in
theorem gX3_commit_X2_takeStoppingCode_n80 : GoodIn wsX3_commit (wsX2_takeStoppingCode) := ggX3_commit_X2_takeStoppingCode
set_option maxRecDepth 20000 in
theorem ggX3_commit_X1_haveEvent : GoodIn wsX3_commit wsX1_haveEvent := goodIn_r _ [20, 21, 22, 23, 24, 18, 25, 26, 27, 28, 29, 30, 31, 111, 112] (by decide +kernel) (by decide +kernel)
set_option maxRecDepth 20000 in
theorem gX3_commit_X1_haveEvent_n50 : GoodIn wsX3_commit (wsX1_haveEvent) := ggX3_commit_X1_haveEvent
set_option maxRecDepth 20000 in
theorem ggX3_commit_X3_moveReadsToWriteStamp : GoodIn wsX3_commit wsX3_moveReadsToWriteStamp := goodIn_r _ [35, 36, 37, 38, 4, 39, 40, 23, 18, 24, 25, 21, 26, 27, 28, 29, 30, 31, 41, 42, 43, 44, 8, 45, 46, 16, 47, 48, 49, 50, 51, 52, 53, 54, 55, 56, 57, 58, 59, 60, 61, 62, 63, 64, 65, 66, 67, 68, 69, 70, 71, 72, 73, 74, 75, 76, 77, 78, 79, 105, 106, 107, 108, 109, 110, 96, 97, 98, 99, 100, 101, 102, 103, 104, 113, 114, 115, 116, 117, 118, 119, 120, 111, 112] (by decide +kernel) (by decide +kernel)
set_option maxRecDepth 20000 in
theorem gX3_commit_X3_moveReadsToWriteStamp : GoodIn wsX3_commit (wsV RX3 110 RX3 yX3_moveReadsToWriteStamp wsX3_moveReadsToWriteStamp) := goodIn_app (goodIn_of _ (by decide +kernel)) ggX3_commit_X3_moveReadsToWriteStamp
set_option maxRecDepth 20000 in
theorem ggX3_commit_X3_restart : GoodIn wsX3_commit wsX3_restart := goodIn_r _ [83, 36, 84, 8, 85, 86, 87, 65, 66, 27, 28, 29, 88, 89, 105, 106, 107, 108, 109, 110, 113, 114, 115, 116, 117, 118, 119, 120, 96, 97, 98, 99, 100, 101, 102, 103, 104] (by decide +kernel) (by decide +kernel)
set_option maxRecDepth 20000 in
theorem gX3_commit_X3_restart : GoodIn wsX3_commit (wsV RX3 114 RX3 yX3_restart wsX3_restart) := goodIn_app (goodIn_of _ (by decide +kernel)) ggX3_commit_X3_restart
set_option maxRecDepth 20000 in
theorem ggX3_commit_X3_logCommit : GoodIn wsX3_commit wsX3_logCommit := goodIn_r _ [93, 94, 95, 105, 106, 107, 108, 109, 110] (by decide +kernel) (by decide +kernel)
set_option maxRecDepth 20000 in
theorem gX3_commit_X3_logCommit : GoodIn wsX3_commit (wsV RX3 121 RX3 yX3_logCommit wsX3_logCommit) := goodIn_app (goodIn_of _ (by decide +kernel)) ggX3_commit_X3_logCommit
theorem dX3_commit_0 : decode cX3_commit 0 = .ok (.aload_n 0, 1) := by decide +kernel
theorem dX3_commit_1 : decode cX3_commit 1 = .ok (.iload_n 1, 1) := by decide +kernel
theorem dX3_commit_2 : decode cX3_commit 2 = .ok (.invokevirtual 70, 3) := by decide +kernel
theorem dX3_commit_5 : decode cX3_commit 5 = .ok (.astore_n 2, 1) := by decide +kernel
theorem dX3_commit_6 : decode cX3_commit 6 = .ok (.aload_n 2, 1) := by decide +kernel
theorem dX3_commit_7 : decode cX3_commit 7 = .ok (.ifnonnull 5, 3) := by decide +kernel
theorem dX3_commit_10 : decode cX3_commit 10 = .ok (.iconst (-1), 1) := by decide +kernel
theorem dX3_commit_11 : decode cX3_commit 11 = .ok (.ireturn, 1) := by decide +kernel
theorem dX3_commit_12 : decode cX3_commit 12 = .ok (.aload_n 2, 1) := by decide +kernel
theorem dX3_commit_13 : decode cX3_commit 13 = .ok (.invokevirtual 80, 3) := by decide +kernel
theorem dX3_commit_16 : decode cX3_commit 16 = .ok (.istore_n 3, 1) := by decide +kernel
theorem dX3_commit_17 : decode cX3_commit 17 = .ok (.iload_n 3, 1) := by decide +kernel
theorem dX3_commit_18 : decode cX3_commit 18 = .ok (.ifCond .eq 5, 3) := by decide +kernel
theorem dX3_commit_21 : decode cX3_commit 21 = .ok (.iload_n 3, 1) := by decide +kernel
theorem dX3_commit_22 : decode cX3_commit 22 = .ok (.ireturn, 1) := by decide +kernel
theorem dX3_commit_23 : decode cX3_commit 23 = .ok (.aload_n 2, 1) := by decide +kernel
theorem dX3_commit_24 : decode cX3_commit 24 = .ok (.getfield 85, 3) := by decide +kernel
theorem dX3_commit_27 : decode cX3_commit 27 = .ok (.invokevirtual 50, 3) := by decide +kernel
theorem dX3_commit_30 : decode cX3_commit 30 = .ok (.aload_n 2, 1) := by decide +kernel
theorem dX3_commit_31 : decode cX3_commit 31 = .ok (.getfield 104, 3) := by decide +kernel
theorem dX3_commit_34 : decode cX3_commit 34 = .ok (.aload_n 2, 1) := by decide +kernel
theorem dX3_commit_35 : decode cX3_commit 35 = .ok (.getfield 107, 3) := by decide +kernel
theorem dX3_commit_38 : decode cX3_commit 38 = .ok (.lcmp, 1) := by decide +kernel
theorem dX3_commit_39 : decode cX3_commit 39 = .ok (.ifCond .le 19, 3) := by decide +kernel
theorem dX3_commit_42 : decode cX3_commit 42 = .ok (.aload_n 0, 1) := by decide +kernel
theorem dX3_commit_43 : decode cX3_commit 43 = .ok (.aload_n 2, 1) := by decide +kernel
theorem dX3_commit_44 : decode cX3_commit 44 = .ok (.invokevirtual 110, 3) := by decide +kernel
theorem dX3_commit_47 : decode cX3_commit 47 = .ok (.ifCond .ne 11, 3) := by decide +kernel
theorem dX3_commit_50 : decode cX3_commit 50 = .ok (.aload_n 0, 1) := by decide +kernel
theorem dX3_commit_51 : decode cX3_commit 51 = .ok (.aload_n 2, 1) := by decide +kernel
theorem dX3_commit_52 : decode cX3_commit 52 = .ok (.lconst 0, 1) := by decide +kernel
theorem dX3_commit_53 : decode cX3_commit 53 = .ok (.invokevirtual 114, 3) := by decide +kernel
theorem dX3_commit_56 : decode cX3_commit 56 = .ok (.iconst 1, 1) := by decide +kernel
theorem dX3_commit_57 : decode cX3_commit 57 = .ok (.ireturn, 1) := by decide +kernel
theorem dX3_commit_58 : decode cX3_commit 58 = .ok (.aload_n 2, 1) := by decide +kernel
theorem dX3_commit_59 : decode cX3_commit 59 = .ok (.aload_n 2, 1) := by decide +kernel
theorem dX3_commit_60 : decode cX3_commit 60 = .ok (.getfield 104, 3) := by decide +kernel
theorem dX3_commit_63 : decode cX3_commit 63 = .ok (.putfield 107, 3) := by decide +kernel
theorem dX3_commit_66 : decode cX3_commit 66 = .ok (.aload_n 2, 1) := by decide +kernel
theorem dX3_commit_67 : decode cX3_commit 67 = .ok (.iconst 2, 1) := by decide +kernel
theorem dX3_commit_68 : decode cX3_commit 68 = .ok (.putfield 118, 3) := by decide +kernel
theorem dX3_commit_71 : decode cX3_commit 71 = .ok (.aload_n 0, 1) := by decide +kernel
theorem dX3_commit_72 : decode cX3_commit 72 = .ok (.aload_n 2, 1) := by decide +kernel
theorem dX3_commit_73 : decode cX3_commit 73 = .ok (.getfield 104, 3) := by decide +kernel
theorem dX3_commit_76 : decode cX3_commit 76 = .ok (.invokevirtual 121, 3) := by decide +kernel
theorem dX3_commit_79 : decode cX3_commit 79 = .ok (.iconst 0, 1) := by decide +kernel
theorem dX3_commit_80 : decode cX3_commit 80 = .ok (.ireturn, 1) := by decide +kernel
set_option maxRecDepth 20000 in
theorem ggX3_abort_X3_transactionAt : GoodIn wsX3_abort wsX3_transactionAt := goodIn_r _ [5, 6, 21, 22, 23, 24, 25, 26] (by decide +kernel) (by decide +kernel)
set_option maxRecDepth 20000 in
theorem gX3_abort_X3_transactionAt : GoodIn wsX3_abort (wsV RX3 70 RX3 yX3_transactionAt wsX3_transactionAt) := goodIn_app (goodIn_of _ (by decide +kernel)) ggX3_abort_X3_transactionAt
set_option maxRecDepth 20000 in
theorem ggX3_abort_X2_codeOfState : GoodIn wsX3_abort wsX2_codeOfState := goodIn_r _ [10, 11, 12, 13, 14, 15, 16, 17, 18, 19, 20] (by decide +kernel) (by decide +kernel)
set_option maxRecDepth 20000 in
theorem gX3_abort_X2_codeOfState_n124 : GoodIn wsX3_abort (wsX2_codeOfState) := ggX3_abort_X2_codeOfState
theorem dX3_abort_0 : decode cX3_abort 0 = .ok (.aload_n 0, 1) := by decide +kernel
theorem dX3_abort_1 : decode cX3_abort 1 = .ok (.iload_n 1, 1) := by decide +kernel
theorem dX3_abort_2 : decode cX3_abort 2 = .ok (.invokevirtual 70, 3) := by decide +kernel
theorem dX3_abort_5 : decode cX3_abort 5 = .ok (.astore_n 2, 1) := by decide +kernel
theorem dX3_abort_6 : decode cX3_abort 6 = .ok (.aload_n 2, 1) := by decide +kernel
theorem dX3_abort_7 : decode cX3_abort 7 = .ok (.ifnonnull 5, 3) := by decide +kernel
theorem dX3_abort_10 : decode cX3_abort 10 = .ok (.iconst (-1), 1) := by decide +kernel
theorem dX3_abort_11 : decode cX3_abort 11 = .ok (.ireturn, 1) := by decide +kernel
theorem dX3_abort_12 : decode cX3_abort 12 = .ok (.aload_n 2, 1) := by decide +kernel
theorem dX3_abort_13 : decode cX3_abort 13 = .ok (.invokevirtual 124, 3) := by decide +kernel
theorem dX3_abort_16 : decode cX3_abort 16 = .ok (.istore_n 3, 1) := by decide +kernel
theorem dX3_abort_17 : decode cX3_abort 17 = .ok (.iload_n 3, 1) := by decide +kernel
theorem dX3_abort_18 : decode cX3_abort 18 = .ok (.ifCond .ne 8, 3) := by decide +kernel
theorem dX3_abort_21 : decode cX3_abort 21 = .ok (.aload_n 2, 1) := by decide +kernel
theorem dX3_abort_22 : decode cX3_abort 22 = .ok (.iconst 3, 1) := by decide +kernel
theorem dX3_abort_23 : decode cX3_abort 23 = .ok (.putfield 118, 3) := by decide +kernel
theorem dX3_abort_26 : decode cX3_abort 26 = .ok (.iload_n 3, 1) := by decide +kernel
theorem dX3_abort_27 : decode cX3_abort 27 = .ok (.ireturn, 1) := by decide +kernel
set_option maxRecDepth 20000 in
theorem ggX3_heartbeat_X3_transactionAt : GoodIn wsX3_heartbeat wsX3_transactionAt := goodIn_r _ [5, 6, 38, 39, 40, 41, 42, 43] (by decide +kernel) (by decide +kernel)
set_option maxRecDepth 20000 in
theorem gX3_heartbeat_X3_transactionAt : GoodIn wsX3_heartbeat (wsV RX3 70 RX3 yX3_transactionAt wsX3_transactionAt) := goodIn_app (goodIn_of _ (by decide +kernel)) ggX3_heartbeat_X3_transactionAt
set_option maxRecDepth 20000 in
theorem ggX3_heartbeat_X2_codeOfState : GoodIn wsX3_heartbeat wsX2_codeOfState := goodIn_r _ [10, 11, 27, 28, 29, 30, 31, 32, 33, 34, 35] (by decide +kernel) (by decide +kernel)
set_option maxRecDepth 20000 in
theorem gX3_heartbeat_X2_codeOfState_n124 : GoodIn wsX3_heartbeat (wsX2_codeOfState) := ggX3_heartbeat_X2_codeOfState
set_option maxRecDepth 20000 in
theorem ggX3_heartbeat_X1_haveEvent : GoodIn wsX3_heartbeat wsX1_haveEvent := goodIn_r _ [15, 16, 17, 18, 19, 13, 20, 21, 22, 23, 24, 25, 26, 36, 37] (by decide +kernel) (by decide +kernel)
set_option maxRecDepth 20000 in
theorem gX3_heartbeat_X1_haveEvent_n50 : GoodIn wsX3_heartbeat (wsX1_haveEvent) := ggX3_heartbeat_X1_haveEvent
theorem dX3_heartbeat_0 : decode cX3_heartbeat 0 = .ok (.aload_n 0, 1) := by decide +kernel
theorem dX3_heartbeat_1 : decode cX3_heartbeat 1 = .ok (.iload_n 1, 1) := by decide +kernel
theorem dX3_heartbeat_2 : decode cX3_heartbeat 2 = .ok (.invokevirtual 70, 3) := by decide +kernel
theorem dX3_heartbeat_5 : decode cX3_heartbeat 5 = .ok (.astore_n 2, 1) := by decide +kernel
theorem dX3_heartbeat_6 : decode cX3_heartbeat 6 = .ok (.aload_n 2, 1) := by decide +kernel
theorem dX3_heartbeat_7 : decode cX3_heartbeat 7 = .ok (.ifnonnull 5, 3) := by decide +kernel
theorem dX3_heartbeat_10 : decode cX3_heartbeat 10 = .ok (.iconst (-1), 1) := by decide +kernel
theorem dX3_heartbeat_11 : decode cX3_heartbeat 11 = .ok (.ireturn, 1) := by decide +kernel
theorem dX3_heartbeat_12 : decode cX3_heartbeat 12 = .ok (.aload_n 2, 1) := by decide +kernel
theorem dX3_heartbeat_13 : decode cX3_heartbeat 13 = .ok (.invokevirtual 124, 3) := by decide +kernel
theorem dX3_heartbeat_16 : decode cX3_heartbeat 16 = .ok (.istore_n 3, 1) := by decide +kernel
theorem dX3_heartbeat_17 : decode cX3_heartbeat 17 = .ok (.iload_n 3, 1) := by decide +kernel
theorem dX3_heartbeat_18 : decode cX3_heartbeat 18 = .ok (.ifCond .ne 21, 3) := by decide +kernel
theorem dX3_heartbeat_21 : decode cX3_heartbeat 21 = .ok (.aload_n 2, 1) := by decide +kernel
theorem dX3_heartbeat_22 : decode cX3_heartbeat 22 = .ok (.getfield 85, 3) := by decide +kernel
theorem dX3_heartbeat_25 : decode cX3_heartbeat 25 = .ok (.invokevirtual 50, 3) := by decide +kernel
theorem dX3_heartbeat_28 : decode cX3_heartbeat 28 = .ok (.aload_n 2, 1) := by decide +kernel
theorem dX3_heartbeat_29 : decode cX3_heartbeat 29 = .ok (.aload_n 2, 1) := by decide +kernel
theorem dX3_heartbeat_30 : decode cX3_heartbeat 30 = .ok (.getfield 85, 3) := by decide +kernel
theorem dX3_heartbeat_33 : decode cX3_heartbeat 33 = .ok (.getfield 42, 3) := by decide +kernel
theorem dX3_heartbeat_36 : decode cX3_heartbeat 36 = .ok (.putfield 127, 3) := by decide +kernel
theorem dX3_heartbeat_39 : decode cX3_heartbeat 39 = .ok (.iload_n 3, 1) := by decide +kernel
theorem dX3_heartbeat_40 : decode cX3_heartbeat 40 = .ok (.ireturn, 1) := by decide +kernel
set_option maxRecDepth 20000 in
theorem ggX3_clean_X3_transactionAt : GoodIn wsX3_clean wsX3_transactionAt := goodIn_r _ [6, 7, 41, 42, 43, 44, 45, 46] (by decide +kernel) (by decide +kernel)
set_option maxRecDepth 20000 in
theorem gX3_clean_X3_transactionAt : GoodIn wsX3_clean (wsV RX3 70 RX3 yX3_transactionAt wsX3_transactionAt) := goodIn_app (goodIn_of _ (by decide +kernel)) ggX3_clean_X3_transactionAt
set_option maxRecDepth 20000 in
theorem ggX3_clean_X1_takeIn : GoodIn wsX3_clean wsX1_takeIn := goodIn_r _ [11, 12, 13, 14, 15, 16, 17, 18, 55, 56] (by decide +kernel) (by decide +kernel)
set_option maxRecDepth 20000 in
theorem gX3_clean_X1_takeIn_n92 : GoodIn wsX3_clean (wsX1_takeIn) := ggX3_clean_X1_takeIn
set_option maxRecDepth 20000 in
theorem ggX3_clean_X0_settleIntent : GoodIn wsX3_clean wsX0_settleIntent := goodIn_r _ [22, 23, 24, 25, 26, 27, 20, 28, 29, 30, 31, 47, 48, 49, 50, 51, 52, 53, 54, 32, 33, 34, 35, 36, 37, 38, 39, 40] (by decide +kernel) (by decide +kernel)
set_option maxRecDepth 20000 in
theorem gX3_clean_X0_settleIntent_n134 : GoodIn wsX3_clean (wsX0_settleIntent) := ggX3_clean_X0_settleIntent
theorem dX3_clean_0 : decode cX3_clean 0 = .ok (.aload_n 0, 1) := by decide +kernel
theorem dX3_clean_1 : decode cX3_clean 1 = .ok (.iload_n 1, 1) := by decide +kernel
theorem dX3_clean_2 : decode cX3_clean 2 = .ok (.invokevirtual 70, 3) := by decide +kernel
theorem dX3_clean_5 : decode cX3_clean 5 = .ok (.astore_n 2, 1) := by decide +kernel
theorem dX3_clean_6 : decode cX3_clean 6 = .ok (.aload_n 2, 1) := by decide +kernel
theorem dX3_clean_7 : decode cX3_clean 7 = .ok (.ifnonnull 5, 3) := by decide +kernel
theorem dX3_clean_10 : decode cX3_clean 10 = .ok (.iconst (-1), 1) := by decide +kernel
theorem dX3_clean_11 : decode cX3_clean 11 = .ok (.ireturn, 1) := by decide +kernel
theorem dX3_clean_12 : decode cX3_clean 12 = .ok (.aload_n 2, 1) := by decide +kernel
theorem dX3_clean_13 : decode cX3_clean 13 = .ok (.getfield 118, 3) := by decide +kernel
theorem dX3_clean_16 : decode cX3_clean 16 = .ok (.ifCond .ne 6, 3) := by decide +kernel
theorem dX3_clean_19 : decode cX3_clean 19 = .ok (.bipush (-4), 2) := by decide +kernel
theorem dX3_clean_21 : decode cX3_clean 21 = .ok (.ireturn, 1) := by decide +kernel
theorem dX3_clean_22 : decode cX3_clean 22 = .ok (.aload_n 2, 1) := by decide +kernel
theorem dX3_clean_23 : decode cX3_clean 23 = .ok (.getfield 118, 3) := by decide +kernel
theorem dX3_clean_26 : decode cX3_clean 26 = .ok (.iconst 1, 1) := by decide +kernel
theorem dX3_clean_27 : decode cX3_clean 27 = .ok (.if_icmp .ne 6, 3) := by decide +kernel
theorem dX3_clean_30 : decode cX3_clean 30 = .ok (.bipush (-9), 2) := by decide +kernel
theorem dX3_clean_32 : decode cX3_clean 32 = .ok (.ireturn, 1) := by decide +kernel
theorem dX3_clean_33 : decode cX3_clean 33 = .ok (.aload_n 0, 1) := by decide +kernel
theorem dX3_clean_34 : decode cX3_clean 34 = .ok (.getfield 18, 3) := by decide +kernel
theorem dX3_clean_37 : decode cX3_clean 37 = .ok (.astore_n 3, 1) := by decide +kernel
theorem dX3_clean_38 : decode cX3_clean 38 = .ok (.aload_n 3, 1) := by decide +kernel
theorem dX3_clean_39 : decode cX3_clean 39 = .ok (.arraylength, 1) := by decide +kernel
theorem dX3_clean_40 : decode cX3_clean 40 = .ok (.istore 4, 2) := by decide +kernel
theorem dX3_clean_42 : decode cX3_clean 42 = .ok (.iconst 0, 1) := by decide +kernel
theorem dX3_clean_43 : decode cX3_clean 43 = .ok (.istore 5, 2) := by decide +kernel
theorem dX3_clean_45 : decode cX3_clean 45 = .ok (.iload 5, 2) := by decide +kernel
theorem dX3_clean_47 : decode cX3_clean 47 = .ok (.iload 4, 2) := by decide +kernel
theorem dX3_clean_49 : decode cX3_clean 49 = .ok (.if_icmp .ge 44, 3) := by decide +kernel
theorem dX3_clean_52 : decode cX3_clean 52 = .ok (.aload_n 3, 1) := by decide +kernel
theorem dX3_clean_53 : decode cX3_clean 53 = .ok (.iload 5, 2) := by decide +kernel
theorem dX3_clean_55 : decode cX3_clean 55 = .ok (.aaload, 1) := by decide +kernel
theorem dX3_clean_56 : decode cX3_clean 56 = .ok (.astore 6, 2) := by decide +kernel
theorem dX3_clean_58 : decode cX3_clean 58 = .ok (.aload 6, 2) := by decide +kernel
theorem dX3_clean_60 : decode cX3_clean 60 = .ok (.getfield 130, 3) := by decide +kernel
theorem dX3_clean_63 : decode cX3_clean 63 = .ok (.aload_n 2, 1) := by decide +kernel
theorem dX3_clean_64 : decode cX3_clean 64 = .ok (.if_acmp .ne 23, 3) := by decide +kernel
theorem dX3_clean_67 : decode cX3_clean 67 = .ok (.aload 6, 2) := by decide +kernel
theorem dX3_clean_69 : decode cX3_clean 69 = .ok (.getfield 89, 3) := by decide +kernel
theorem dX3_clean_72 : decode cX3_clean 72 = .ok (.aload_n 2, 1) := by decide +kernel
theorem dX3_clean_73 : decode cX3_clean 73 = .ok (.getfield 85, 3) := by decide +kernel
theorem dX3_clean_76 : decode cX3_clean 76 = .ok (.getfield 55, 3) := by decide +kernel
theorem dX3_clean_79 : decode cX3_clean 79 = .ok (.invokevirtual 92, 3) := by decide +kernel
theorem dX3_clean_82 : decode cX3_clean 82 = .ok (.aload 6, 2) := by decide +kernel
theorem dX3_clean_84 : decode cX3_clean 84 = .ok (.invokevirtual 134, 3) := by decide +kernel
theorem dX3_clean_87 : decode cX3_clean 87 = .ok (.iinc 5 1, 3) := by decide +kernel
theorem dX3_clean_90 : decode cX3_clean 90 = .ok (.goto (-45), 3) := by decide +kernel
theorem dX3_clean_93 : decode cX3_clean 93 = .ok (.aload_n 2, 1) := by decide +kernel
theorem dX3_clean_94 : decode cX3_clean 94 = .ok (.iconst 0, 1) := by decide +kernel
theorem dX3_clean_95 : decode cX3_clean 95 = .ok (.putfield 118, 3) := by decide +kernel
theorem dX3_clean_98 : decode cX3_clean 98 = .ok (.iconst 0, 1) := by decide +kernel
theorem dX3_clean_99 : decode cX3_clean 99 = .ok (.ireturn, 1) := by decide +kernel
set_option maxRecDepth 20000 in
theorem ggX3_state_X3_transactionAt : GoodIn wsX3_state wsX3_transactionAt := goodIn_r _ [5, 6, 16, 17, 18, 19, 20, 21] (by decide +kernel) (by decide +kernel)
set_option maxRecDepth 20000 in
theorem gX3_state_X3_transactionAt : GoodIn wsX3_state (wsV RX3 70 RX3 yX3_transactionAt wsX3_transactionAt) := goodIn_app (goodIn_of _ (by decide +kernel)) ggX3_state_X3_transactionAt
theorem dX3_state_0 : decode cX3_state 0 = .ok (.aload_n 0, 1) := by decide +kernel
theorem dX3_state_1 : decode cX3_state 1 = .ok (.iload_n 1, 1) := by decide +kernel
theorem dX3_state_2 : decode cX3_state 2 = .ok (.invokevirtual 70, 3) := by decide +kernel
theorem dX3_state_5 : decode cX3_state 5 = .ok (.astore_n 2, 1) := by decide +kernel
theorem dX3_state_6 : decode cX3_state 6 = .ok (.aload_n 2, 1) := by decide +kernel
theorem dX3_state_7 : decode cX3_state 7 = .ok (.ifnonnull 7, 3) := by decide +kernel
theorem dX3_state_10 : decode cX3_state 10 = .ok (.iconst (-1), 1) := by decide +kernel
theorem dX3_state_11 : decode cX3_state 11 = .ok (.goto 7, 3) := by decide +kernel
theorem dX3_state_14 : decode cX3_state 14 = .ok (.aload_n 2, 1) := by decide +kernel
theorem dX3_state_15 : decode cX3_state 15 = .ok (.getfield 118, 3) := by decide +kernel
theorem dX3_state_18 : decode cX3_state 18 = .ok (.ireturn, 1) := by decide +kernel
set_option maxRecDepth 20000 in
theorem ggX3_stamp_X3_transactionAt : GoodIn wsX3_stamp wsX3_transactionAt := goodIn_r _ [6, 7, 17, 18, 19, 20, 21, 22] (by decide +kernel) (by decide +kernel)
set_option maxRecDepth 20000 in
theorem gX3_stamp_X3_transactionAt : GoodIn wsX3_stamp (wsV RX3 70 RX3 yX3_transactionAt wsX3_transactionAt) := goodIn_app (goodIn_of _ (by decide +kernel)) ggX3_stamp_X3_transactionAt
theorem dX3_stamp_0 : decode cX3_stamp 0 = .ok (.aload_n 0, 1) := by decide +kernel
theorem dX3_stamp_1 : decode cX3_stamp 1 = .ok (.iload_n 1, 1) := by decide +kernel
theorem dX3_stamp_2 : decode cX3_stamp 2 = .ok (.invokevirtual 70, 3) := by decide +kernel
theorem dX3_stamp_5 : decode cX3_stamp 5 = .ok (.astore_n 2, 1) := by decide +kernel
theorem dX3_stamp_6 : decode cX3_stamp 6 = .ok (.aload_n 2, 1) := by decide +kernel
theorem dX3_stamp_7 : decode cX3_stamp 7 = .ok (.ifnull 18, 3) := by decide +kernel
theorem dX3_stamp_10 : decode cX3_stamp 10 = .ok (.aload_n 2, 1) := by decide +kernel
theorem dX3_stamp_11 : decode cX3_stamp 11 = .ok (.getfield 118, 3) := by decide +kernel
theorem dX3_stamp_14 : decode cX3_stamp 14 = .ok (.ifCond .eq 11, 3) := by decide +kernel
theorem dX3_stamp_17 : decode cX3_stamp 17 = .ok (.aload_n 2, 1) := by decide +kernel
theorem dX3_stamp_18 : decode cX3_stamp 18 = .ok (.getfield 118, 3) := by decide +kernel
theorem dX3_stamp_21 : decode cX3_stamp 21 = .ok (.iconst 3, 1) := by decide +kernel
theorem dX3_stamp_22 : decode cX3_stamp 22 = .ok (.if_icmp .ne 7, 3) := by decide +kernel
theorem dX3_stamp_25 : decode cX3_stamp 25 = .ok (.ldc2_w 53, 3) := by decide +kernel
theorem dX3_stamp_28 : decode cX3_stamp 28 = .ok (.lreturn, 1) := by decide +kernel
theorem dX3_stamp_29 : decode cX3_stamp 29 = .ok (.aload_n 2, 1) := by decide +kernel
theorem dX3_stamp_30 : decode cX3_stamp 30 = .ok (.getfield 107, 3) := by decide +kernel
theorem dX3_stamp_33 : decode cX3_stamp 33 = .ok (.lreturn, 1) := by decide +kernel
set_option maxRecDepth 20000 in
theorem ggX3_versions_X3_keyAt : GoodIn wsX3_versions wsX3_keyAt := goodIn_r _ [5, 6, 15, 16, 17, 18, 19, 20] (by decide +kernel) (by decide +kernel)
set_option maxRecDepth 20000 in
theorem gX3_versions_X3_keyAt : GoodIn wsX3_versions (wsV RX3 74 RX3 yX3_keyAt wsX3_keyAt) := goodIn_app (goodIn_of _ (by decide +kernel)) ggX3_versions_X3_keyAt
theorem dX3_versions_0 : decode cX3_versions 0 = .ok (.aload_n 0, 1) := by decide +kernel
theorem dX3_versions_1 : decode cX3_versions 1 = .ok (.iload_n 1, 1) := by decide +kernel
theorem dX3_versions_2 : decode cX3_versions 2 = .ok (.invokevirtual 74, 3) := by decide +kernel
theorem dX3_versions_5 : decode cX3_versions 5 = .ok (.astore_n 2, 1) := by decide +kernel
theorem dX3_versions_6 : decode cX3_versions 6 = .ok (.aload_n 2, 1) := by decide +kernel
theorem dX3_versions_7 : decode cX3_versions 7 = .ok (.ifnonnull 7, 3) := by decide +kernel
theorem dX3_versions_10 : decode cX3_versions 10 = .ok (.iconst (-1), 1) := by decide +kernel
theorem dX3_versions_11 : decode cX3_versions 11 = .ok (.goto 7, 3) := by decide +kernel
theorem dX3_versions_14 : decode cX3_versions 14 = .ok (.aload_n 2, 1) := by decide +kernel
theorem dX3_versions_15 : decode cX3_versions 15 = .ok (.getfield 137, 3) := by decide +kernel
theorem dX3_versions_18 : decode cX3_versions 18 = .ok (.ireturn, 1) := by decide +kernel
theorem dX3_committed_0 : decode cX3_committed 0 = .ok (.iload_n 1, 1) := by decide +kernel
theorem dX3_committed_1 : decode cX3_committed 1 = .ok (.ifCond .lt 11, 3) := by decide +kernel
theorem dX3_committed_4 : decode cX3_committed 4 = .ok (.iload_n 1, 1) := by decide +kernel
theorem dX3_committed_5 : decode cX3_committed 5 = .ok (.aload_n 0, 1) := by decide +kernel
theorem dX3_committed_6 : decode cX3_committed 6 = .ok (.getfield 140, 3) := by decide +kernel
theorem dX3_committed_9 : decode cX3_committed 9 = .ok (.if_icmp .lt 9, 3) := by decide +kernel
theorem dX3_committed_12 : decode cX3_committed 12 = .ok (.ldc2_w 53, 3) := by decide +kernel
theorem dX3_committed_15 : decode cX3_committed 15 = .ok (.goto 9, 3) := by decide +kernel
theorem dX3_committed_18 : decode cX3_committed 18 = .ok (.aload_n 0, 1) := by decide +kernel
theorem dX3_committed_19 : decode cX3_committed 19 = .ok (.getfield 34, 3) := by decide +kernel
theorem dX3_committed_22 : decode cX3_committed 22 = .ok (.iload_n 1, 1) := by decide +kernel
theorem dX3_committed_23 : decode cX3_committed 23 = .ok (.laload, 1) := by decide +kernel
theorem dX3_committed_24 : decode cX3_committed 24 = .ok (.lreturn, 1) := by decide +kernel
theorem dX3_nodeAt_0 : decode cX3_nodeAt 0 = .ok (.iload_n 1, 1) := by decide +kernel
theorem dX3_nodeAt_1 : decode cX3_nodeAt 1 = .ok (.ifCond .lt 8, 3) := by decide +kernel
theorem dX3_nodeAt_4 : decode cX3_nodeAt 4 = .ok (.iload_n 1, 1) := by decide +kernel
theorem dX3_nodeAt_5 : decode cX3_nodeAt 5 = .ok (.iconst 4, 1) := by decide +kernel
theorem dX3_nodeAt_6 : decode cX3_nodeAt 6 = .ok (.if_icmp .lt 7, 3) := by decide +kernel
theorem dX3_nodeAt_9 : decode cX3_nodeAt 9 = .ok (.aconst_null, 1) := by decide +kernel
theorem dX3_nodeAt_10 : decode cX3_nodeAt 10 = .ok (.goto 9, 3) := by decide +kernel
theorem dX3_nodeAt_13 : decode cX3_nodeAt 13 = .ok (.aload_n 0, 1) := by decide +kernel
theorem dX3_nodeAt_14 : decode cX3_nodeAt 14 = .ok (.getfield 11, 3) := by decide +kernel
theorem dX3_nodeAt_17 : decode cX3_nodeAt 17 = .ok (.iload_n 1, 1) := by decide +kernel
theorem dX3_nodeAt_18 : decode cX3_nodeAt 18 = .ok (.aaload, 1) := by decide +kernel
theorem dX3_nodeAt_19 : decode cX3_nodeAt 19 = .ok (.areturn, 1) := by decide +kernel
theorem dX3_keyAt_0 : decode cX3_keyAt 0 = .ok (.iload_n 1, 1) := by decide +kernel
theorem dX3_keyAt_1 : decode cX3_keyAt 1 = .ok (.ifCond .lt 9, 3) := by decide +kernel
theorem dX3_keyAt_4 : decode cX3_keyAt 4 = .ok (.iload_n 1, 1) := by decide +kernel
theorem dX3_keyAt_5 : decode cX3_keyAt 5 = .ok (.bipush 16, 2) := by decide +kernel
theorem dX3_keyAt_7 : decode cX3_keyAt 7 = .ok (.if_icmp .lt 7, 3) := by decide +kernel
theorem dX3_keyAt_10 : decode cX3_keyAt 10 = .ok (.aconst_null, 1) := by decide +kernel
theorem dX3_keyAt_11 : decode cX3_keyAt 11 = .ok (.goto 9, 3) := by decide +kernel
theorem dX3_keyAt_14 : decode cX3_keyAt 14 = .ok (.aload_n 0, 1) := by decide +kernel
theorem dX3_keyAt_15 : decode cX3_keyAt 15 = .ok (.getfield 18, 3) := by decide +kernel
theorem dX3_keyAt_18 : decode cX3_keyAt 18 = .ok (.iload_n 1, 1) := by decide +kernel
theorem dX3_keyAt_19 : decode cX3_keyAt 19 = .ok (.aaload, 1) := by decide +kernel
theorem dX3_keyAt_20 : decode cX3_keyAt 20 = .ok (.areturn, 1) := by decide +kernel
theorem dX3_transactionAt_0 : decode cX3_transactionAt 0 = .ok (.iload_n 1, 1) := by decide +kernel
theorem dX3_transactionAt_1 : decode cX3_transactionAt 1 = .ok (.ifCond .lt 9, 3) := by decide +kernel
theorem dX3_transactionAt_4 : decode cX3_transactionAt 4 = .ok (.iload_n 1, 1) := by decide +kernel
theorem dX3_transactionAt_5 : decode cX3_transactionAt 5 = .ok (.bipush 8, 2) := by decide +kernel
theorem dX3_transactionAt_7 : decode cX3_transactionAt 7 = .ok (.if_icmp .lt 7, 3) := by decide +kernel
theorem dX3_transactionAt_10 : decode cX3_transactionAt 10 = .ok (.aconst_null, 1) := by decide +kernel
theorem dX3_transactionAt_11 : decode cX3_transactionAt 11 = .ok (.goto 9, 3) := by decide +kernel
theorem dX3_transactionAt_14 : decode cX3_transactionAt 14 = .ok (.aload_n 0, 1) := by decide +kernel
theorem dX3_transactionAt_15 : decode cX3_transactionAt 15 = .ok (.getfield 27, 3) := by decide +kernel
theorem dX3_transactionAt_18 : decode cX3_transactionAt 18 = .ok (.iload_n 1, 1) := by decide +kernel
theorem dX3_transactionAt_19 : decode cX3_transactionAt 19 = .ok (.aaload, 1) := by decide +kernel
theorem dX3_transactionAt_20 : decode cX3_transactionAt 20 = .ok (.areturn, 1) := by decide +kernel
theorem dX3_leastFreeSlot_0 : decode cX3_leastFreeSlot 0 = .ok (.iconst 0, 1) := by decide +kernel
theorem dX3_leastFreeSlot_1 : decode cX3_leastFreeSlot 1 = .ok (.istore_n 1, 1) := by decide +kernel
theorem dX3_leastFreeSlot_2 : decode cX3_leastFreeSlot 2 = .ok (.iload_n 1, 1) := by decide +kernel
theorem dX3_leastFreeSlot_3 : decode cX3_leastFreeSlot 3 = .ok (.bipush 8, 2) := by decide +kernel
theorem dX3_leastFreeSlot_5 : decode cX3_leastFreeSlot 5 = .ok (.if_icmp .ge 23, 3) := by decide +kernel
theorem dX3_leastFreeSlot_8 : decode cX3_leastFreeSlot 8 = .ok (.aload_n 0, 1) := by decide +kernel
theorem dX3_leastFreeSlot_9 : decode cX3_leastFreeSlot 9 = .ok (.getfield 27, 3) := by decide +kernel
theorem dX3_leastFreeSlot_12 : decode cX3_leastFreeSlot 12 = .ok (.iload_n 1, 1) := by decide +kernel
theorem dX3_leastFreeSlot_13 : decode cX3_leastFreeSlot 13 = .ok (.aaload, 1) := by decide +kernel
theorem dX3_leastFreeSlot_14 : decode cX3_leastFreeSlot 14 = .ok (.getfield 118, 3) := by decide +kernel
theorem dX3_leastFreeSlot_17 : decode cX3_leastFreeSlot 17 = .ok (.ifCond .ne 5, 3) := by decide +kernel
theorem dX3_leastFreeSlot_20 : decode cX3_leastFreeSlot 20 = .ok (.iload_n 1, 1) := by decide +kernel
theorem dX3_leastFreeSlot_21 : decode cX3_leastFreeSlot 21 = .ok (.ireturn, 1) := by decide +kernel
theorem dX3_leastFreeSlot_22 : decode cX3_leastFreeSlot 22 = .ok (.iinc 1 1, 3) := by decide +kernel
theorem dX3_leastFreeSlot_25 : decode cX3_leastFreeSlot 25 = .ok (.goto (-23), 3) := by decide +kernel
theorem dX3_leastFreeSlot_28 : decode cX3_leastFreeSlot 28 = .ok (.iconst (-1), 1) := by decide +kernel
theorem dX3_leastFreeSlot_29 : decode cX3_leastFreeSlot 29 = .ok (.ireturn, 1) := by decide +kernel
theorem dX3_runsAhead_0 : decode cX3_runsAhead 0 = .ok (.aload_n 0, 1) := by decide +kernel
theorem dX3_runsAhead_1 : decode cX3_runsAhead 1 = .ok (.getfield 11, 3) := by decide +kernel
theorem dX3_runsAhead_4 : decode cX3_runsAhead 4 = .ok (.astore_n 3, 1) := by decide +kernel
theorem dX3_runsAhead_5 : decode cX3_runsAhead 5 = .ok (.aload_n 3, 1) := by decide +kernel
theorem dX3_runsAhead_6 : decode cX3_runsAhead 6 = .ok (.arraylength, 1) := by decide +kernel
theorem dX3_runsAhead_7 : decode cX3_runsAhead 7 = .ok (.istore 4, 2) := by decide +kernel
theorem dX3_runsAhead_9 : decode cX3_runsAhead 9 = .ok (.iconst 0, 1) := by decide +kernel
theorem dX3_runsAhead_10 : decode cX3_runsAhead 10 = .ok (.istore 5, 2) := by decide +kernel
theorem dX3_runsAhead_12 : decode cX3_runsAhead 12 = .ok (.iload 5, 2) := by decide +kernel
theorem dX3_runsAhead_14 : decode cX3_runsAhead 14 = .ok (.iload 4, 2) := by decide +kernel
theorem dX3_runsAhead_16 : decode cX3_runsAhead 16 = .ok (.if_icmp .ge 35, 3) := by decide +kernel
theorem dX3_runsAhead_19 : decode cX3_runsAhead 19 = .ok (.aload_n 3, 1) := by decide +kernel
theorem dX3_runsAhead_20 : decode cX3_runsAhead 20 = .ok (.iload 5, 2) := by decide +kernel
theorem dX3_runsAhead_22 : decode cX3_runsAhead 22 = .ok (.aaload, 1) := by decide +kernel
theorem dX3_runsAhead_23 : decode cX3_runsAhead 23 = .ok (.astore 6, 2) := by decide +kernel
theorem dX3_runsAhead_25 : decode cX3_runsAhead 25 = .ok (.aload 6, 2) := by decide +kernel
theorem dX3_runsAhead_27 : decode cX3_runsAhead 27 = .ok (.aload_n 1, 1) := by decide +kernel
theorem dX3_runsAhead_28 : decode cX3_runsAhead 28 = .ok (.if_acmp .eq 17, 3) := by decide +kernel
theorem dX3_runsAhead_31 : decode cX3_runsAhead 31 = .ok (.iload_n 2, 1) := by decide +kernel
theorem dX3_runsAhead_32 : decode cX3_runsAhead 32 = .ok (.aload 6, 2) := by decide +kernel
theorem dX3_runsAhead_34 : decode cX3_runsAhead 34 = .ok (.getfield 42, 3) := by decide +kernel
theorem dX3_runsAhead_37 : decode cX3_runsAhead 37 = .ok (.isub, 1) := by decide +kernel
theorem dX3_runsAhead_38 : decode cX3_runsAhead 38 = .ok (.bipush 10, 2) := by decide +kernel
theorem dX3_runsAhead_40 : decode cX3_runsAhead 40 = .ok (.if_icmp .le 5, 3) := by decide +kernel
theorem dX3_runsAhead_43 : decode cX3_runsAhead 43 = .ok (.iconst 1, 1) := by decide +kernel
theorem dX3_runsAhead_44 : decode cX3_runsAhead 44 = .ok (.ireturn, 1) := by decide +kernel
theorem dX3_runsAhead_45 : decode cX3_runsAhead 45 = .ok (.iinc 5 1, 3) := by decide +kernel
theorem dX3_runsAhead_48 : decode cX3_runsAhead 48 = .ok (.goto (-36), 3) := by decide +kernel
theorem dX3_runsAhead_51 : decode cX3_runsAhead 51 = .ok (.iconst 0, 1) := by decide +kernel
theorem dX3_runsAhead_52 : decode cX3_runsAhead 52 = .ok (.ireturn, 1) := by decide +kernel
set_option maxRecDepth 20000 in
theorem ggX3_readAtOwner_X3_lookUp : GoodIn wsX3_readAtOwner wsX3_lookUp := goodIn_r _ [6, 7, 8, 9, 10, 11, 12, 13, 14, 15, 16, 17, 18, 19, 20, 21, 22, 23, 24, 25, 26, 27, 28, 29, 30, 31, 32, 33, 34, 35, 36, 37, 70, 71, 72, 73, 74, 75, 76, 77, 78, 79, 80, 81, 82, 83, 84, 85, 86, 87, 88] (by decide +kernel) (by decide +kernel)
set_option maxRecDepth 20000 in
theorem gX3_readAtOwner_X3_lookUp : GoodIn wsX3_readAtOwner (va_wsS RX3 146 yX3_lookUp wsX3_lookUp) := goodIn_app (goodIn_of _ (by decide +kernel)) ggX3_readAtOwner_X3_lookUp
set_option maxRecDepth 20000 in
theorem ggX3_readAtOwner_X2_pushWriteStampAbove : GoodIn wsX3_readAtOwner wsX2_pushWriteStampAbove := goodIn_r _ [40, 41, 42, 13, 14, 15, 78, 79, 80, 81, 82, 83, 84, 85, 86] (by decide +kernel) (by decide +kernel)
set_option maxRecDepth 20000 in
theorem gX3_readAtOwner_X2_pushWriteStampAbove_n150 : GoodIn wsX3_readAtOwner (wsX2_pushWriteStampAbove) := ggX3_readAtOwner_X2_pushWriteStampAbove
set_option maxRecDepth 20000 in
theorem ggX3_readAtOwner_X0_greatestStampIn : GoodIn wsX3_readAtOwner wsX0_greatestStampIn := goodIn_r _ [45, 46, 36, 47, 48, 49, 26, 50, 35, 70, 71, 72, 73, 74, 75, 76, 77] (by decide +kernel) (by decide +kernel)
set_option maxRecDepth 20000 in
theorem gX3_readAtOwner_X0_greatestStampIn_n156 : GoodIn wsX3_readAtOwner (wsX0_greatestStampIn) := ggX3_readAtOwner_X0_greatestStampIn
set_option maxRecDepth 20000 in
theorem ggX3_readAtOwner_X3_restart : GoodIn wsX3_readAtOwner wsX3_restart := goodIn_r _ [54, 55, 56, 19, 57, 58, 59, 41, 42, 13, 14, 15, 60, 61, 89, 90, 91, 92, 93, 94, 70, 71, 72, 73, 74, 75, 76, 77, 78, 79, 80, 81, 82, 83, 84, 85, 86] (by decide +kernel) (by decide +kernel)
set_option maxRecDepth 20000 in
theorem gX3_readAtOwner_X3_restart : GoodIn wsX3_readAtOwner (wsV RX3 114 RX3 yX3_restart wsX3_restart) := goodIn_app (goodIn_of _ (by decide +kernel)) ggX3_readAtOwner_X3_restart
set_option maxRecDepth 20000 in
theorem ggX3_readAtOwner_X0_raiseReadMark : GoodIn wsX3_readAtOwner wsX0_raiseReadMark := goodIn_r _ [64, 65, 66, 13, 14, 15, 70, 71, 72, 73, 74, 75, 76, 77] (by decide +kernel) (by decide +kernel)
set_option maxRecDepth 20000 in
theorem gX3_readAtOwner_X0_raiseReadMark_n162 : GoodIn wsX3_readAtOwner (wsX0_raiseReadMark) := ggX3_readAtOwner_X0_raiseReadMark
set_option maxRecDepth 20000 in
theorem ggX3_readAtOwner_X0_valueAt : GoodIn wsX3_readAtOwner wsX0_valueAt := goodIn_r _ [69, 46, 37, 47, 48, 49, 26, 50, 35, 36, 70, 71, 72, 73, 74, 75, 76, 77] (by decide +kernel) (by decide +kernel)
set_option maxRecDepth 20000 in
theorem gX3_readAtOwner_X0_valueAt_n171 : GoodIn wsX3_readAtOwner (wsX0_valueAt) := ggX3_readAtOwner_X0_valueAt
theorem dX3_readAtOwner_0 : decode cX3_readAtOwner 0 = .ok (.aload_n 2, 1) := by decide +kernel
theorem dX3_readAtOwner_1 : decode cX3_readAtOwner 1 = .ok (.getfield 130, 3) := by decide +kernel
theorem dX3_readAtOwner_4 : decode cX3_readAtOwner 4 = .ok (.aload_n 1, 1) := by decide +kernel
theorem dX3_readAtOwner_5 : decode cX3_readAtOwner 5 = .ok (.if_acmp .ne 9, 3) := by decide +kernel
theorem dX3_readAtOwner_8 : decode cX3_readAtOwner 8 = .ok (.aload_n 2, 1) := by decide +kernel
theorem dX3_readAtOwner_9 : decode cX3_readAtOwner 9 = .ok (.getfield 143, 3) := by decide +kernel
theorem dX3_readAtOwner_12 : decode cX3_readAtOwner 12 = .ok (.i2l, 1) := by decide +kernel
theorem dX3_readAtOwner_13 : decode cX3_readAtOwner 13 = .ok (.lreturn, 1) := by decide +kernel
theorem dX3_readAtOwner_14 : decode cX3_readAtOwner 14 = .ok (.aload_n 2, 1) := by decide +kernel
theorem dX3_readAtOwner_15 : decode cX3_readAtOwner 15 = .ok (.aload_n 1, 1) := by decide +kernel
theorem dX3_readAtOwner_16 : decode cX3_readAtOwner 16 = .ok (.invokestatic 146, 3) := by decide +kernel
theorem dX3_readAtOwner_19 : decode cX3_readAtOwner 19 = .ok (.astore_n 3, 1) := by decide +kernel
theorem dX3_readAtOwner_20 : decode cX3_readAtOwner 20 = .ok (.aload_n 3, 1) := by decide +kernel
theorem dX3_readAtOwner_21 : decode cX3_readAtOwner 21 = .ok (.ifnull 11, 3) := by decide +kernel
theorem dX3_readAtOwner_24 : decode cX3_readAtOwner 24 = .ok (.aload_n 3, 1) := by decide +kernel
theorem dX3_readAtOwner_25 : decode cX3_readAtOwner 25 = .ok (.aload_n 1, 1) := by decide +kernel
theorem dX3_readAtOwner_26 : decode cX3_readAtOwner 26 = .ok (.getfield 107, 3) := by decide +kernel
theorem dX3_readAtOwner_29 : decode cX3_readAtOwner 29 = .ok (.invokevirtual 150, 3) := by decide +kernel
theorem dX3_readAtOwner_32 : decode cX3_readAtOwner 32 = .ok (.aload_n 2, 1) := by decide +kernel
theorem dX3_readAtOwner_33 : decode cX3_readAtOwner 33 = .ok (.aload_n 1, 1) := by decide +kernel
theorem dX3_readAtOwner_34 : decode cX3_readAtOwner 34 = .ok (.getfield 107, 3) := by decide +kernel
theorem dX3_readAtOwner_37 : decode cX3_readAtOwner 37 = .ok (.aload_n 1, 1) := by decide +kernel
theorem dX3_readAtOwner_38 : decode cX3_readAtOwner 38 = .ok (.getfield 153, 3) := by decide +kernel
theorem dX3_readAtOwner_41 : decode cX3_readAtOwner 41 = .ok (.invokevirtual 156, 3) := by decide +kernel
theorem dX3_readAtOwner_44 : decode cX3_readAtOwner 44 = .ok (.lstore 4, 2) := by decide +kernel
theorem dX3_readAtOwner_46 : decode cX3_readAtOwner 46 = .ok (.lload 4, 2) := by decide +kernel
theorem dX3_readAtOwner_48 : decode cX3_readAtOwner 48 = .ok (.ldc2_w 53, 3) := by decide +kernel
theorem dX3_readAtOwner_51 : decode cX3_readAtOwner 51 = .ok (.lcmp, 1) := by decide +kernel
theorem dX3_readAtOwner_52 : decode cX3_readAtOwner 52 = .ok (.ifCond .eq 14, 3) := by decide +kernel
theorem dX3_readAtOwner_55 : decode cX3_readAtOwner 55 = .ok (.aload_n 0, 1) := by decide +kernel
theorem dX3_readAtOwner_56 : decode cX3_readAtOwner 56 = .ok (.aload_n 1, 1) := by decide +kernel
theorem dX3_readAtOwner_57 : decode cX3_readAtOwner 57 = .ok (.lload 4, 2) := by decide +kernel
theorem dX3_readAtOwner_59 : decode cX3_readAtOwner 59 = .ok (.invokevirtual 114, 3) := by decide +kernel
theorem dX3_readAtOwner_62 : decode cX3_readAtOwner 62 = .ok (.ldc2_w 160, 3) := by decide +kernel
theorem dX3_readAtOwner_65 : decode cX3_readAtOwner 65 = .ok (.lreturn, 1) := by decide +kernel
theorem dX3_readAtOwner_66 : decode cX3_readAtOwner 66 = .ok (.aload_n 2, 1) := by decide +kernel
theorem dX3_readAtOwner_67 : decode cX3_readAtOwner 67 = .ok (.aload_n 1, 1) := by decide +kernel
theorem dX3_readAtOwner_68 : decode cX3_readAtOwner 68 = .ok (.getfield 107, 3) := by decide +kernel
theorem dX3_readAtOwner_71 : decode cX3_readAtOwner 71 = .ok (.invokevirtual 162, 3) := by decide +kernel
theorem dX3_readAtOwner_74 : decode cX3_readAtOwner 74 = .ok (.aload_n 1, 1) := by decide +kernel
theorem dX3_readAtOwner_75 : decode cX3_readAtOwner 75 = .ok (.dup, 1) := by decide +kernel
theorem dX3_readAtOwner_76 : decode cX3_readAtOwner 76 = .ok (.getfield 165, 3) := by decide +kernel
theorem dX3_readAtOwner_79 : decode cX3_readAtOwner 79 = .ok (.aload_n 2, 1) := by decide +kernel
theorem dX3_readAtOwner_80 : decode cX3_readAtOwner 80 = .ok (.getfield 168, 3) := by decide +kernel
theorem dX3_readAtOwner_83 : decode cX3_readAtOwner 83 = .ok (.ior, 1) := by decide +kernel
theorem dX3_readAtOwner_84 : decode cX3_readAtOwner 84 = .ok (.putfield 165, 3) := by decide +kernel
theorem dX3_readAtOwner_87 : decode cX3_readAtOwner 87 = .ok (.aload_n 2, 1) := by decide +kernel
theorem dX3_readAtOwner_88 : decode cX3_readAtOwner 88 = .ok (.aload_n 1, 1) := by decide +kernel
theorem dX3_readAtOwner_89 : decode cX3_readAtOwner 89 = .ok (.getfield 107, 3) := by decide +kernel
theorem dX3_readAtOwner_92 : decode cX3_readAtOwner 92 = .ok (.invokevirtual 171, 3) := by decide +kernel
theorem dX3_readAtOwner_95 : decode cX3_readAtOwner 95 = .ok (.i2l, 1) := by decide +kernel
theorem dX3_readAtOwner_96 : decode cX3_readAtOwner 96 = .ok (.lreturn, 1) := by decide +kernel
set_option maxRecDepth 20000 in
theorem ggX3_writeAtOwner_X3_lookUp : GoodIn wsX3_writeAtOwner wsX3_lookUp := goodIn_r _ [6, 7, 8, 9, 10, 11, 12, 13, 14, 15, 16, 17, 18, 19, 20, 21, 22, 23, 24, 25, 26, 27, 28, 29, 30, 31, 32, 33, 34, 35, 36, 37, 62, 63, 64, 65, 66, 67, 68, 69, 70, 71, 72, 73, 74, 75, 76, 77, 78, 79, 80] (by decide +kernel) (by decide +kernel)
set_option maxRecDepth 20000 in
theorem gX3_writeAtOwner_X3_lookUp : GoodIn wsX3_writeAtOwner (va_wsS RX3 146 yX3_lookUp wsX3_lookUp) := goodIn_app (goodIn_of _ (by decide +kernel)) ggX3_writeAtOwner_X3_lookUp
set_option maxRecDepth 20000 in
theorem ggX3_writeAtOwner_X3_restart : GoodIn wsX3_writeAtOwner wsX3_restart := goodIn_r _ [41, 42, 43, 19, 44, 45, 46, 47, 48, 13, 14, 15, 49, 50, 81, 82, 83, 84, 85, 86, 62, 63, 64, 65, 66, 67, 68, 69, 70, 71, 72, 73, 74, 75, 76, 77, 78] (by decide +kernel) (by decide +kernel)
set_option maxRecDepth 20000 in
theorem gX3_writeAtOwner_X3_restart : GoodIn wsX3_writeAtOwner (wsV RX3 114 RX3 yX3_restart wsX3_restart) := goodIn_app (goodIn_of _ (by decide +kernel)) ggX3_writeAtOwner_X3_restart
set_option maxRecDepth 20000 in
theorem ggX3_writeAtOwner_X2_pushWriteStampAbove : GoodIn wsX3_writeAtOwner wsX2_pushWriteStampAbove := goodIn_r _ [53, 47, 48, 13, 14, 15, 70, 71, 72, 73, 74, 75, 76, 77, 78] (by decide +kernel) (by decide +kernel)
set_option maxRecDepth 20000 in
theorem gX3_writeAtOwner_X2_pushWriteStampAbove_n150 : GoodIn wsX3_writeAtOwner (wsX2_pushWriteStampAbove) := ggX3_writeAtOwner_X2_pushWriteStampAbove
set_option maxRecDepth 20000 in
theorem ggX3_writeAtOwner_X0_greatestStampIn : GoodIn wsX3_writeAtOwner wsX0_greatestStampIn := goodIn_r _ [56, 57, 36, 58, 59, 60, 26, 61, 35, 62, 63, 64, 65, 66, 67, 68, 69] (by decide +kernel) (by decide +kernel)
set_option maxRecDepth 20000 in
theorem gX3_writeAtOwner_X0_greatestStampIn_n156 : GoodIn wsX3_writeAtOwner (wsX0_greatestStampIn) := ggX3_writeAtOwner_X0_greatestStampIn
theorem dX3_writeAtOwner_0 : decode cX3_writeAtOwner 0 = .ok (.aload_n 2, 1) := by decide +kernel
theorem dX3_writeAtOwner_1 : decode cX3_writeAtOwner 1 = .ok (.getfield 130, 3) := by decide +kernel
theorem dX3_writeAtOwner_4 : decode cX3_writeAtOwner 4 = .ok (.aload_n 1, 1) := by decide +kernel
theorem dX3_writeAtOwner_5 : decode cX3_writeAtOwner 5 = .ok (.if_acmp .ne 10, 3) := by decide +kernel
theorem dX3_writeAtOwner_8 : decode cX3_writeAtOwner 8 = .ok (.aload_n 2, 1) := by decide +kernel
theorem dX3_writeAtOwner_9 : decode cX3_writeAtOwner 9 = .ok (.iload_n 3, 1) := by decide +kernel
theorem dX3_writeAtOwner_10 : decode cX3_writeAtOwner 10 = .ok (.putfield 143, 3) := by decide +kernel
theorem dX3_writeAtOwner_13 : decode cX3_writeAtOwner 13 = .ok (.iconst 0, 1) := by decide +kernel
theorem dX3_writeAtOwner_14 : decode cX3_writeAtOwner 14 = .ok (.ireturn, 1) := by decide +kernel
theorem dX3_writeAtOwner_15 : decode cX3_writeAtOwner 15 = .ok (.aload_n 2, 1) := by decide +kernel
theorem dX3_writeAtOwner_16 : decode cX3_writeAtOwner 16 = .ok (.aload_n 1, 1) := by decide +kernel
theorem dX3_writeAtOwner_17 : decode cX3_writeAtOwner 17 = .ok (.invokestatic 146, 3) := by decide +kernel
theorem dX3_writeAtOwner_20 : decode cX3_writeAtOwner 20 = .ok (.astore 4, 2) := by decide +kernel
theorem dX3_writeAtOwner_22 : decode cX3_writeAtOwner 22 = .ok (.aload 4, 2) := by decide +kernel
theorem dX3_writeAtOwner_24 : decode cX3_writeAtOwner 24 = .ok (.ifnull 31, 3) := by decide +kernel
theorem dX3_writeAtOwner_27 : decode cX3_writeAtOwner 27 = .ok (.aload 4, 2) := by decide +kernel
theorem dX3_writeAtOwner_29 : decode cX3_writeAtOwner 29 = .ok (.getfield 175, 3) := by decide +kernel
theorem dX3_writeAtOwner_32 : decode cX3_writeAtOwner 32 = .ok (.aload_n 1, 1) := by decide +kernel
theorem dX3_writeAtOwner_33 : decode cX3_writeAtOwner 33 = .ok (.getfield 175, 3) := by decide +kernel
theorem dX3_writeAtOwner_36 : decode cX3_writeAtOwner 36 = .ok (.if_icmp .ge 6, 3) := by decide +kernel
theorem dX3_writeAtOwner_39 : decode cX3_writeAtOwner 39 = .ok (.bipush (-5), 2) := by decide +kernel
theorem dX3_writeAtOwner_41 : decode cX3_writeAtOwner 41 = .ok (.ireturn, 1) := by decide +kernel
theorem dX3_writeAtOwner_42 : decode cX3_writeAtOwner 42 = .ok (.aload_n 0, 1) := by decide +kernel
theorem dX3_writeAtOwner_43 : decode cX3_writeAtOwner 43 = .ok (.aload 4, 2) := by decide +kernel
theorem dX3_writeAtOwner_45 : decode cX3_writeAtOwner 45 = .ok (.lconst 0, 1) := by decide +kernel
theorem dX3_writeAtOwner_46 : decode cX3_writeAtOwner 46 = .ok (.invokevirtual 114, 3) := by decide +kernel
theorem dX3_writeAtOwner_49 : decode cX3_writeAtOwner 49 = .ok (.aload 4, 2) := by decide +kernel
theorem dX3_writeAtOwner_51 : decode cX3_writeAtOwner 51 = .ok (.iconst 1, 1) := by decide +kernel
theorem dX3_writeAtOwner_52 : decode cX3_writeAtOwner 52 = .ok (.putfield 178, 3) := by decide +kernel
theorem dX3_writeAtOwner_55 : decode cX3_writeAtOwner 55 = .ok (.aload_n 2, 1) := by decide +kernel
theorem dX3_writeAtOwner_56 : decode cX3_writeAtOwner 56 = .ok (.getfield 137, 3) := by decide +kernel
theorem dX3_writeAtOwner_59 : decode cX3_writeAtOwner 59 = .ok (.bipush 16, 2) := by decide +kernel
theorem dX3_writeAtOwner_61 : decode cX3_writeAtOwner 61 = .ok (.if_icmp .lt 6, 3) := by decide +kernel
theorem dX3_writeAtOwner_64 : decode cX3_writeAtOwner 64 = .ok (.bipush (-7), 2) := by decide +kernel
theorem dX3_writeAtOwner_66 : decode cX3_writeAtOwner 66 = .ok (.ireturn, 1) := by decide +kernel
theorem dX3_writeAtOwner_67 : decode cX3_writeAtOwner 67 = .ok (.aload_n 1, 1) := by decide +kernel
theorem dX3_writeAtOwner_68 : decode cX3_writeAtOwner 68 = .ok (.aload_n 2, 1) := by decide +kernel
theorem dX3_writeAtOwner_69 : decode cX3_writeAtOwner 69 = .ok (.getfield 182, 3) := by decide +kernel
theorem dX3_writeAtOwner_72 : decode cX3_writeAtOwner 72 = .ok (.invokevirtual 150, 3) := by decide +kernel
theorem dX3_writeAtOwner_75 : decode cX3_writeAtOwner 75 = .ok (.aload_n 1, 1) := by decide +kernel
theorem dX3_writeAtOwner_76 : decode cX3_writeAtOwner 76 = .ok (.aload_n 2, 1) := by decide +kernel
theorem dX3_writeAtOwner_77 : decode cX3_writeAtOwner 77 = .ok (.ldc2_w 53, 3) := by decide +kernel
theorem dX3_writeAtOwner_80 : decode cX3_writeAtOwner 80 = .ok (.ldc2_w 187, 3) := by decide +kernel
theorem dX3_writeAtOwner_83 : decode cX3_writeAtOwner 83 = .ok (.invokevirtual 156, 3) := by decide +kernel
theorem dX3_writeAtOwner_86 : decode cX3_writeAtOwner 86 = .ok (.invokevirtual 150, 3) := by decide +kernel
theorem dX3_writeAtOwner_89 : decode cX3_writeAtOwner 89 = .ok (.aload_n 2, 1) := by decide +kernel
theorem dX3_writeAtOwner_90 : decode cX3_writeAtOwner 90 = .ok (.aload_n 1, 1) := by decide +kernel
theorem dX3_writeAtOwner_91 : decode cX3_writeAtOwner 91 = .ok (.putfield 130, 3) := by decide +kernel
theorem dX3_writeAtOwner_94 : decode cX3_writeAtOwner 94 = .ok (.aload_n 2, 1) := by decide +kernel
theorem dX3_writeAtOwner_95 : decode cX3_writeAtOwner 95 = .ok (.iload_n 3, 1) := by decide +kernel
theorem dX3_writeAtOwner_96 : decode cX3_writeAtOwner 96 = .ok (.putfield 143, 3) := by decide +kernel
theorem dX3_writeAtOwner_99 : decode cX3_writeAtOwner 99 = .ok (.iconst 0, 1) := by decide +kernel
theorem dX3_writeAtOwner_100 : decode cX3_writeAtOwner 100 = .ok (.ireturn, 1) := by decide +kernel
set_option maxRecDepth 20000 in
theorem ggX3_moveReadsToWriteStamp_X3_moveReadToWriteStamp : GoodIn wsX3_moveReadsToWriteStamp wsX3_moveReadToWriteStamp := goodIn_r _ [5, 6, 7, 8, 9, 10, 11, 12, 13, 14, 15, 16, 17, 18, 19, 4, 20, 21, 22, 23, 24, 25, 26, 27, 28, 29, 30, 31, 32, 33, 34, 35, 36, 37, 38, 39, 40, 41, 42, 43, 44, 45, 46, 47, 48, 49, 50, 51, 52, 53, 54, 55, 56, 57, 58, 74, 75, 76, 77, 78, 79, 80, 81, 65, 66, 67, 68, 69, 70, 71, 72, 73, 82, 83] (by decide +kernel) (by decide +kernel)
set_option maxRecDepth 20000 in
theorem gX3_moveReadsToWriteStamp_X3_moveReadToWriteStamp : GoodIn wsX3_moveReadsToWriteStamp (va_wsS RX3 189 yX3_moveReadToWriteStamp wsX3_moveReadToWriteStamp) := goodIn_app (goodIn_of _ (by decide +kernel)) ggX3_moveReadsToWriteStamp_X3_moveReadToWriteStamp
theorem dX3_moveReadsToWriteStamp_0 : decode cX3_moveReadsToWriteStamp 0 = .ok (.aload_n 0, 1) := by decide +kernel
theorem dX3_moveReadsToWriteStamp_1 : decode cX3_moveReadsToWriteStamp 1 = .ok (.getfield 18, 3) := by decide +kernel
theorem dX3_moveReadsToWriteStamp_4 : decode cX3_moveReadsToWriteStamp 4 = .ok (.astore_n 2, 1) := by decide +kernel
theorem dX3_moveReadsToWriteStamp_5 : decode cX3_moveReadsToWriteStamp 5 = .ok (.aload_n 2, 1) := by decide +kernel
theorem dX3_moveReadsToWriteStamp_6 : decode cX3_moveReadsToWriteStamp 6 = .ok (.arraylength, 1) := by decide +kernel
theorem dX3_moveReadsToWriteStamp_7 : decode cX3_moveReadsToWriteStamp 7 = .ok (.istore_n 3, 1) := by decide +kernel
theorem dX3_moveReadsToWriteStamp_8 : decode cX3_moveReadsToWriteStamp 8 = .ok (.iconst 0, 1) := by decide +kernel
theorem dX3_moveReadsToWriteStamp_9 : decode cX3_moveReadsToWriteStamp 9 = .ok (.istore 4, 2) := by decide +kernel
theorem dX3_moveReadsToWriteStamp_11 : decode cX3_moveReadsToWriteStamp 11 = .ok (.iload 4, 2) := by decide +kernel
theorem dX3_moveReadsToWriteStamp_13 : decode cX3_moveReadsToWriteStamp 13 = .ok (.iload_n 3, 1) := by decide +kernel
theorem dX3_moveReadsToWriteStamp_14 : decode cX3_moveReadsToWriteStamp 14 = .ok (.if_icmp .ge 39, 3) := by decide +kernel
theorem dX3_moveReadsToWriteStamp_17 : decode cX3_moveReadsToWriteStamp 17 = .ok (.aload_n 2, 1) := by decide +kernel
theorem dX3_moveReadsToWriteStamp_18 : decode cX3_moveReadsToWriteStamp 18 = .ok (.iload 4, 2) := by decide +kernel
theorem dX3_moveReadsToWriteStamp_20 : decode cX3_moveReadsToWriteStamp 20 = .ok (.aaload, 1) := by decide +kernel
theorem dX3_moveReadsToWriteStamp_21 : decode cX3_moveReadsToWriteStamp 21 = .ok (.astore 5, 2) := by decide +kernel
theorem dX3_moveReadsToWriteStamp_23 : decode cX3_moveReadsToWriteStamp 23 = .ok (.aload_n 1, 1) := by decide +kernel
theorem dX3_moveReadsToWriteStamp_24 : decode cX3_moveReadsToWriteStamp 24 = .ok (.getfield 165, 3) := by decide +kernel
theorem dX3_moveReadsToWriteStamp_27 : decode cX3_moveReadsToWriteStamp 27 = .ok (.aload 5, 2) := by decide +kernel
theorem dX3_moveReadsToWriteStamp_29 : decode cX3_moveReadsToWriteStamp 29 = .ok (.getfield 168, 3) := by decide +kernel
theorem dX3_moveReadsToWriteStamp_32 : decode cX3_moveReadsToWriteStamp 32 = .ok (.iand, 1) := by decide +kernel
theorem dX3_moveReadsToWriteStamp_33 : decode cX3_moveReadsToWriteStamp 33 = .ok (.ifCond .eq 14, 3) := by decide +kernel
theorem dX3_moveReadsToWriteStamp_36 : decode cX3_moveReadsToWriteStamp 36 = .ok (.aload_n 1, 1) := by decide +kernel
theorem dX3_moveReadsToWriteStamp_37 : decode cX3_moveReadsToWriteStamp 37 = .ok (.aload 5, 2) := by decide +kernel
theorem dX3_moveReadsToWriteStamp_39 : decode cX3_moveReadsToWriteStamp 39 = .ok (.invokestatic 189, 3) := by decide +kernel
theorem dX3_moveReadsToWriteStamp_42 : decode cX3_moveReadsToWriteStamp 42 = .ok (.ifCond .ne 5, 3) := by decide +kernel
theorem dX3_moveReadsToWriteStamp_45 : decode cX3_moveReadsToWriteStamp 45 = .ok (.iconst 0, 1) := by decide +kernel
theorem dX3_moveReadsToWriteStamp_46 : decode cX3_moveReadsToWriteStamp 46 = .ok (.ireturn, 1) := by decide +kernel
theorem dX3_moveReadsToWriteStamp_47 : decode cX3_moveReadsToWriteStamp 47 = .ok (.iinc 4 1, 3) := by decide +kernel
theorem dX3_moveReadsToWriteStamp_50 : decode cX3_moveReadsToWriteStamp 50 = .ok (.goto (-39), 3) := by decide +kernel
theorem dX3_moveReadsToWriteStamp_53 : decode cX3_moveReadsToWriteStamp 53 = .ok (.iconst 1, 1) := by decide +kernel
theorem dX3_moveReadsToWriteStamp_54 : decode cX3_moveReadsToWriteStamp 54 = .ok (.ireturn, 1) := by decide +kernel
set_option maxRecDepth 20000 in
theorem ggX3_moveReadToWriteStamp_X1_takeIn : GoodIn wsX3_moveReadToWriteStamp wsX1_takeIn := goodIn_r _ [5, 6, 7, 8, 9, 10, 11, 12, 72, 73] (by decide +kernel) (by decide +kernel)
set_option maxRecDepth 20000 in
theorem gX3_moveReadToWriteStamp_X1_takeIn_n92 : GoodIn wsX3_moveReadToWriteStamp (wsX1_takeIn) := ggX3_moveReadToWriteStamp_X1_takeIn
set_option maxRecDepth 20000 in
theorem ggX3_moveReadToWriteStamp_X3_lookUp : GoodIn wsX3_moveReadToWriteStamp wsX3_lookUp := goodIn_r _ [16, 2, 3, 4, 5, 6, 7, 8, 9, 10, 11, 12, 17, 18, 19, 20, 21, 22, 23, 24, 25, 26, 27, 28, 29, 30, 31, 32, 33, 34, 35, 36, 55, 56, 57, 58, 59, 60, 61, 62, 63, 64, 65, 66, 67, 68, 69, 70, 71, 72, 73] (by decide +kernel) (by decide +kernel)
set_option maxRecDepth 20000 in
theorem gX3_moveReadToWriteStamp_X3_lookUp : GoodIn wsX3_moveReadToWriteStamp (va_wsS RX3 146 yX3_lookUp wsX3_lookUp) := goodIn_app (goodIn_of _ (by decide +kernel)) ggX3_moveReadToWriteStamp_X3_lookUp
set_option maxRecDepth 20000 in
theorem ggX3_moveReadToWriteStamp_X2_pushWriteStampAbove : GoodIn wsX3_moveReadToWriteStamp wsX2_pushWriteStampAbove := goodIn_r _ [39, 40, 41, 8, 9, 10, 63, 64, 65, 66, 67, 68, 69, 70, 71] (by decide +kernel) (by decide +kernel)
set_option maxRecDepth 20000 in
theorem gX3_moveReadToWriteStamp_X2_pushWriteStampAbove_n150 : GoodIn wsX3_moveReadToWriteStamp (wsX2_pushWriteStampAbove) := ggX3_moveReadToWriteStamp_X2_pushWriteStampAbove
set_option maxRecDepth 20000 in
theorem ggX3_moveReadToWriteStamp_X0_greatestStampIn : GoodIn wsX3_moveReadToWriteStamp wsX0_greatestStampIn := goodIn_r _ [44, 45, 35, 46, 47, 48, 25, 49, 34, 55, 56, 57, 58, 59, 60, 61, 62] (by decide +kernel) (by decide +kernel)
set_option maxRecDepth 20000 in
theorem gX3_moveReadToWriteStamp_X0_greatestStampIn_n156 : GoodIn wsX3_moveReadToWriteStamp (wsX0_greatestStampIn) := ggX3_moveReadToWriteStamp_X0_greatestStampIn
set_option maxRecDepth 20000 in
theorem ggX3_moveReadToWriteStamp_X0_raiseReadMark : GoodIn wsX3_moveReadToWriteStamp wsX0_raiseReadMark := goodIn_r _ [52, 53, 54, 8, 9, 10, 55, 56, 57, 58, 59, 60, 61, 62] (by decide +kernel) (by decide +kernel)
set_option maxRecDepth 20000 in
theorem gX3_moveReadToWriteStamp_X0_raiseReadMark_n162 : GoodIn wsX3_moveReadToWriteStamp (wsX0_raiseReadMark) := ggX3_moveReadToWriteStamp_X0_raiseReadMark
theorem dX3_moveReadToWriteStamp_0 : decode cX3_moveReadToWriteStamp 0 = .ok (.aload_n 1, 1) := by decide +kernel
theorem dX3_moveReadToWriteStamp_1 : decode cX3_moveReadToWriteStamp 1 = .ok (.getfield 89, 3) := by decide +kernel
theorem dX3_moveReadToWriteStamp_4 : decode cX3_moveReadToWriteStamp 4 = .ok (.aload_n 0, 1) := by decide +kernel
theorem dX3_moveReadToWriteStamp_5 : decode cX3_moveReadToWriteStamp 5 = .ok (.getfield 85, 3) := by decide +kernel
theorem dX3_moveReadToWriteStamp_8 : decode cX3_moveReadToWriteStamp 8 = .ok (.getfield 55, 3) := by decide +kernel
theorem dX3_moveReadToWriteStamp_11 : decode cX3_moveReadToWriteStamp 11 = .ok (.invokevirtual 92, 3) := by decide +kernel
theorem dX3_moveReadToWriteStamp_14 : decode cX3_moveReadToWriteStamp 14 = .ok (.aload_n 1, 1) := by decide +kernel
theorem dX3_moveReadToWriteStamp_15 : decode cX3_moveReadToWriteStamp 15 = .ok (.aload_n 0, 1) := by decide +kernel
theorem dX3_moveReadToWriteStamp_16 : decode cX3_moveReadToWriteStamp 16 = .ok (.invokestatic 146, 3) := by decide +kernel
theorem dX3_moveReadToWriteStamp_19 : decode cX3_moveReadToWriteStamp 19 = .ok (.astore_n 2, 1) := by decide +kernel
theorem dX3_moveReadToWriteStamp_20 : decode cX3_moveReadToWriteStamp 20 = .ok (.aload_n 2, 1) := by decide +kernel
theorem dX3_moveReadToWriteStamp_21 : decode cX3_moveReadToWriteStamp 21 = .ok (.ifnull 11, 3) := by decide +kernel
theorem dX3_moveReadToWriteStamp_24 : decode cX3_moveReadToWriteStamp 24 = .ok (.aload_n 2, 1) := by decide +kernel
theorem dX3_moveReadToWriteStamp_25 : decode cX3_moveReadToWriteStamp 25 = .ok (.aload_n 0, 1) := by decide +kernel
theorem dX3_moveReadToWriteStamp_26 : decode cX3_moveReadToWriteStamp 26 = .ok (.getfield 104, 3) := by decide +kernel
theorem dX3_moveReadToWriteStamp_29 : decode cX3_moveReadToWriteStamp 29 = .ok (.invokevirtual 150, 3) := by decide +kernel
theorem dX3_moveReadToWriteStamp_32 : decode cX3_moveReadToWriteStamp 32 = .ok (.aload_n 1, 1) := by decide +kernel
theorem dX3_moveReadToWriteStamp_33 : decode cX3_moveReadToWriteStamp 33 = .ok (.aload_n 0, 1) := by decide +kernel
theorem dX3_moveReadToWriteStamp_34 : decode cX3_moveReadToWriteStamp 34 = .ok (.getfield 107, 3) := by decide +kernel
theorem dX3_moveReadToWriteStamp_37 : decode cX3_moveReadToWriteStamp 37 = .ok (.aload_n 0, 1) := by decide +kernel
theorem dX3_moveReadToWriteStamp_38 : decode cX3_moveReadToWriteStamp 38 = .ok (.getfield 104, 3) := by decide +kernel
theorem dX3_moveReadToWriteStamp_41 : decode cX3_moveReadToWriteStamp 41 = .ok (.invokevirtual 156, 3) := by decide +kernel
theorem dX3_moveReadToWriteStamp_44 : decode cX3_moveReadToWriteStamp 44 = .ok (.ldc2_w 53, 3) := by decide +kernel
theorem dX3_moveReadToWriteStamp_47 : decode cX3_moveReadToWriteStamp 47 = .ok (.lcmp, 1) := by decide +kernel
theorem dX3_moveReadToWriteStamp_48 : decode cX3_moveReadToWriteStamp 48 = .ok (.ifCond .eq 7, 3) := by decide +kernel
theorem dX3_moveReadToWriteStamp_51 : decode cX3_moveReadToWriteStamp 51 = .ok (.iconst 1, 1) := by decide +kernel
theorem dX3_moveReadToWriteStamp_52 : decode cX3_moveReadToWriteStamp 52 = .ok (.goto 4, 3) := by decide +kernel
theorem dX3_moveReadToWriteStamp_55 : decode cX3_moveReadToWriteStamp 55 = .ok (.iconst 0, 1) := by decide +kernel
theorem dX3_moveReadToWriteStamp_56 : decode cX3_moveReadToWriteStamp 56 = .ok (.istore_n 3, 1) := by decide +kernel
theorem dX3_moveReadToWriteStamp_57 : decode cX3_moveReadToWriteStamp 57 = .ok (.iload_n 3, 1) := by decide +kernel
theorem dX3_moveReadToWriteStamp_58 : decode cX3_moveReadToWriteStamp 58 = .ok (.ifCond .ne 11, 3) := by decide +kernel
theorem dX3_moveReadToWriteStamp_61 : decode cX3_moveReadToWriteStamp 61 = .ok (.aload_n 1, 1) := by decide +kernel
theorem dX3_moveReadToWriteStamp_62 : decode cX3_moveReadToWriteStamp 62 = .ok (.aload_n 0, 1) := by decide +kernel
theorem dX3_moveReadToWriteStamp_63 : decode cX3_moveReadToWriteStamp 63 = .ok (.getfield 104, 3) := by decide +kernel
theorem dX3_moveReadToWriteStamp_66 : decode cX3_moveReadToWriteStamp 66 = .ok (.invokevirtual 162, 3) := by decide +kernel
theorem dX3_moveReadToWriteStamp_69 : decode cX3_moveReadToWriteStamp 69 = .ok (.aload_n 0, 1) := by decide +kernel
theorem dX3_moveReadToWriteStamp_70 : decode cX3_moveReadToWriteStamp 70 = .ok (.getfield 85, 3) := by decide +kernel
theorem dX3_moveReadToWriteStamp_73 : decode cX3_moveReadToWriteStamp 73 = .ok (.aload_n 1, 1) := by decide +kernel
theorem dX3_moveReadToWriteStamp_74 : decode cX3_moveReadToWriteStamp 74 = .ok (.getfield 89, 3) := by decide +kernel
theorem dX3_moveReadToWriteStamp_77 : decode cX3_moveReadToWriteStamp 77 = .ok (.getfield 55, 3) := by decide +kernel
theorem dX3_moveReadToWriteStamp_80 : decode cX3_moveReadToWriteStamp 80 = .ok (.invokevirtual 92, 3) := by decide +kernel
theorem dX3_moveReadToWriteStamp_83 : decode cX3_moveReadToWriteStamp 83 = .ok (.iload_n 3, 1) := by decide +kernel
theorem dX3_moveReadToWriteStamp_84 : decode cX3_moveReadToWriteStamp 84 = .ok (.ifCond .ne 7, 3) := by decide +kernel
theorem dX3_moveReadToWriteStamp_87 : decode cX3_moveReadToWriteStamp 87 = .ok (.iconst 1, 1) := by decide +kernel
theorem dX3_moveReadToWriteStamp_88 : decode cX3_moveReadToWriteStamp 88 = .ok (.goto 4, 3) := by decide +kernel
theorem dX3_moveReadToWriteStamp_91 : decode cX3_moveReadToWriteStamp 91 = .ok (.iconst 0, 1) := by decide +kernel
theorem dX3_moveReadToWriteStamp_92 : decode cX3_moveReadToWriteStamp 92 = .ok (.ireturn, 1) := by decide +kernel
set_option maxRecDepth 20000 in
theorem ggX3_lookUp_X1_takeIn : GoodIn wsX3_lookUp wsX1_takeIn := goodIn_r _ [4, 5, 6, 7, 8, 9, 10, 11, 49, 50] (by decide +kernel) (by decide +kernel)
set_option maxRecDepth 20000 in
theorem gX3_lookUp_X1_takeIn_n92 : GoodIn wsX3_lookUp (wsX1_takeIn) := ggX3_lookUp_X1_takeIn
set_option maxRecDepth 20000 in
theorem ggX3_lookUp_X2_abortIfSilent : GoodIn wsX3_lookUp wsX2_abortIfSilent := goodIn_r _ [15, 16, 17, 18, 40, 41, 42, 43, 44, 45, 46, 47, 48, 49, 50] (by decide +kernel) (by decide +kernel)
set_option maxRecDepth 20000 in
theorem gX3_lookUp_X2_abortIfSilent_n193 : GoodIn wsX3_lookUp (wsX2_abortIfSilent) := ggX3_lookUp_X2_abortIfSilent
set_option maxRecDepth 20000 in
theorem ggX3_lookUp_X0_settleIntent : GoodIn wsX3_lookUp wsX0_settleIntent := goodIn_r _ [22, 23, 24, 25, 26, 27, 20, 28, 29, 30, 31, 32, 33, 34, 35, 36, 37, 38, 39, 40, 41, 42, 43, 44, 45, 46, 47, 48] (by decide +kernel) (by decide +kernel)
set_option maxRecDepth 20000 in
theorem gX3_lookUp_X0_settleIntent_n134 : GoodIn wsX3_lookUp (wsX0_settleIntent) := ggX3_lookUp_X0_settleIntent
theorem dX3_lookUp_0 : decode cX3_lookUp 0 = .ok (.aload_n 0, 1) := by decide +kernel
theorem dX3_lookUp_1 : decode cX3_lookUp 1 = .ok (.getfield 130, 3) := by decide +kernel
theorem dX3_lookUp_4 : decode cX3_lookUp 4 = .ok (.astore_n 2, 1) := by decide +kernel
theorem dX3_lookUp_5 : decode cX3_lookUp 5 = .ok (.aload_n 2, 1) := by decide +kernel
theorem dX3_lookUp_6 : decode cX3_lookUp 6 = .ok (.ifnull 8, 3) := by decide +kernel
theorem dX3_lookUp_9 : decode cX3_lookUp 9 = .ok (.aload_n 2, 1) := by decide +kernel
theorem dX3_lookUp_10 : decode cX3_lookUp 10 = .ok (.aload_n 1, 1) := by decide +kernel
theorem dX3_lookUp_11 : decode cX3_lookUp 11 = .ok (.if_acmp .ne 5, 3) := by decide +kernel
theorem dX3_lookUp_14 : decode cX3_lookUp 14 = .ok (.aconst_null, 1) := by decide +kernel
theorem dX3_lookUp_15 : decode cX3_lookUp 15 = .ok (.areturn, 1) := by decide +kernel
theorem dX3_lookUp_16 : decode cX3_lookUp 16 = .ok (.aload_n 2, 1) := by decide +kernel
theorem dX3_lookUp_17 : decode cX3_lookUp 17 = .ok (.getfield 85, 3) := by decide +kernel
theorem dX3_lookUp_20 : decode cX3_lookUp 20 = .ok (.aload_n 0, 1) := by decide +kernel
theorem dX3_lookUp_21 : decode cX3_lookUp 21 = .ok (.getfield 89, 3) := by decide +kernel
theorem dX3_lookUp_24 : decode cX3_lookUp 24 = .ok (.getfield 55, 3) := by decide +kernel
theorem dX3_lookUp_27 : decode cX3_lookUp 27 = .ok (.invokevirtual 92, 3) := by decide +kernel
theorem dX3_lookUp_30 : decode cX3_lookUp 30 = .ok (.aload_n 0, 1) := by decide +kernel
theorem dX3_lookUp_31 : decode cX3_lookUp 31 = .ok (.getfield 89, 3) := by decide +kernel
theorem dX3_lookUp_34 : decode cX3_lookUp 34 = .ok (.aload_n 2, 1) := by decide +kernel
theorem dX3_lookUp_35 : decode cX3_lookUp 35 = .ok (.getfield 85, 3) := by decide +kernel
theorem dX3_lookUp_38 : decode cX3_lookUp 38 = .ok (.getfield 55, 3) := by decide +kernel
theorem dX3_lookUp_41 : decode cX3_lookUp 41 = .ok (.invokevirtual 92, 3) := by decide +kernel
theorem dX3_lookUp_44 : decode cX3_lookUp 44 = .ok (.aload_n 2, 1) := by decide +kernel
theorem dX3_lookUp_45 : decode cX3_lookUp 45 = .ok (.invokevirtual 193, 3) := by decide +kernel
theorem dX3_lookUp_48 : decode cX3_lookUp 48 = .ok (.aload_n 2, 1) := by decide +kernel
theorem dX3_lookUp_49 : decode cX3_lookUp 49 = .ok (.getfield 118, 3) := by decide +kernel
theorem dX3_lookUp_52 : decode cX3_lookUp 52 = .ok (.iconst 1, 1) := by decide +kernel
theorem dX3_lookUp_53 : decode cX3_lookUp 53 = .ok (.if_icmp .ne 5, 3) := by decide +kernel
theorem dX3_lookUp_56 : decode cX3_lookUp 56 = .ok (.aload_n 2, 1) := by decide +kernel
theorem dX3_lookUp_57 : decode cX3_lookUp 57 = .ok (.areturn, 1) := by decide +kernel
theorem dX3_lookUp_58 : decode cX3_lookUp 58 = .ok (.aload_n 0, 1) := by decide +kernel
theorem dX3_lookUp_59 : decode cX3_lookUp 59 = .ok (.invokevirtual 134, 3) := by decide +kernel
theorem dX3_lookUp_62 : decode cX3_lookUp 62 = .ok (.aconst_null, 1) := by decide +kernel
theorem dX3_lookUp_63 : decode cX3_lookUp 63 = .ok (.areturn, 1) := by decide +kernel
set_option maxRecDepth 20000 in
theorem ggX3_restart_X2_moveTo : GoodIn wsX3_restart wsX2_moveTo := goodIn_r _ [5, 6, 7, 8, 9, 10, 11, 12, 13, 28, 29, 30, 31, 32, 33, 34, 35, 36] (by decide +kernel) (by decide +kernel)
set_option maxRecDepth 20000 in
theorem gX3_restart_X2_moveTo_n196 : GoodIn wsX3_restart (wsX2_moveTo) := ggX3_restart_X2_moveTo
theorem dX3_restart_0 : decode cX3_restart 0 = .ok (.aload_n 0, 1) := by decide +kernel
theorem dX3_restart_1 : decode cX3_restart 1 = .ok (.getfield 18, 3) := by decide +kernel
theorem dX3_restart_4 : decode cX3_restart 4 = .ok (.astore 4, 2) := by decide +kernel
theorem dX3_restart_6 : decode cX3_restart 6 = .ok (.aload 4, 2) := by decide +kernel
theorem dX3_restart_8 : decode cX3_restart 8 = .ok (.arraylength, 1) := by decide +kernel
theorem dX3_restart_9 : decode cX3_restart 9 = .ok (.istore 5, 2) := by decide +kernel
theorem dX3_restart_11 : decode cX3_restart 11 = .ok (.iconst 0, 1) := by decide +kernel
theorem dX3_restart_12 : decode cX3_restart 12 = .ok (.istore 6, 2) := by decide +kernel
theorem dX3_restart_14 : decode cX3_restart 14 = .ok (.iload 6, 2) := by decide +kernel
theorem dX3_restart_16 : decode cX3_restart 16 = .ok (.iload 5, 2) := by decide +kernel
theorem dX3_restart_18 : decode cX3_restart 18 = .ok (.if_icmp .ge 31, 3) := by decide +kernel
theorem dX3_restart_21 : decode cX3_restart 21 = .ok (.aload 4, 2) := by decide +kernel
theorem dX3_restart_23 : decode cX3_restart 23 = .ok (.iload 6, 2) := by decide +kernel
theorem dX3_restart_25 : decode cX3_restart 25 = .ok (.aaload, 1) := by decide +kernel
theorem dX3_restart_26 : decode cX3_restart 26 = .ok (.astore 7, 2) := by decide +kernel
theorem dX3_restart_28 : decode cX3_restart 28 = .ok (.aload 7, 2) := by decide +kernel
theorem dX3_restart_30 : decode cX3_restart 30 = .ok (.getfield 130, 3) := by decide +kernel
theorem dX3_restart_33 : decode cX3_restart 33 = .ok (.aload_n 1, 1) := by decide +kernel
theorem dX3_restart_34 : decode cX3_restart 34 = .ok (.if_acmp .ne 9, 3) := by decide +kernel
theorem dX3_restart_37 : decode cX3_restart 37 = .ok (.aload 7, 2) := by decide +kernel
theorem dX3_restart_39 : decode cX3_restart 39 = .ok (.aconst_null, 1) := by decide +kernel
theorem dX3_restart_40 : decode cX3_restart 40 = .ok (.putfield 130, 3) := by decide +kernel
theorem dX3_restart_43 : decode cX3_restart 43 = .ok (.iinc 6 1, 3) := by decide +kernel
theorem dX3_restart_46 : decode cX3_restart 46 = .ok (.goto (-32), 3) := by decide +kernel
theorem dX3_restart_49 : decode cX3_restart 49 = .ok (.aload_n 1, 1) := by decide +kernel
theorem dX3_restart_50 : decode cX3_restart 50 = .ok (.lload_n 2, 1) := by decide +kernel
theorem dX3_restart_51 : decode cX3_restart 51 = .ok (.invokevirtual 196, 3) := by decide +kernel
theorem dX3_restart_54 : decode cX3_restart 54 = .ok (.return_, 1) := by decide +kernel
theorem dX3_logCommit_0 : decode cX3_logCommit 0 = .ok (.aload_n 0, 1) := by decide +kernel
theorem dX3_logCommit_1 : decode cX3_logCommit 1 = .ok (.getfield 140, 3) := by decide +kernel
theorem dX3_logCommit_4 : decode cX3_logCommit 4 = .ok (.sipush 256, 3) := by decide +kernel
theorem dX3_logCommit_7 : decode cX3_logCommit 7 = .ok (.if_icmp .ge 23, 3) := by decide +kernel
theorem dX3_logCommit_10 : decode cX3_logCommit 10 = .ok (.aload_n 0, 1) := by decide +kernel
theorem dX3_logCommit_11 : decode cX3_logCommit 11 = .ok (.getfield 34, 3) := by decide +kernel
theorem dX3_logCommit_14 : decode cX3_logCommit 14 = .ok (.aload_n 0, 1) := by decide +kernel
theorem dX3_logCommit_15 : decode cX3_logCommit 15 = .ok (.getfield 140, 3) := by decide +kernel
theorem dX3_logCommit_18 : decode cX3_logCommit 18 = .ok (.lload_n 1, 1) := by decide +kernel
theorem dX3_logCommit_19 : decode cX3_logCommit 19 = .ok (.lastore, 1) := by decide +kernel
theorem dX3_logCommit_20 : decode cX3_logCommit 20 = .ok (.aload_n 0, 1) := by decide +kernel
theorem dX3_logCommit_21 : decode cX3_logCommit 21 = .ok (.dup, 1) := by decide +kernel
theorem dX3_logCommit_22 : decode cX3_logCommit 22 = .ok (.getfield 140, 3) := by decide +kernel
theorem dX3_logCommit_25 : decode cX3_logCommit 25 = .ok (.iconst 1, 1) := by decide +kernel
theorem dX3_logCommit_26 : decode cX3_logCommit 26 = .ok (.iadd, 1) := by decide +kernel
theorem dX3_logCommit_27 : decode cX3_logCommit 27 = .ok (.putfield 140, 3) := by decide +kernel
theorem dX3_logCommit_30 : decode cX3_logCommit 30 = .ok (.return_, 1) := by decide +kernel
end
section
theorem dX4_init_0 : decode cX4_init 0 = .ok (.aload_n 0, 1) := by decide +kernel
theorem dX4_init_1 : decode cX4_init 1 = .ok (.invokespecial 1, 3) := by decide +kernel
theorem dX4_init_4 : decode cX4_init 4 = .ok (.aload_n 0, 1) := by decide +kernel
theorem dX4_init_5 : decode cX4_init 5 = .ok (.iconst 4, 1) := by decide +kernel
theorem dX4_init_6 : decode cX4_init 6 = .ok (.newarray .int, 2) := by decide +kernel
theorem dX4_init_8 : decode cX4_init 8 = .ok (.putfield 7, 3) := by decide +kernel
theorem dX4_init_11 : decode cX4_init 11 = .ok (.aload_n 0, 1) := by decide +kernel
theorem dX4_init_12 : decode cX4_init 12 = .ok (.iconst 4, 1) := by decide +kernel
theorem dX4_init_13 : decode cX4_init 13 = .ok (.newarray .long, 2) := by decide +kernel
theorem dX4_init_15 : decode cX4_init 15 = .ok (.putfield 13, 3) := by decide +kernel
theorem dX4_init_18 : decode cX4_init 18 = .ok (.aload_n 0, 1) := by decide +kernel
theorem dX4_init_19 : decode cX4_init 19 = .ok (.bipush 8, 2) := by decide +kernel
theorem dX4_init_21 : decode cX4_init 21 = .ok (.newarray .int, 2) := by decide +kernel
theorem dX4_init_23 : decode cX4_init 23 = .ok (.putfield 17, 3) := by decide +kernel
theorem dX4_init_26 : decode cX4_init 26 = .ok (.aload_n 0, 1) := by decide +kernel
theorem dX4_init_27 : decode cX4_init 27 = .ok (.bipush 8, 2) := by decide +kernel
theorem dX4_init_29 : decode cX4_init 29 = .ok (.newarray .int, 2) := by decide +kernel
theorem dX4_init_31 : decode cX4_init 31 = .ok (.putfield 20, 3) := by decide +kernel
theorem dX4_init_34 : decode cX4_init 34 = .ok (.aload_n 0, 1) := by decide +kernel
theorem dX4_init_35 : decode cX4_init 35 = .ok (.bipush 8, 2) := by decide +kernel
theorem dX4_init_37 : decode cX4_init 37 = .ok (.newarray .int, 2) := by decide +kernel
theorem dX4_init_39 : decode cX4_init 39 = .ok (.putfield 23, 3) := by decide +kernel
theorem dX4_init_42 : decode cX4_init 42 = .ok (.aload_n 0, 1) := by decide +kernel
theorem dX4_init_43 : decode cX4_init 43 = .ok (.bipush 8, 2) := by decide +kernel
theorem dX4_init_45 : decode cX4_init 45 = .ok (.newarray .long, 2) := by decide +kernel
theorem dX4_init_47 : decode cX4_init 47 = .ok (.putfield 26, 3) := by decide +kernel
theorem dX4_init_50 : decode cX4_init 50 = .ok (.aload_n 0, 1) := by decide +kernel
theorem dX4_init_51 : decode cX4_init 51 = .ok (.bipush 8, 2) := by decide +kernel
theorem dX4_init_53 : decode cX4_init 53 = .ok (.newarray .long, 2) := by decide +kernel
theorem dX4_init_55 : decode cX4_init 55 = .ok (.putfield 29, 3) := by decide +kernel
theorem dX4_init_58 : decode cX4_init 58 = .ok (.aload_n 0, 1) := by decide +kernel
theorem dX4_init_59 : decode cX4_init 59 = .ok (.bipush 8, 2) := by decide +kernel
theorem dX4_init_61 : decode cX4_init 61 = .ok (.newarray .long, 2) := by decide +kernel
theorem dX4_init_63 : decode cX4_init 63 = .ok (.putfield 32, 3) := by decide +kernel
theorem dX4_init_66 : decode cX4_init 66 = .ok (.aload_n 0, 1) := by decide +kernel
theorem dX4_init_67 : decode cX4_init 67 = .ok (.bipush 8, 2) := by decide +kernel
theorem dX4_init_69 : decode cX4_init 69 = .ok (.newarray .long, 2) := by decide +kernel
theorem dX4_init_71 : decode cX4_init 71 = .ok (.putfield 35, 3) := by decide +kernel
theorem dX4_init_74 : decode cX4_init 74 = .ok (.aload_n 0, 1) := by decide +kernel
theorem dX4_init_75 : decode cX4_init 75 = .ok (.bipush 8, 2) := by decide +kernel
theorem dX4_init_77 : decode cX4_init 77 = .ok (.newarray .boolean, 2) := by decide +kernel
theorem dX4_init_79 : decode cX4_init 79 = .ok (.putfield 38, 3) := by decide +kernel
theorem dX4_init_82 : decode cX4_init 82 = .ok (.aload_n 0, 1) := by decide +kernel
theorem dX4_init_83 : decode cX4_init 83 = .ok (.sipush 128, 3) := by decide +kernel
theorem dX4_init_86 : decode cX4_init 86 = .ok (.newarray .boolean, 2) := by decide +kernel
theorem dX4_init_88 : decode cX4_init 88 = .ok (.putfield 42, 3) := by decide +kernel
theorem dX4_init_91 : decode cX4_init 91 = .ok (.aload_n 0, 1) := by decide +kernel
theorem dX4_init_92 : decode cX4_init 92 = .ok (.sipush 512, 3) := by decide +kernel
theorem dX4_init_95 : decode cX4_init 95 = .ok (.newarray .long, 2) := by decide +kernel
theorem dX4_init_97 : decode cX4_init 97 = .ok (.putfield 45, 3) := by decide +kernel
theorem dX4_init_100 : decode cX4_init 100 = .ok (.aload_n 0, 1) := by decide +kernel
theorem dX4_init_101 : decode cX4_init 101 = .ok (.bipush 16, 2) := by decide +kernel
theorem dX4_init_103 : decode cX4_init 103 = .ok (.newarray .long, 2) := by decide +kernel
theorem dX4_init_105 : decode cX4_init 105 = .ok (.putfield 48, 3) := by decide +kernel
theorem dX4_init_108 : decode cX4_init 108 = .ok (.aload_n 0, 1) := by decide +kernel
theorem dX4_init_109 : decode cX4_init 109 = .ok (.bipush 16, 2) := by decide +kernel
theorem dX4_init_111 : decode cX4_init 111 = .ok (.newarray .int, 2) := by decide +kernel
theorem dX4_init_113 : decode cX4_init 113 = .ok (.putfield 51, 3) := by decide +kernel
theorem dX4_init_116 : decode cX4_init 116 = .ok (.aload_n 0, 1) := by decide +kernel
theorem dX4_init_117 : decode cX4_init 117 = .ok (.bipush 16, 2) := by decide +kernel
theorem dX4_init_119 : decode cX4_init 119 = .ok (.newarray .int, 2) := by decide +kernel
theorem dX4_init_121 : decode cX4_init 121 = .ok (.putfield 54, 3) := by decide +kernel
theorem dX4_init_124 : decode cX4_init 124 = .ok (.aload_n 0, 1) := by decide +kernel
theorem dX4_init_125 : decode cX4_init 125 = .ok (.sipush 256, 3) := by decide +kernel
theorem dX4_init_128 : decode cX4_init 128 = .ok (.newarray .int, 2) := by decide +kernel
theorem dX4_init_130 : decode cX4_init 130 = .ok (.putfield 57, 3) := by decide +kernel
theorem dX4_init_133 : decode cX4_init 133 = .ok (.aload_n 0, 1) := by decide +kernel
theorem dX4_init_134 : decode cX4_init 134 = .ok (.sipush 256, 3) := by decide +kernel
theorem dX4_init_137 : decode cX4_init 137 = .ok (.newarray .long, 2) := by decide +kernel
theorem dX4_init_139 : decode cX4_init 139 = .ok (.putfield 60, 3) := by decide +kernel
theorem dX4_init_142 : decode cX4_init 142 = .ok (.aload_n 0, 1) := by decide +kernel
theorem dX4_init_143 : decode cX4_init 143 = .ok (.sipush 256, 3) := by decide +kernel
theorem dX4_init_146 : decode cX4_init 146 = .ok (.newarray .int, 2) := by decide +kernel
theorem dX4_init_148 : decode cX4_init 148 = .ok (.putfield 63, 3) := by decide +kernel
theorem dX4_init_151 : decode cX4_init 151 = .ok (.return_, 1) := by decide +kernel
theorem dX4_receive_0 : decode cX4_receive 0 = .ok (.aload_n 0, 1) := by decide +kernel
theorem dX4_receive_1 : decode cX4_receive 1 = .ok (.getfield 13, 3) := by decide +kernel
theorem dX4_receive_4 : decode cX4_receive 4 = .ok (.iload_n 1, 1) := by decide +kernel
theorem dX4_receive_5 : decode cX4_receive 5 = .ok (.laload, 1) := by decide +kernel
theorem dX4_receive_6 : decode cX4_receive 6 = .ok (.lload_n 2, 1) := by decide +kernel
theorem dX4_receive_7 : decode cX4_receive 7 = .ok (.lcmp, 1) := by decide +kernel
theorem dX4_receive_8 : decode cX4_receive 8 = .ok (.ifCond .le 12, 3) := by decide +kernel
theorem dX4_receive_11 : decode cX4_receive 11 = .ok (.aload_n 0, 1) := by decide +kernel
theorem dX4_receive_12 : decode cX4_receive 12 = .ok (.getfield 13, 3) := by decide +kernel
theorem dX4_receive_15 : decode cX4_receive 15 = .ok (.iload_n 1, 1) := by decide +kernel
theorem dX4_receive_16 : decode cX4_receive 16 = .ok (.laload, 1) := by decide +kernel
theorem dX4_receive_17 : decode cX4_receive 17 = .ok (.goto 4, 3) := by decide +kernel
theorem dX4_receive_20 : decode cX4_receive 20 = .ok (.lload_n 2, 1) := by decide +kernel
theorem dX4_receive_21 : decode cX4_receive 21 = .ok (.lconst 1, 1) := by decide +kernel
theorem dX4_receive_22 : decode cX4_receive 22 = .ok (.ladd, 1) := by decide +kernel
theorem dX4_receive_23 : decode cX4_receive 23 = .ok (.lstore 4, 2) := by decide +kernel
theorem dX4_receive_25 : decode cX4_receive 25 = .ok (.aload_n 0, 1) := by decide +kernel
theorem dX4_receive_26 : decode cX4_receive 26 = .ok (.getfield 7, 3) := by decide +kernel
theorem dX4_receive_29 : decode cX4_receive 29 = .ok (.iload_n 1, 1) := by decide +kernel
theorem dX4_receive_30 : decode cX4_receive 30 = .ok (.iaload, 1) := by decide +kernel
theorem dX4_receive_31 : decode cX4_receive 31 = .ok (.i2l, 1) := by decide +kernel
theorem dX4_receive_32 : decode cX4_receive 32 = .ok (.bipush 20, 2) := by decide +kernel
theorem dX4_receive_34 : decode cX4_receive 34 = .ok (.lshl, 1) := by decide +kernel
theorem dX4_receive_35 : decode cX4_receive 35 = .ok (.lstore 6, 2) := by decide +kernel
theorem dX4_receive_37 : decode cX4_receive 37 = .ok (.aload_n 0, 1) := by decide +kernel
theorem dX4_receive_38 : decode cX4_receive 38 = .ok (.getfield 13, 3) := by decide +kernel
theorem dX4_receive_41 : decode cX4_receive 41 = .ok (.iload_n 1, 1) := by decide +kernel
theorem dX4_receive_42 : decode cX4_receive 42 = .ok (.lload 4, 2) := by decide +kernel
theorem dX4_receive_44 : decode cX4_receive 44 = .ok (.lload 6, 2) := by decide +kernel
theorem dX4_receive_46 : decode cX4_receive 46 = .ok (.lcmp, 1) := by decide +kernel
theorem dX4_receive_47 : decode cX4_receive 47 = .ok (.ifCond .le 8, 3) := by decide +kernel
theorem dX4_receive_50 : decode cX4_receive 50 = .ok (.lload 4, 2) := by decide +kernel
theorem dX4_receive_52 : decode cX4_receive 52 = .ok (.goto 5, 3) := by decide +kernel
theorem dX4_receive_55 : decode cX4_receive 55 = .ok (.lload 6, 2) := by decide +kernel
theorem dX4_receive_57 : decode cX4_receive 57 = .ok (.lastore, 1) := by decide +kernel
theorem dX4_receive_58 : decode cX4_receive 58 = .ok (.return_, 1) := by decide +kernel
set_option maxRecDepth 20000 in
theorem ggX4_event_X4_receive : GoodIn wsX4_event wsX4_receive := goodIn_r _ [6, 1, 7, 8, 9, 10, 11, 12, 13, 14, 15, 16, 17, 18, 19, 20, 21, 22, 23, 24, 25, 26, 27, 28] (by decide +kernel) (by decide +kernel)
set_option maxRecDepth 20000 in
theorem gX4_event_X4_receive : GoodIn wsX4_event (wsV RX4 66 RX4 yX4_receive wsX4_receive) := goodIn_app (goodIn_of _ (by decide +kernel)) ggX4_event_X4_receive
theorem dX4_event_0 : decode cX4_event 0 = .ok (.aload_n 0, 1) := by decide +kernel
theorem dX4_event_1 : decode cX4_event 1 = .ok (.iload_n 1, 1) := by decide +kernel
theorem dX4_event_2 : decode cX4_event 2 = .ok (.aload_n 0, 1) := by decide +kernel
theorem dX4_event_3 : decode cX4_event 3 = .ok (.getfield 13, 3) := by decide +kernel
theorem dX4_event_6 : decode cX4_event 6 = .ok (.iload_n 1, 1) := by decide +kernel
theorem dX4_event_7 : decode cX4_event 7 = .ok (.laload, 1) := by decide +kernel
theorem dX4_event_8 : decode cX4_event 8 = .ok (.invokevirtual 66, 3) := by decide +kernel
theorem dX4_event_11 : decode cX4_event 11 = .ok (.return_, 1) := by decide +kernel
set_option maxRecDepth 20000 in
theorem ggX4_tick_X4_event : GoodIn wsX4_tick wsX4_event := goodIn_r _ [7, 8, 9, 10, 11, 6, 12, 1, 13, 14, 15, 16, 17, 18, 19, 20, 21, 22, 23, 24, 25, 26, 27, 28, 29, 30, 31, 32, 33] (by decide +kernel) (by decide +kernel)
set_option maxRecDepth 20000 in
theorem gX4_tick_X4_event : GoodIn wsX4_tick (wsV RX4 72 RX4 yX4_event wsX4_event) := goodIn_app (goodIn_of _ (by decide +kernel)) ggX4_tick_X4_event
theorem dX4_tick_0 : decode cX4_tick 0 = .ok (.iload_n 1, 1) := by decide +kernel
theorem dX4_tick_1 : decode cX4_tick 1 = .ok (.ifCond .lt 8, 3) := by decide +kernel
theorem dX4_tick_4 : decode cX4_tick 4 = .ok (.iload_n 1, 1) := by decide +kernel
theorem dX4_tick_5 : decode cX4_tick 5 = .ok (.iconst 3, 1) := by decide +kernel
theorem dX4_tick_6 : decode cX4_tick 6 = .ok (.if_icmp .le 5, 3) := by decide +kernel
theorem dX4_tick_9 : decode cX4_tick 9 = .ok (.iconst (-1), 1) := by decide +kernel
theorem dX4_tick_10 : decode cX4_tick 10 = .ok (.ireturn, 1) := by decide +kernel
theorem dX4_tick_11 : decode cX4_tick 11 = .ok (.iload_n 2, 1) := by decide +kernel
theorem dX4_tick_12 : decode cX4_tick 12 = .ok (.aload_n 0, 1) := by decide +kernel
theorem dX4_tick_13 : decode cX4_tick 13 = .ok (.getfield 7, 3) := by decide +kernel
theorem dX4_tick_16 : decode cX4_tick 16 = .ok (.iload_n 1, 1) := by decide +kernel
theorem dX4_tick_17 : decode cX4_tick 17 = .ok (.iaload, 1) := by decide +kernel
theorem dX4_tick_18 : decode cX4_tick 18 = .ok (.if_icmp .ge 6, 3) := by decide +kernel
theorem dX4_tick_21 : decode cX4_tick 21 = .ok (.bipush (-2), 2) := by decide +kernel
theorem dX4_tick_23 : decode cX4_tick 23 = .ok (.ireturn, 1) := by decide +kernel
theorem dX4_tick_24 : decode cX4_tick 24 = .ok (.iconst 0, 1) := by decide +kernel
theorem dX4_tick_25 : decode cX4_tick 25 = .ok (.istore_n 3, 1) := by decide +kernel
theorem dX4_tick_26 : decode cX4_tick 26 = .ok (.iload_n 3, 1) := by decide +kernel
theorem dX4_tick_27 : decode cX4_tick 27 = .ok (.iconst 4, 1) := by decide +kernel
theorem dX4_tick_28 : decode cX4_tick 28 = .ok (.if_icmp .ge 34, 3) := by decide +kernel
theorem dX4_tick_31 : decode cX4_tick 31 = .ok (.iload_n 3, 1) := by decide +kernel
theorem dX4_tick_32 : decode cX4_tick 32 = .ok (.iload_n 1, 1) := by decide +kernel
theorem dX4_tick_33 : decode cX4_tick 33 = .ok (.if_icmp .eq 23, 3) := by decide +kernel
theorem dX4_tick_36 : decode cX4_tick 36 = .ok (.iload_n 2, 1) := by decide +kernel
theorem dX4_tick_37 : decode cX4_tick 37 = .ok (.i2l, 1) := by decide +kernel
theorem dX4_tick_38 : decode cX4_tick 38 = .ok (.aload_n 0, 1) := by decide +kernel
theorem dX4_tick_39 : decode cX4_tick 39 = .ok (.getfield 7, 3) := by decide +kernel
theorem dX4_tick_42 : decode cX4_tick 42 = .ok (.iload_n 3, 1) := by decide +kernel
theorem dX4_tick_43 : decode cX4_tick 43 = .ok (.iaload, 1) := by decide +kernel
theorem dX4_tick_44 : decode cX4_tick 44 = .ok (.i2l, 1) := by decide +kernel
theorem dX4_tick_45 : decode cX4_tick 45 = .ok (.lsub, 1) := by decide +kernel
theorem dX4_tick_46 : decode cX4_tick 46 = .ok (.ldc2_w 70, 3) := by decide +kernel
theorem dX4_tick_49 : decode cX4_tick 49 = .ok (.lcmp, 1) := by decide +kernel
theorem dX4_tick_50 : decode cX4_tick 50 = .ok (.ifCond .le 6, 3) := by decide +kernel
theorem dX4_tick_53 : decode cX4_tick 53 = .ok (.bipush (-2), 2) := by decide +kernel
theorem dX4_tick_55 : decode cX4_tick 55 = .ok (.ireturn, 1) := by decide +kernel
theorem dX4_tick_56 : decode cX4_tick 56 = .ok (.iinc 3 1, 3) := by decide +kernel
theorem dX4_tick_59 : decode cX4_tick 59 = .ok (.goto (-33), 3) := by decide +kernel
theorem dX4_tick_62 : decode cX4_tick 62 = .ok (.aload_n 0, 1) := by decide +kernel
theorem dX4_tick_63 : decode cX4_tick 63 = .ok (.getfield 7, 3) := by decide +kernel
theorem dX4_tick_66 : decode cX4_tick 66 = .ok (.iload_n 1, 1) := by decide +kernel
theorem dX4_tick_67 : decode cX4_tick 67 = .ok (.iload_n 2, 1) := by decide +kernel
theorem dX4_tick_68 : decode cX4_tick 68 = .ok (.iastore, 1) := by decide +kernel
theorem dX4_tick_69 : decode cX4_tick 69 = .ok (.aload_n 0, 1) := by decide +kernel
theorem dX4_tick_70 : decode cX4_tick 70 = .ok (.iload_n 1, 1) := by decide +kernel
theorem dX4_tick_71 : decode cX4_tick 71 = .ok (.invokevirtual 72, 3) := by decide +kernel
theorem dX4_tick_74 : decode cX4_tick 74 = .ok (.iconst 0, 1) := by decide +kernel
theorem dX4_tick_75 : decode cX4_tick 75 = .ok (.ireturn, 1) := by decide +kernel
theorem dX4_reading_0 : decode cX4_reading 0 = .ok (.iload_n 1, 1) := by decide +kernel
theorem dX4_reading_1 : decode cX4_reading 1 = .ok (.ifCond .lt 8, 3) := by decide +kernel
theorem dX4_reading_4 : decode cX4_reading 4 = .ok (.iload_n 1, 1) := by decide +kernel
theorem dX4_reading_5 : decode cX4_reading 5 = .ok (.iconst 3, 1) := by decide +kernel
theorem dX4_reading_6 : decode cX4_reading 6 = .ok (.if_icmp .le 5, 3) := by decide +kernel
theorem dX4_reading_9 : decode cX4_reading 9 = .ok (.iconst (-1), 1) := by decide +kernel
theorem dX4_reading_10 : decode cX4_reading 10 = .ok (.ireturn, 1) := by decide +kernel
theorem dX4_reading_11 : decode cX4_reading 11 = .ok (.aload_n 0, 1) := by decide +kernel
theorem dX4_reading_12 : decode cX4_reading 12 = .ok (.getfield 7, 3) := by decide +kernel
theorem dX4_reading_15 : decode cX4_reading 15 = .ok (.iload_n 1, 1) := by decide +kernel
theorem dX4_reading_16 : decode cX4_reading 16 = .ok (.iaload, 1) := by decide +kernel
theorem dX4_reading_17 : decode cX4_reading 17 = .ok (.ireturn, 1) := by decide +kernel
theorem dX4_clock_0 : decode cX4_clock 0 = .ok (.iload_n 1, 1) := by decide +kernel
theorem dX4_clock_1 : decode cX4_clock 1 = .ok (.ifCond .lt 8, 3) := by decide +kernel
theorem dX4_clock_4 : decode cX4_clock 4 = .ok (.iload_n 1, 1) := by decide +kernel
theorem dX4_clock_5 : decode cX4_clock 5 = .ok (.iconst 3, 1) := by decide +kernel
theorem dX4_clock_6 : decode cX4_clock 6 = .ok (.if_icmp .le 7, 3) := by decide +kernel
theorem dX4_clock_9 : decode cX4_clock 9 = .ok (.ldc2_w 76, 3) := by decide +kernel
theorem dX4_clock_12 : decode cX4_clock 12 = .ok (.lreturn, 1) := by decide +kernel
theorem dX4_clock_13 : decode cX4_clock 13 = .ok (.aload_n 0, 1) := by decide +kernel
theorem dX4_clock_14 : decode cX4_clock 14 = .ok (.getfield 13, 3) := by decide +kernel
theorem dX4_clock_17 : decode cX4_clock 17 = .ok (.iload_n 1, 1) := by decide +kernel
theorem dX4_clock_18 : decode cX4_clock 18 = .ok (.laload, 1) := by decide +kernel
theorem dX4_clock_19 : decode cX4_clock 19 = .ok (.lreturn, 1) := by decide +kernel
theorem dX4_find_0 : decode cX4_find 0 = .ok (.iconst (-1), 1) := by decide +kernel
theorem dX4_find_1 : decode cX4_find 1 = .ok (.istore 6, 2) := by decide +kernel
theorem dX4_find_3 : decode cX4_find 3 = .ok (.iconst 0, 1) := by decide +kernel
theorem dX4_find_4 : decode cX4_find 4 = .ok (.istore 7, 2) := by decide +kernel
theorem dX4_find_6 : decode cX4_find 6 = .ok (.iload 7, 2) := by decide +kernel
theorem dX4_find_8 : decode cX4_find 8 = .ok (.aload_n 0, 1) := by decide +kernel
theorem dX4_find_9 : decode cX4_find 9 = .ok (.getfield 78, 3) := by decide +kernel
theorem dX4_find_12 : decode cX4_find 12 = .ok (.if_icmp .ge 72, 3) := by decide +kernel
theorem dX4_find_15 : decode cX4_find 15 = .ok (.aload_n 0, 1) := by decide +kernel
theorem dX4_find_16 : decode cX4_find 16 = .ok (.getfield 57, 3) := by decide +kernel
theorem dX4_find_19 : decode cX4_find 19 = .ok (.iload 7, 2) := by decide +kernel
theorem dX4_find_21 : decode cX4_find 21 = .ok (.iaload, 1) := by decide +kernel
theorem dX4_find_22 : decode cX4_find 22 = .ok (.iload_n 1, 1) := by decide +kernel
theorem dX4_find_23 : decode cX4_find 23 = .ok (.if_icmp .ne 55, 3) := by decide +kernel
theorem dX4_find_26 : decode cX4_find 26 = .ok (.aload_n 0, 1) := by decide +kernel
theorem dX4_find_27 : decode cX4_find 27 = .ok (.getfield 60, 3) := by decide +kernel
theorem dX4_find_30 : decode cX4_find 30 = .ok (.iload 7, 2) := by decide +kernel
theorem dX4_find_32 : decode cX4_find 32 = .ok (.laload, 1) := by decide +kernel
theorem dX4_find_33 : decode cX4_find 33 = .ok (.lload_n 2, 1) := by decide +kernel
theorem dX4_find_34 : decode cX4_find 34 = .ok (.lcmp, 1) := by decide +kernel
theorem dX4_find_35 : decode cX4_find 35 = .ok (.ifCond .le 43, 3) := by decide +kernel
theorem dX4_find_38 : decode cX4_find 38 = .ok (.aload_n 0, 1) := by decide +kernel
theorem dX4_find_39 : decode cX4_find 39 = .ok (.getfield 60, 3) := by decide +kernel
theorem dX4_find_42 : decode cX4_find 42 = .ok (.iload 7, 2) := by decide +kernel
theorem dX4_find_44 : decode cX4_find 44 = .ok (.laload, 1) := by decide +kernel
theorem dX4_find_45 : decode cX4_find 45 = .ok (.lload 4, 2) := by decide +kernel
theorem dX4_find_47 : decode cX4_find 47 = .ok (.lcmp, 1) := by decide +kernel
theorem dX4_find_48 : decode cX4_find 48 = .ok (.ifCond .gt 30, 3) := by decide +kernel
theorem dX4_find_51 : decode cX4_find 51 = .ok (.iload 6, 2) := by decide +kernel
theorem dX4_find_53 : decode cX4_find 53 = .ok (.ifCond .lt 21, 3) := by decide +kernel
theorem dX4_find_56 : decode cX4_find 56 = .ok (.aload_n 0, 1) := by decide +kernel
theorem dX4_find_57 : decode cX4_find 57 = .ok (.getfield 60, 3) := by decide +kernel
theorem dX4_find_60 : decode cX4_find 60 = .ok (.iload 7, 2) := by decide +kernel
theorem dX4_find_62 : decode cX4_find 62 = .ok (.laload, 1) := by decide +kernel
theorem dX4_find_63 : decode cX4_find 63 = .ok (.aload_n 0, 1) := by decide +kernel
theorem dX4_find_64 : decode cX4_find 64 = .ok (.getfield 60, 3) := by decide +kernel
theorem dX4_find_67 : decode cX4_find 67 = .ok (.iload 6, 2) := by decide +kernel
theorem dX4_find_69 : decode cX4_find 69 = .ok (.laload, 1) := by decide +kernel
theorem dX4_find_70 : decode cX4_find 70 = .ok (.lcmp, 1) := by decide +kernel
theorem dX4_find_71 : decode cX4_find 71 = .ok (.ifCond .le 7, 3) := by decide +kernel
theorem dX4_find_74 : decode cX4_find 74 = .ok (.iload 7, 2) := by decide +kernel
theorem dX4_find_76 : decode cX4_find 76 = .ok (.istore 6, 2) := by decide +kernel
theorem dX4_find_78 : decode cX4_find 78 = .ok (.iinc 7 1, 3) := by decide +kernel
theorem dX4_find_81 : decode cX4_find 81 = .ok (.goto (-75), 3) := by decide +kernel
theorem dX4_find_84 : decode cX4_find 84 = .ok (.iload 6, 2) := by decide +kernel
theorem dX4_find_86 : decode cX4_find 86 = .ok (.ireturn, 1) := by decide +kernel
theorem dX4_versions_0 : decode cX4_versions 0 = .ok (.iload_n 1, 1) := by decide +kernel
theorem dX4_versions_1 : decode cX4_versions 1 = .ok (.ifCond .lt 9, 3) := by decide +kernel
theorem dX4_versions_4 : decode cX4_versions 4 = .ok (.iload_n 1, 1) := by decide +kernel
theorem dX4_versions_5 : decode cX4_versions 5 = .ok (.bipush 15, 2) := by decide +kernel
theorem dX4_versions_7 : decode cX4_versions 7 = .ok (.if_icmp .le 5, 3) := by decide +kernel
theorem dX4_versions_10 : decode cX4_versions 10 = .ok (.iconst (-1), 1) := by decide +kernel
theorem dX4_versions_11 : decode cX4_versions 11 = .ok (.ireturn, 1) := by decide +kernel
theorem dX4_versions_12 : decode cX4_versions 12 = .ok (.iconst 0, 1) := by decide +kernel
theorem dX4_versions_13 : decode cX4_versions 13 = .ok (.istore_n 2, 1) := by decide +kernel
theorem dX4_versions_14 : decode cX4_versions 14 = .ok (.iconst 0, 1) := by decide +kernel
theorem dX4_versions_15 : decode cX4_versions 15 = .ok (.istore_n 3, 1) := by decide +kernel
theorem dX4_versions_16 : decode cX4_versions 16 = .ok (.iload_n 3, 1) := by decide +kernel
theorem dX4_versions_17 : decode cX4_versions 17 = .ok (.aload_n 0, 1) := by decide +kernel
theorem dX4_versions_18 : decode cX4_versions 18 = .ok (.getfield 78, 3) := by decide +kernel
theorem dX4_versions_21 : decode cX4_versions 21 = .ok (.if_icmp .ge 23, 3) := by decide +kernel
theorem dX4_versions_24 : decode cX4_versions 24 = .ok (.aload_n 0, 1) := by decide +kernel
theorem dX4_versions_25 : decode cX4_versions 25 = .ok (.getfield 57, 3) := by decide +kernel
theorem dX4_versions_28 : decode cX4_versions 28 = .ok (.iload_n 3, 1) := by decide +kernel
theorem dX4_versions_29 : decode cX4_versions 29 = .ok (.iaload, 1) := by decide +kernel
theorem dX4_versions_30 : decode cX4_versions 30 = .ok (.iload_n 1, 1) := by decide +kernel
theorem dX4_versions_31 : decode cX4_versions 31 = .ok (.if_icmp .ne 7, 3) := by decide +kernel
theorem dX4_versions_34 : decode cX4_versions 34 = .ok (.iload_n 2, 1) := by decide +kernel
theorem dX4_versions_35 : decode cX4_versions 35 = .ok (.iconst 1, 1) := by decide +kernel
theorem dX4_versions_36 : decode cX4_versions 36 = .ok (.iadd, 1) := by decide +kernel
theorem dX4_versions_37 : decode cX4_versions 37 = .ok (.istore_n 2, 1) := by decide +kernel
theorem dX4_versions_38 : decode cX4_versions 38 = .ok (.iinc 3 1, 3) := by decide +kernel
theorem dX4_versions_41 : decode cX4_versions 41 = .ok (.goto (-25), 3) := by decide +kernel
theorem dX4_versions_44 : decode cX4_versions 44 = .ok (.iload_n 2, 1) := by decide +kernel
theorem dX4_versions_45 : decode cX4_versions 45 = .ok (.ireturn, 1) := by decide +kernel
theorem dX4_settle_0 : decode cX4_settle 0 = .ok (.aload_n 0, 1) := by decide +kernel
theorem dX4_settle_1 : decode cX4_settle 1 = .ok (.getfield 51, 3) := by decide +kernel
theorem dX4_settle_4 : decode cX4_settle 4 = .ok (.iload_n 1, 1) := by decide +kernel
theorem dX4_settle_5 : decode cX4_settle 5 = .ok (.iaload, 1) := by decide +kernel
theorem dX4_settle_6 : decode cX4_settle 6 = .ok (.iconst 1, 1) := by decide +kernel
theorem dX4_settle_7 : decode cX4_settle 7 = .ok (.isub, 1) := by decide +kernel
theorem dX4_settle_8 : decode cX4_settle 8 = .ok (.istore_n 2, 1) := by decide +kernel
theorem dX4_settle_9 : decode cX4_settle 9 = .ok (.aload_n 0, 1) := by decide +kernel
theorem dX4_settle_10 : decode cX4_settle 10 = .ok (.getfield 17, 3) := by decide +kernel
theorem dX4_settle_13 : decode cX4_settle 13 = .ok (.iload_n 2, 1) := by decide +kernel
theorem dX4_settle_14 : decode cX4_settle 14 = .ok (.iaload, 1) := by decide +kernel
theorem dX4_settle_15 : decode cX4_settle 15 = .ok (.iconst 2, 1) := by decide +kernel
theorem dX4_settle_16 : decode cX4_settle 16 = .ok (.if_icmp .ne 53, 3) := by decide +kernel
theorem dX4_settle_19 : decode cX4_settle 19 = .ok (.aload_n 0, 1) := by decide +kernel
theorem dX4_settle_20 : decode cX4_settle 20 = .ok (.getfield 57, 3) := by decide +kernel
theorem dX4_settle_23 : decode cX4_settle 23 = .ok (.aload_n 0, 1) := by decide +kernel
theorem dX4_settle_24 : decode cX4_settle 24 = .ok (.getfield 78, 3) := by decide +kernel
theorem dX4_settle_27 : decode cX4_settle 27 = .ok (.iload_n 1, 1) := by decide +kernel
theorem dX4_settle_28 : decode cX4_settle 28 = .ok (.iastore, 1) := by decide +kernel
theorem dX4_settle_29 : decode cX4_settle 29 = .ok (.aload_n 0, 1) := by decide +kernel
theorem dX4_settle_30 : decode cX4_settle 30 = .ok (.getfield 60, 3) := by decide +kernel
theorem dX4_settle_33 : decode cX4_settle 33 = .ok (.aload_n 0, 1) := by decide +kernel
theorem dX4_settle_34 : decode cX4_settle 34 = .ok (.getfield 78, 3) := by decide +kernel
theorem dX4_settle_37 : decode cX4_settle 37 = .ok (.aload_n 0, 1) := by decide +kernel
theorem dX4_settle_38 : decode cX4_settle 38 = .ok (.getfield 32, 3) := by decide +kernel
theorem dX4_settle_41 : decode cX4_settle 41 = .ok (.iload_n 2, 1) := by decide +kernel
theorem dX4_settle_42 : decode cX4_settle 42 = .ok (.laload, 1) := by decide +kernel
theorem dX4_settle_43 : decode cX4_settle 43 = .ok (.lastore, 1) := by decide +kernel
theorem dX4_settle_44 : decode cX4_settle 44 = .ok (.aload_n 0, 1) := by decide +kernel
theorem dX4_settle_45 : decode cX4_settle 45 = .ok (.getfield 63, 3) := by decide +kernel
theorem dX4_settle_48 : decode cX4_settle 48 = .ok (.aload_n 0, 1) := by decide +kernel
theorem dX4_settle_49 : decode cX4_settle 49 = .ok (.getfield 78, 3) := by decide +kernel
theorem dX4_settle_52 : decode cX4_settle 52 = .ok (.aload_n 0, 1) := by decide +kernel
theorem dX4_settle_53 : decode cX4_settle 53 = .ok (.getfield 54, 3) := by decide +kernel
theorem dX4_settle_56 : decode cX4_settle 56 = .ok (.iload_n 1, 1) := by decide +kernel
theorem dX4_settle_57 : decode cX4_settle 57 = .ok (.iaload, 1) := by decide +kernel
theorem dX4_settle_58 : decode cX4_settle 58 = .ok (.iastore, 1) := by decide +kernel
theorem dX4_settle_59 : decode cX4_settle 59 = .ok (.aload_n 0, 1) := by decide +kernel
theorem dX4_settle_60 : decode cX4_settle 60 = .ok (.aload_n 0, 1) := by decide +kernel
theorem dX4_settle_61 : decode cX4_settle 61 = .ok (.getfield 78, 3) := by decide +kernel
theorem dX4_settle_64 : decode cX4_settle 64 = .ok (.iconst 1, 1) := by decide +kernel
theorem dX4_settle_65 : decode cX4_settle 65 = .ok (.iadd, 1) := by decide +kernel
theorem dX4_settle_66 : decode cX4_settle 66 = .ok (.putfield 78, 3) := by decide +kernel
theorem dX4_settle_69 : decode cX4_settle 69 = .ok (.aload_n 0, 1) := by decide +kernel
theorem dX4_settle_70 : decode cX4_settle 70 = .ok (.getfield 51, 3) := by decide +kernel
theorem dX4_settle_73 : decode cX4_settle 73 = .ok (.iload_n 1, 1) := by decide +kernel
theorem dX4_settle_74 : decode cX4_settle 74 = .ok (.iconst 0, 1) := by decide +kernel
theorem dX4_settle_75 : decode cX4_settle 75 = .ok (.iastore, 1) := by decide +kernel
theorem dX4_settle_76 : decode cX4_settle 76 = .ok (.return_, 1) := by decide +kernel
set_option maxRecDepth 20000 in
theorem ggX4_meet_X4_receive : GoodIn wsX4_meet wsX4_receive := goodIn_r _ [11, 3, 5, 22, 23, 24, 25, 26, 27, 28, 29, 30, 31, 32, 33, 34, 35, 36, 37, 38, 39, 40, 41, 42] (by decide +kernel) (by decide +kernel)
set_option maxRecDepth 20000 in
theorem gX4_meet_X4_receive : GoodIn wsX4_meet (wsV RX4 66 RX4 yX4_receive wsX4_receive) := goodIn_app (goodIn_of _ (by decide +kernel)) ggX4_meet_X4_receive
set_option maxRecDepth 20000 in
theorem ggX4_meet_X4_settle : GoodIn wsX4_meet wsX4_settle := goodIn_r _ [15, 1, 4, 16, 17, 18, 19, 20, 21, 22, 23, 24, 25, 26, 27, 28, 29, 30, 31, 32, 33, 34, 35, 36, 37, 38, 39, 40, 41, 42] (by decide +kernel) (by decide +kernel)
set_option maxRecDepth 20000 in
theorem gX4_meet_X4_settle : GoodIn wsX4_meet (wsV RX4 82 RX4 yX4_settle wsX4_settle) := goodIn_app (goodIn_of _ (by decide +kernel)) ggX4_meet_X4_settle
theorem dX4_meet_0 : decode cX4_meet 0 = .ok (.aload_n 0, 1) := by decide +kernel
theorem dX4_meet_1 : decode cX4_meet 1 = .ok (.getfield 51, 3) := by decide +kernel
theorem dX4_meet_4 : decode cX4_meet 4 = .ok (.iload_n 1, 1) := by decide +kernel
theorem dX4_meet_5 : decode cX4_meet 5 = .ok (.iaload, 1) := by decide +kernel
theorem dX4_meet_6 : decode cX4_meet 6 = .ok (.iconst 1, 1) := by decide +kernel
theorem dX4_meet_7 : decode cX4_meet 7 = .ok (.isub, 1) := by decide +kernel
theorem dX4_meet_8 : decode cX4_meet 8 = .ok (.istore_n 2, 1) := by decide +kernel
theorem dX4_meet_9 : decode cX4_meet 9 = .ok (.iload_n 2, 1) := by decide +kernel
theorem dX4_meet_10 : decode cX4_meet 10 = .ok (.ifCond .ge 5, 3) := by decide +kernel
theorem dX4_meet_13 : decode cX4_meet 13 = .ok (.iconst (-1), 1) := by decide +kernel
theorem dX4_meet_14 : decode cX4_meet 14 = .ok (.ireturn, 1) := by decide +kernel
theorem dX4_meet_15 : decode cX4_meet 15 = .ok (.iload_n 1, 1) := by decide +kernel
theorem dX4_meet_16 : decode cX4_meet 16 = .ok (.iconst 3, 1) := by decide +kernel
theorem dX4_meet_17 : decode cX4_meet 17 = .ok (.iand, 1) := by decide +kernel
theorem dX4_meet_18 : decode cX4_meet 18 = .ok (.istore_n 3, 1) := by decide +kernel
theorem dX4_meet_19 : decode cX4_meet 19 = .ok (.aload_n 0, 1) := by decide +kernel
theorem dX4_meet_20 : decode cX4_meet 20 = .ok (.getfield 20, 3) := by decide +kernel
theorem dX4_meet_23 : decode cX4_meet 23 = .ok (.iload_n 2, 1) := by decide +kernel
theorem dX4_meet_24 : decode cX4_meet 24 = .ok (.iaload, 1) := by decide +kernel
theorem dX4_meet_25 : decode cX4_meet 25 = .ok (.istore 4, 2) := by decide +kernel
theorem dX4_meet_27 : decode cX4_meet 27 = .ok (.aload_n 0, 1) := by decide +kernel
theorem dX4_meet_28 : decode cX4_meet 28 = .ok (.iload 4, 2) := by decide +kernel
theorem dX4_meet_30 : decode cX4_meet 30 = .ok (.aload_n 0, 1) := by decide +kernel
theorem dX4_meet_31 : decode cX4_meet 31 = .ok (.getfield 13, 3) := by decide +kernel
theorem dX4_meet_34 : decode cX4_meet 34 = .ok (.iload_n 3, 1) := by decide +kernel
theorem dX4_meet_35 : decode cX4_meet 35 = .ok (.laload, 1) := by decide +kernel
theorem dX4_meet_36 : decode cX4_meet 36 = .ok (.invokevirtual 66, 3) := by decide +kernel
theorem dX4_meet_39 : decode cX4_meet 39 = .ok (.aload_n 0, 1) := by decide +kernel
theorem dX4_meet_40 : decode cX4_meet 40 = .ok (.iload_n 3, 1) := by decide +kernel
theorem dX4_meet_41 : decode cX4_meet 41 = .ok (.aload_n 0, 1) := by decide +kernel
theorem dX4_meet_42 : decode cX4_meet 42 = .ok (.getfield 13, 3) := by decide +kernel
theorem dX4_meet_45 : decode cX4_meet 45 = .ok (.iload 4, 2) := by decide +kernel
theorem dX4_meet_47 : decode cX4_meet 47 = .ok (.laload, 1) := by decide +kernel
theorem dX4_meet_48 : decode cX4_meet 48 = .ok (.invokevirtual 66, 3) := by decide +kernel
theorem dX4_meet_51 : decode cX4_meet 51 = .ok (.aload_n 0, 1) := by decide +kernel
theorem dX4_meet_52 : decode cX4_meet 52 = .ok (.getfield 17, 3) := by decide +kernel
theorem dX4_meet_55 : decode cX4_meet 55 = .ok (.iload_n 2, 1) := by decide +kernel
theorem dX4_meet_56 : decode cX4_meet 56 = .ok (.iaload, 1) := by decide +kernel
theorem dX4_meet_57 : decode cX4_meet 57 = .ok (.iconst 1, 1) := by decide +kernel
theorem dX4_meet_58 : decode cX4_meet 58 = .ok (.if_icmp .ne 29, 3) := by decide +kernel
theorem dX4_meet_61 : decode cX4_meet 61 = .ok (.aload_n 0, 1) := by decide +kernel
theorem dX4_meet_62 : decode cX4_meet 62 = .ok (.getfield 7, 3) := by decide +kernel
theorem dX4_meet_65 : decode cX4_meet 65 = .ok (.iload 4, 2) := by decide +kernel
theorem dX4_meet_67 : decode cX4_meet 67 = .ok (.iaload, 1) := by decide +kernel
theorem dX4_meet_68 : decode cX4_meet 68 = .ok (.aload_n 0, 1) := by decide +kernel
theorem dX4_meet_69 : decode cX4_meet 69 = .ok (.getfield 23, 3) := by decide +kernel
theorem dX4_meet_72 : decode cX4_meet 72 = .ok (.iload_n 2, 1) := by decide +kernel
theorem dX4_meet_73 : decode cX4_meet 73 = .ok (.iaload, 1) := by decide +kernel
theorem dX4_meet_74 : decode cX4_meet 74 = .ok (.isub, 1) := by decide +kernel
theorem dX4_meet_75 : decode cX4_meet 75 = .ok (.bipush 40, 2) := by decide +kernel
theorem dX4_meet_77 : decode cX4_meet 77 = .ok (.if_icmp .le 10, 3) := by decide +kernel
theorem dX4_meet_80 : decode cX4_meet 80 = .ok (.aload_n 0, 1) := by decide +kernel
theorem dX4_meet_81 : decode cX4_meet 81 = .ok (.getfield 17, 3) := by decide +kernel
theorem dX4_meet_84 : decode cX4_meet 84 = .ok (.iload_n 2, 1) := by decide +kernel
theorem dX4_meet_85 : decode cX4_meet 85 = .ok (.iconst 3, 1) := by decide +kernel
theorem dX4_meet_86 : decode cX4_meet 86 = .ok (.iastore, 1) := by decide +kernel
theorem dX4_meet_87 : decode cX4_meet 87 = .ok (.aload_n 0, 1) := by decide +kernel
theorem dX4_meet_88 : decode cX4_meet 88 = .ok (.getfield 17, 3) := by decide +kernel
theorem dX4_meet_91 : decode cX4_meet 91 = .ok (.iload_n 2, 1) := by decide +kernel
theorem dX4_meet_92 : decode cX4_meet 92 = .ok (.iaload, 1) := by decide +kernel
theorem dX4_meet_93 : decode cX4_meet 93 = .ok (.iconst 1, 1) := by decide +kernel
theorem dX4_meet_94 : decode cX4_meet 94 = .ok (.if_icmp .ne 5, 3) := by decide +kernel
theorem dX4_meet_97 : decode cX4_meet 97 = .ok (.iload_n 2, 1) := by decide +kernel
theorem dX4_meet_98 : decode cX4_meet 98 = .ok (.ireturn, 1) := by decide +kernel
theorem dX4_meet_99 : decode cX4_meet 99 = .ok (.aload_n 0, 1) := by decide +kernel
theorem dX4_meet_100 : decode cX4_meet 100 = .ok (.iload_n 1, 1) := by decide +kernel
theorem dX4_meet_101 : decode cX4_meet 101 = .ok (.invokevirtual 82, 3) := by decide +kernel
theorem dX4_meet_104 : decode cX4_meet 104 = .ok (.iconst (-1), 1) := by decide +kernel
theorem dX4_meet_105 : decode cX4_meet 105 = .ok (.ireturn, 1) := by decide +kernel
theorem dX4_restart_0 : decode cX4_restart 0 = .ok (.iconst 0, 1) := by decide +kernel
theorem dX4_restart_1 : decode cX4_restart 1 = .ok (.istore 4, 2) := by decide +kernel
theorem dX4_restart_3 : decode cX4_restart 3 = .ok (.iload 4, 2) := by decide +kernel
theorem dX4_restart_5 : decode cX4_restart 5 = .ok (.bipush 16, 2) := by decide +kernel
theorem dX4_restart_7 : decode cX4_restart 7 = .ok (.if_icmp .ge 43, 3) := by decide +kernel
theorem dX4_restart_10 : decode cX4_restart 10 = .ok (.aload_n 0, 1) := by decide +kernel
theorem dX4_restart_11 : decode cX4_restart 11 = .ok (.getfield 51, 3) := by decide +kernel
theorem dX4_restart_14 : decode cX4_restart 14 = .ok (.iload 4, 2) := by decide +kernel
theorem dX4_restart_16 : decode cX4_restart 16 = .ok (.iaload, 1) := by decide +kernel
theorem dX4_restart_17 : decode cX4_restart 17 = .ok (.iload_n 1, 1) := by decide +kernel
theorem dX4_restart_18 : decode cX4_restart 18 = .ok (.iconst 1, 1) := by decide +kernel
theorem dX4_restart_19 : decode cX4_restart 19 = .ok (.iadd, 1) := by decide +kernel
theorem dX4_restart_20 : decode cX4_restart 20 = .ok (.if_icmp .ne 11, 3) := by decide +kernel
theorem dX4_restart_23 : decode cX4_restart 23 = .ok (.aload_n 0, 1) := by decide +kernel
theorem dX4_restart_24 : decode cX4_restart 24 = .ok (.getfield 51, 3) := by decide +kernel
theorem dX4_restart_27 : decode cX4_restart 27 = .ok (.iload 4, 2) := by decide +kernel
theorem dX4_restart_29 : decode cX4_restart 29 = .ok (.iconst 0, 1) := by decide +kernel
theorem dX4_restart_30 : decode cX4_restart 30 = .ok (.iastore, 1) := by decide +kernel
theorem dX4_restart_31 : decode cX4_restart 31 = .ok (.aload_n 0, 1) := by decide +kernel
theorem dX4_restart_32 : decode cX4_restart 32 = .ok (.getfield 42, 3) := by decide +kernel
theorem dX4_restart_35 : decode cX4_restart 35 = .ok (.iload_n 1, 1) := by decide +kernel
theorem dX4_restart_36 : decode cX4_restart 36 = .ok (.bipush 16, 2) := by decide +kernel
theorem dX4_restart_38 : decode cX4_restart 38 = .ok (.imul, 1) := by decide +kernel
theorem dX4_restart_39 : decode cX4_restart 39 = .ok (.iload 4, 2) := by decide +kernel
theorem dX4_restart_41 : decode cX4_restart 41 = .ok (.iadd, 1) := by decide +kernel
theorem dX4_restart_42 : decode cX4_restart 42 = .ok (.iconst 0, 1) := by decide +kernel
theorem dX4_restart_43 : decode cX4_restart 43 = .ok (.bastore, 1) := by decide +kernel
theorem dX4_restart_44 : decode cX4_restart 44 = .ok (.iinc 4 1, 3) := by decide +kernel
theorem dX4_restart_47 : decode cX4_restart 47 = .ok (.goto (-44), 3) := by decide +kernel
theorem dX4_restart_50 : decode cX4_restart 50 = .ok (.lload_n 2, 1) := by decide +kernel
theorem dX4_restart_51 : decode cX4_restart 51 = .ok (.aload_n 0, 1) := by decide +kernel
theorem dX4_restart_52 : decode cX4_restart 52 = .ok (.getfield 32, 3) := by decide +kernel
theorem dX4_restart_55 : decode cX4_restart 55 = .ok (.iload_n 1, 1) := by decide +kernel
theorem dX4_restart_56 : decode cX4_restart 56 = .ok (.laload, 1) := by decide +kernel
theorem dX4_restart_57 : decode cX4_restart 57 = .ok (.lcmp, 1) := by decide +kernel
theorem dX4_restart_58 : decode cX4_restart 58 = .ok (.ifCond .le 10, 3) := by decide +kernel
theorem dX4_restart_61 : decode cX4_restart 61 = .ok (.aload_n 0, 1) := by decide +kernel
theorem dX4_restart_62 : decode cX4_restart 62 = .ok (.getfield 32, 3) := by decide +kernel
theorem dX4_restart_65 : decode cX4_restart 65 = .ok (.iload_n 1, 1) := by decide +kernel
theorem dX4_restart_66 : decode cX4_restart 66 = .ok (.lload_n 2, 1) := by decide +kernel
theorem dX4_restart_67 : decode cX4_restart 67 = .ok (.lastore, 1) := by decide +kernel
theorem dX4_restart_68 : decode cX4_restart 68 = .ok (.aload_n 0, 1) := by decide +kernel
theorem dX4_restart_69 : decode cX4_restart 69 = .ok (.getfield 29, 3) := by decide +kernel
theorem dX4_restart_72 : decode cX4_restart 72 = .ok (.iload_n 1, 1) := by decide +kernel
theorem dX4_restart_73 : decode cX4_restart 73 = .ok (.aload_n 0, 1) := by decide +kernel
theorem dX4_restart_74 : decode cX4_restart 74 = .ok (.getfield 32, 3) := by decide +kernel
theorem dX4_restart_77 : decode cX4_restart 77 = .ok (.iload_n 1, 1) := by decide +kernel
theorem dX4_restart_78 : decode cX4_restart 78 = .ok (.laload, 1) := by decide +kernel
theorem dX4_restart_79 : decode cX4_restart 79 = .ok (.lastore, 1) := by decide +kernel
theorem dX4_restart_80 : decode cX4_restart 80 = .ok (.aload_n 0, 1) := by decide +kernel
theorem dX4_restart_81 : decode cX4_restart 81 = .ok (.getfield 35, 3) := by decide +kernel
theorem dX4_restart_84 : decode cX4_restart 84 = .ok (.iload_n 1, 1) := by decide +kernel
theorem dX4_restart_85 : decode cX4_restart 85 = .ok (.laload, 1) := by decide +kernel
theorem dX4_restart_86 : decode cX4_restart 86 = .ok (.aload_n 0, 1) := by decide +kernel
theorem dX4_restart_87 : decode cX4_restart 87 = .ok (.getfield 29, 3) := by decide +kernel
theorem dX4_restart_90 : decode cX4_restart 90 = .ok (.iload_n 1, 1) := by decide +kernel
theorem dX4_restart_91 : decode cX4_restart 91 = .ok (.laload, 1) := by decide +kernel
theorem dX4_restart_92 : decode cX4_restart 92 = .ok (.lcmp, 1) := by decide +kernel
theorem dX4_restart_93 : decode cX4_restart 93 = .ok (.ifCond .ge 15, 3) := by decide +kernel
theorem dX4_restart_96 : decode cX4_restart 96 = .ok (.aload_n 0, 1) := by decide +kernel
theorem dX4_restart_97 : decode cX4_restart 97 = .ok (.getfield 35, 3) := by decide +kernel
theorem dX4_restart_100 : decode cX4_restart 100 = .ok (.iload_n 1, 1) := by decide +kernel
theorem dX4_restart_101 : decode cX4_restart 101 = .ok (.aload_n 0, 1) := by decide +kernel
theorem dX4_restart_102 : decode cX4_restart 102 = .ok (.getfield 29, 3) := by decide +kernel
theorem dX4_restart_105 : decode cX4_restart 105 = .ok (.iload_n 1, 1) := by decide +kernel
theorem dX4_restart_106 : decode cX4_restart 106 = .ok (.laload, 1) := by decide +kernel
theorem dX4_restart_107 : decode cX4_restart 107 = .ok (.lastore, 1) := by decide +kernel
theorem dX4_restart_108 : decode cX4_restart 108 = .ok (.return_, 1) := by decide +kernel
set_option maxRecDepth 20000 in
theorem ggX4_begin_X4_event : GoodIn wsX4_begin wsX4_event := goodIn_r _ [19, 8, 20, 21, 22, 18, 23, 4, 24, 25, 26, 27, 28, 29, 30, 31, 32, 33, 34, 35, 36, 37, 38, 39, 40, 41, 42, 43, 44] (by decide +kernel) (by decide +kernel)
set_option maxRecDepth 20000 in
theorem gX4_begin_X4_event : GoodIn wsX4_begin (wsV RX4 72 RX4 yX4_event wsX4_event) := goodIn_app (goodIn_of _ (by decide +kernel)) ggX4_begin_X4_event
theorem dX4_begin_0 : decode cX4_begin 0 = .ok (.iload_n 1, 1) := by decide +kernel
theorem dX4_begin_1 : decode cX4_begin 1 = .ok (.ifCond .lt 8, 3) := by decide +kernel
theorem dX4_begin_4 : decode cX4_begin 4 = .ok (.iload_n 1, 1) := by decide +kernel
theorem dX4_begin_5 : decode cX4_begin 5 = .ok (.iconst 3, 1) := by decide +kernel
theorem dX4_begin_6 : decode cX4_begin 6 = .ok (.if_icmp .le 5, 3) := by decide +kernel
theorem dX4_begin_9 : decode cX4_begin 9 = .ok (.iconst (-1), 1) := by decide +kernel
theorem dX4_begin_10 : decode cX4_begin 10 = .ok (.ireturn, 1) := by decide +kernel
theorem dX4_begin_11 : decode cX4_begin 11 = .ok (.iconst 0, 1) := by decide +kernel
theorem dX4_begin_12 : decode cX4_begin 12 = .ok (.istore_n 2, 1) := by decide +kernel
theorem dX4_begin_13 : decode cX4_begin 13 = .ok (.iload_n 2, 1) := by decide +kernel
theorem dX4_begin_14 : decode cX4_begin 14 = .ok (.bipush 8, 2) := by decide +kernel
theorem dX4_begin_16 : decode cX4_begin 16 = .ok (.if_icmp .ge 18, 3) := by decide +kernel
theorem dX4_begin_19 : decode cX4_begin 19 = .ok (.aload_n 0, 1) := by decide +kernel
theorem dX4_begin_20 : decode cX4_begin 20 = .ok (.getfield 17, 3) := by decide +kernel
theorem dX4_begin_23 : decode cX4_begin 23 = .ok (.iload_n 2, 1) := by decide +kernel
theorem dX4_begin_24 : decode cX4_begin 24 = .ok (.iaload, 1) := by decide +kernel
theorem dX4_begin_25 : decode cX4_begin 25 = .ok (.ifCond .eq 9, 3) := by decide +kernel
theorem dX4_begin_28 : decode cX4_begin 28 = .ok (.iinc 2 1, 3) := by decide +kernel
theorem dX4_begin_31 : decode cX4_begin 31 = .ok (.goto (-18), 3) := by decide +kernel
theorem dX4_begin_34 : decode cX4_begin 34 = .ok (.iload_n 2, 1) := by decide +kernel
theorem dX4_begin_35 : decode cX4_begin 35 = .ok (.bipush 8, 2) := by decide +kernel
theorem dX4_begin_37 : decode cX4_begin 37 = .ok (.if_icmp .ne 6, 3) := by decide +kernel
theorem dX4_begin_40 : decode cX4_begin 40 = .ok (.bipush (-3), 2) := by decide +kernel
theorem dX4_begin_42 : decode cX4_begin 42 = .ok (.ireturn, 1) := by decide +kernel
theorem dX4_begin_43 : decode cX4_begin 43 = .ok (.aload_n 0, 1) := by decide +kernel
theorem dX4_begin_44 : decode cX4_begin 44 = .ok (.iload_n 1, 1) := by decide +kernel
theorem dX4_begin_45 : decode cX4_begin 45 = .ok (.invokevirtual 72, 3) := by decide +kernel
theorem dX4_begin_48 : decode cX4_begin 48 = .ok (.aload_n 0, 1) := by decide +kernel
theorem dX4_begin_49 : decode cX4_begin 49 = .ok (.getfield 17, 3) := by decide +kernel
theorem dX4_begin_52 : decode cX4_begin 52 = .ok (.iload_n 2, 1) := by decide +kernel
theorem dX4_begin_53 : decode cX4_begin 53 = .ok (.iconst 1, 1) := by decide +kernel
theorem dX4_begin_54 : decode cX4_begin 54 = .ok (.iastore, 1) := by decide +kernel
theorem dX4_begin_55 : decode cX4_begin 55 = .ok (.aload_n 0, 1) := by decide +kernel
theorem dX4_begin_56 : decode cX4_begin 56 = .ok (.getfield 20, 3) := by decide +kernel
theorem dX4_begin_59 : decode cX4_begin 59 = .ok (.iload_n 2, 1) := by decide +kernel
theorem dX4_begin_60 : decode cX4_begin 60 = .ok (.iload_n 1, 1) := by decide +kernel
theorem dX4_begin_61 : decode cX4_begin 61 = .ok (.iastore, 1) := by decide +kernel
theorem dX4_begin_62 : decode cX4_begin 62 = .ok (.aload_n 0, 1) := by decide +kernel
theorem dX4_begin_63 : decode cX4_begin 63 = .ok (.getfield 23, 3) := by decide +kernel
theorem dX4_begin_66 : decode cX4_begin 66 = .ok (.iload_n 2, 1) := by decide +kernel
theorem dX4_begin_67 : decode cX4_begin 67 = .ok (.aload_n 0, 1) := by decide +kernel
theorem dX4_begin_68 : decode cX4_begin 68 = .ok (.getfield 7, 3) := by decide +kernel
theorem dX4_begin_71 : decode cX4_begin 71 = .ok (.iload_n 1, 1) := by decide +kernel
theorem dX4_begin_72 : decode cX4_begin 72 = .ok (.iaload, 1) := by decide +kernel
theorem dX4_begin_73 : decode cX4_begin 73 = .ok (.iastore, 1) := by decide +kernel
theorem dX4_begin_74 : decode cX4_begin 74 = .ok (.aload_n 0, 1) := by decide +kernel
theorem dX4_begin_75 : decode cX4_begin 75 = .ok (.getfield 26, 3) := by decide +kernel
theorem dX4_begin_78 : decode cX4_begin 78 = .ok (.iload_n 2, 1) := by decide +kernel
theorem dX4_begin_79 : decode cX4_begin 79 = .ok (.aload_n 0, 1) := by decide +kernel
theorem dX4_begin_80 : decode cX4_begin 80 = .ok (.getfield 85, 3) := by decide +kernel
theorem dX4_begin_83 : decode cX4_begin 83 = .ok (.lastore, 1) := by decide +kernel
theorem dX4_begin_84 : decode cX4_begin 84 = .ok (.aload_n 0, 1) := by decide +kernel
theorem dX4_begin_85 : decode cX4_begin 85 = .ok (.aload_n 0, 1) := by decide +kernel
theorem dX4_begin_86 : decode cX4_begin 86 = .ok (.getfield 85, 3) := by decide +kernel
theorem dX4_begin_89 : decode cX4_begin 89 = .ok (.lconst 1, 1) := by decide +kernel
theorem dX4_begin_90 : decode cX4_begin 90 = .ok (.ladd, 1) := by decide +kernel
theorem dX4_begin_91 : decode cX4_begin 91 = .ok (.putfield 85, 3) := by decide +kernel
theorem dX4_begin_94 : decode cX4_begin 94 = .ok (.aload_n 0, 1) := by decide +kernel
theorem dX4_begin_95 : decode cX4_begin 95 = .ok (.getfield 29, 3) := by decide +kernel
theorem dX4_begin_98 : decode cX4_begin 98 = .ok (.iload_n 2, 1) := by decide +kernel
theorem dX4_begin_99 : decode cX4_begin 99 = .ok (.aload_n 0, 1) := by decide +kernel
theorem dX4_begin_100 : decode cX4_begin 100 = .ok (.getfield 13, 3) := by decide +kernel
theorem dX4_begin_103 : decode cX4_begin 103 = .ok (.iload_n 1, 1) := by decide +kernel
theorem dX4_begin_104 : decode cX4_begin 104 = .ok (.laload, 1) := by decide +kernel
theorem dX4_begin_105 : decode cX4_begin 105 = .ok (.lastore, 1) := by decide +kernel
theorem dX4_begin_106 : decode cX4_begin 106 = .ok (.aload_n 0, 1) := by decide +kernel
theorem dX4_begin_107 : decode cX4_begin 107 = .ok (.getfield 32, 3) := by decide +kernel
theorem dX4_begin_110 : decode cX4_begin 110 = .ok (.iload_n 2, 1) := by decide +kernel
theorem dX4_begin_111 : decode cX4_begin 111 = .ok (.aload_n 0, 1) := by decide +kernel
theorem dX4_begin_112 : decode cX4_begin 112 = .ok (.getfield 13, 3) := by decide +kernel
theorem dX4_begin_115 : decode cX4_begin 115 = .ok (.iload_n 1, 1) := by decide +kernel
theorem dX4_begin_116 : decode cX4_begin 116 = .ok (.laload, 1) := by decide +kernel
theorem dX4_begin_117 : decode cX4_begin 117 = .ok (.lastore, 1) := by decide +kernel
theorem dX4_begin_118 : decode cX4_begin 118 = .ok (.aload_n 0, 1) := by decide +kernel
theorem dX4_begin_119 : decode cX4_begin 119 = .ok (.getfield 35, 3) := by decide +kernel
theorem dX4_begin_122 : decode cX4_begin 122 = .ok (.iload_n 2, 1) := by decide +kernel
theorem dX4_begin_123 : decode cX4_begin 123 = .ok (.aload_n 0, 1) := by decide +kernel
theorem dX4_begin_124 : decode cX4_begin 124 = .ok (.getfield 13, 3) := by decide +kernel
theorem dX4_begin_127 : decode cX4_begin 127 = .ok (.iload_n 1, 1) := by decide +kernel
theorem dX4_begin_128 : decode cX4_begin 128 = .ok (.laload, 1) := by decide +kernel
theorem dX4_begin_129 : decode cX4_begin 129 = .ok (.bipush 20, 2) := by decide +kernel
theorem dX4_begin_131 : decode cX4_begin 131 = .ok (.lshr, 1) := by decide +kernel
theorem dX4_begin_132 : decode cX4_begin 132 = .ok (.ldc2_w 70, 3) := by decide +kernel
theorem dX4_begin_135 : decode cX4_begin 135 = .ok (.ladd, 1) := by decide +kernel
theorem dX4_begin_136 : decode cX4_begin 136 = .ok (.bipush 20, 2) := by decide +kernel
theorem dX4_begin_138 : decode cX4_begin 138 = .ok (.lshl, 1) := by decide +kernel
theorem dX4_begin_139 : decode cX4_begin 139 = .ok (.ldc2_w 89, 3) := by decide +kernel
theorem dX4_begin_142 : decode cX4_begin 142 = .ok (.ladd, 1) := by decide +kernel
theorem dX4_begin_143 : decode cX4_begin 143 = .ok (.lastore, 1) := by decide +kernel
theorem dX4_begin_144 : decode cX4_begin 144 = .ok (.aload_n 0, 1) := by decide +kernel
theorem dX4_begin_145 : decode cX4_begin 145 = .ok (.getfield 38, 3) := by decide +kernel
theorem dX4_begin_148 : decode cX4_begin 148 = .ok (.iload_n 2, 1) := by decide +kernel
theorem dX4_begin_149 : decode cX4_begin 149 = .ok (.iconst 0, 1) := by decide +kernel
theorem dX4_begin_150 : decode cX4_begin 150 = .ok (.bastore, 1) := by decide +kernel
theorem dX4_begin_151 : decode cX4_begin 151 = .ok (.iconst 0, 1) := by decide +kernel
theorem dX4_begin_152 : decode cX4_begin 152 = .ok (.istore_n 3, 1) := by decide +kernel
theorem dX4_begin_153 : decode cX4_begin 153 = .ok (.iload_n 3, 1) := by decide +kernel
theorem dX4_begin_154 : decode cX4_begin 154 = .ok (.bipush 16, 2) := by decide +kernel
theorem dX4_begin_156 : decode cX4_begin 156 = .ok (.if_icmp .ge 21, 3) := by decide +kernel
theorem dX4_begin_159 : decode cX4_begin 159 = .ok (.aload_n 0, 1) := by decide +kernel
theorem dX4_begin_160 : decode cX4_begin 160 = .ok (.getfield 42, 3) := by decide +kernel
theorem dX4_begin_163 : decode cX4_begin 163 = .ok (.iload_n 2, 1) := by decide +kernel
theorem dX4_begin_164 : decode cX4_begin 164 = .ok (.bipush 16, 2) := by decide +kernel
theorem dX4_begin_166 : decode cX4_begin 166 = .ok (.imul, 1) := by decide +kernel
theorem dX4_begin_167 : decode cX4_begin 167 = .ok (.iload_n 3, 1) := by decide +kernel
theorem dX4_begin_168 : decode cX4_begin 168 = .ok (.iadd, 1) := by decide +kernel
theorem dX4_begin_169 : decode cX4_begin 169 = .ok (.iconst 0, 1) := by decide +kernel
theorem dX4_begin_170 : decode cX4_begin 170 = .ok (.bastore, 1) := by decide +kernel
theorem dX4_begin_171 : decode cX4_begin 171 = .ok (.iinc 3 1, 3) := by decide +kernel
theorem dX4_begin_174 : decode cX4_begin 174 = .ok (.goto (-21), 3) := by decide +kernel
theorem dX4_begin_177 : decode cX4_begin 177 = .ok (.iload_n 2, 1) := by decide +kernel
theorem dX4_begin_178 : decode cX4_begin 178 = .ok (.ireturn, 1) := by decide +kernel
theorem dX4_refused_0 : decode cX4_refused 0 = .ok (.iload_n 1, 1) := by decide +kernel
theorem dX4_refused_1 : decode cX4_refused 1 = .ok (.ifCond .lt 9, 3) := by decide +kernel
theorem dX4_refused_4 : decode cX4_refused 4 = .ok (.iload_n 1, 1) := by decide +kernel
theorem dX4_refused_5 : decode cX4_refused 5 = .ok (.bipush 7, 2) := by decide +kernel
theorem dX4_refused_7 : decode cX4_refused 7 = .ok (.if_icmp .le 5, 3) := by decide +kernel
theorem dX4_refused_10 : decode cX4_refused 10 = .ok (.iconst (-1), 1) := by decide +kernel
theorem dX4_refused_11 : decode cX4_refused 11 = .ok (.ireturn, 1) := by decide +kernel
theorem dX4_refused_12 : decode cX4_refused 12 = .ok (.aload_n 0, 1) := by decide +kernel
theorem dX4_refused_13 : decode cX4_refused 13 = .ok (.getfield 17, 3) := by decide +kernel
theorem dX4_refused_16 : decode cX4_refused 16 = .ok (.iload_n 1, 1) := by decide +kernel
theorem dX4_refused_17 : decode cX4_refused 17 = .ok (.iaload, 1) := by decide +kernel
theorem dX4_refused_18 : decode cX4_refused 18 = .ok (.ifCond .ne 6, 3) := by decide +kernel
theorem dX4_refused_21 : decode cX4_refused 21 = .ok (.bipush (-4), 2) := by decide +kernel
theorem dX4_refused_23 : decode cX4_refused 23 = .ok (.ireturn, 1) := by decide +kernel
theorem dX4_refused_24 : decode cX4_refused 24 = .ok (.aload_n 0, 1) := by decide +kernel
theorem dX4_refused_25 : decode cX4_refused 25 = .ok (.getfield 17, 3) := by decide +kernel
theorem dX4_refused_28 : decode cX4_refused 28 = .ok (.iload_n 1, 1) := by decide +kernel
theorem dX4_refused_29 : decode cX4_refused 29 = .ok (.iaload, 1) := by decide +kernel
theorem dX4_refused_30 : decode cX4_refused 30 = .ok (.iconst 3, 1) := by decide +kernel
theorem dX4_refused_31 : decode cX4_refused 31 = .ok (.if_icmp .ne 6, 3) := by decide +kernel
theorem dX4_refused_34 : decode cX4_refused 34 = .ok (.bipush (-6), 2) := by decide +kernel
theorem dX4_refused_36 : decode cX4_refused 36 = .ok (.ireturn, 1) := by decide +kernel
theorem dX4_refused_37 : decode cX4_refused 37 = .ok (.aload_n 0, 1) := by decide +kernel
theorem dX4_refused_38 : decode cX4_refused 38 = .ok (.getfield 17, 3) := by decide +kernel
theorem dX4_refused_41 : decode cX4_refused 41 = .ok (.iload_n 1, 1) := by decide +kernel
theorem dX4_refused_42 : decode cX4_refused 42 = .ok (.iaload, 1) := by decide +kernel
theorem dX4_refused_43 : decode cX4_refused 43 = .ok (.iconst 2, 1) := by decide +kernel
theorem dX4_refused_44 : decode cX4_refused 44 = .ok (.if_icmp .ne 6, 3) := by decide +kernel
theorem dX4_refused_47 : decode cX4_refused 47 = .ok (.bipush (-8), 2) := by decide +kernel
theorem dX4_refused_49 : decode cX4_refused 49 = .ok (.ireturn, 1) := by decide +kernel
theorem dX4_refused_50 : decode cX4_refused 50 = .ok (.iconst 0, 1) := by decide +kernel
theorem dX4_refused_51 : decode cX4_refused 51 = .ok (.ireturn, 1) := by decide +kernel
set_option maxRecDepth 20000 in
theorem ggX4_stopped_X4_refused : GoodIn wsX4_stopped wsX4_refused := goodIn_r _ [6, 7, 8, 9, 10, 11, 12, 13, 14, 15, 16, 17, 18, 19, 20, 21, 22, 23, 24, 25, 26, 27, 28] (by decide +kernel) (by decide +kernel)
set_option maxRecDepth 20000 in
theorem gX4_stopped_X4_refused : GoodIn wsX4_stopped (wsV RX4 91 RX4 yX4_refused wsX4_refused) := goodIn_app (goodIn_of _ (by decide +kernel)) ggX4_stopped_X4_refused
theorem dX4_stopped_0 : decode cX4_stopped 0 = .ok (.aload_n 0, 1) := by decide +kernel
theorem dX4_stopped_1 : decode cX4_stopped 1 = .ok (.iload_n 1, 1) := by decide +kernel
theorem dX4_stopped_2 : decode cX4_stopped 2 = .ok (.invokevirtual 91, 3) := by decide +kernel
theorem dX4_stopped_5 : decode cX4_stopped 5 = .ok (.istore_n 2, 1) := by decide +kernel
theorem dX4_stopped_6 : decode cX4_stopped 6 = .ok (.iload_n 2, 1) := by decide +kernel
theorem dX4_stopped_7 : decode cX4_stopped 7 = .ok (.ifCond .ne 21, 3) := by decide +kernel
theorem dX4_stopped_10 : decode cX4_stopped 10 = .ok (.aload_n 0, 1) := by decide +kernel
theorem dX4_stopped_11 : decode cX4_stopped 11 = .ok (.getfield 38, 3) := by decide +kernel
theorem dX4_stopped_14 : decode cX4_stopped 14 = .ok (.iload_n 1, 1) := by decide +kernel
theorem dX4_stopped_15 : decode cX4_stopped 15 = .ok (.baload, 1) := by decide +kernel
theorem dX4_stopped_16 : decode cX4_stopped 16 = .ok (.ifCond .eq 12, 3) := by decide +kernel
theorem dX4_stopped_19 : decode cX4_stopped 19 = .ok (.aload_n 0, 1) := by decide +kernel
theorem dX4_stopped_20 : decode cX4_stopped 20 = .ok (.getfield 38, 3) := by decide +kernel
theorem dX4_stopped_23 : decode cX4_stopped 23 = .ok (.iload_n 1, 1) := by decide +kernel
theorem dX4_stopped_24 : decode cX4_stopped 24 = .ok (.iconst 0, 1) := by decide +kernel
theorem dX4_stopped_25 : decode cX4_stopped 25 = .ok (.bastore, 1) := by decide +kernel
theorem dX4_stopped_26 : decode cX4_stopped 26 = .ok (.iconst 1, 1) := by decide +kernel
theorem dX4_stopped_27 : decode cX4_stopped 27 = .ok (.ireturn, 1) := by decide +kernel
theorem dX4_stopped_28 : decode cX4_stopped 28 = .ok (.iload_n 2, 1) := by decide +kernel
theorem dX4_stopped_29 : decode cX4_stopped 29 = .ok (.ireturn, 1) := by decide +kernel
set_option maxRecDepth 20000 in
theorem ggX4_read_X4_stopped : GoodIn wsX4_read wsX4_stopped := goodIn_r _ [19, 20, 21, 22, 23, 18, 24, 25, 54, 55, 56, 57, 58, 59, 60, 61, 62, 63, 64, 65, 66, 67, 68, 69, 70, 71, 72, 73, 74] (by decide +kernel) (by decide +kernel)
set_option maxRecDepth 20000 in
theorem gX4_read_X4_stopped : GoodIn wsX4_read (wsV RX4 97 RX4 yX4_stopped wsX4_stopped) := goodIn_app (goodIn_of _ (by decide +kernel)) ggX4_read_X4_stopped
set_option maxRecDepth 20000 in
theorem ggX4_read_X4_event : GoodIn wsX4_read wsX4_event := goodIn_r _ [29, 4, 30, 31, 32, 18, 33, 34, 54, 55, 56, 57, 58, 59, 60, 61, 62, 63, 64, 65, 66, 67, 68, 69, 70, 71, 72, 73, 74] (by decide +kernel) (by decide +kernel)
set_option maxRecDepth 20000 in
theorem gX4_read_X4_event : GoodIn wsX4_read (wsV RX4 72 RX4 yX4_event wsX4_event) := goodIn_app (goodIn_of _ (by decide +kernel)) ggX4_read_X4_event
set_option maxRecDepth 20000 in
theorem ggX4_read_X4_receive : GoodIn wsX4_read wsX4_receive := goodIn_r _ [33, 4, 34, 54, 55, 56, 57, 58, 59, 60, 61, 62, 63, 64, 65, 66, 67, 68, 69, 70, 71, 72, 73, 74] (by decide +kernel) (by decide +kernel)
set_option maxRecDepth 20000 in
theorem gX4_read_X4_receive : GoodIn wsX4_read (wsV RX4 66 RX4 yX4_receive wsX4_receive) := goodIn_app (goodIn_of _ (by decide +kernel)) ggX4_read_X4_receive
set_option maxRecDepth 20000 in
theorem ggX4_read_X4_meet : GoodIn wsX4_read wsX4_meet := goodIn_r _ [38, 5, 3, 4, 25, 34, 39, 30, 31, 32, 18, 33, 40, 41, 42, 43, 44, 45, 10, 7, 14, 6, 54, 55, 56, 57, 58, 59, 60, 61, 62, 63, 64, 65, 66, 67, 68, 69, 70, 71, 72, 73, 74] (by decide +kernel) (by decide +kernel)
set_option maxRecDepth 20000 in
theorem gX4_read_X4_meet : GoodIn wsX4_read (wsV RX4 102 RX4 yX4_meet wsX4_meet) := goodIn_app (goodIn_of _ (by decide +kernel)) ggX4_read_X4_meet
set_option maxRecDepth 20000 in
theorem ggX4_read_X4_find : GoodIn wsX4_read wsX4_find := goodIn_r _ [49, 45, 44, 10, 54, 55, 56, 57, 58, 59, 60, 61, 62, 63, 64, 65, 66, 67, 68, 69, 70, 71, 72, 73, 74] (by decide +kernel) (by decide +kernel)
set_option maxRecDepth 20000 in
theorem gX4_read_X4_find : GoodIn wsX4_read (wsV RX4 105 RX4 yX4_find wsX4_find) := goodIn_app (goodIn_of _ (by decide +kernel)) ggX4_read_X4_find
set_option maxRecDepth 20000 in
theorem ggX4_read_X4_restart : GoodIn wsX4_read wsX4_restart := goodIn_r _ [53, 5, 13, 7, 8, 9, 54, 55, 56, 57, 58, 59, 60, 61, 62, 63, 64, 65, 66, 67, 68, 69, 70, 71, 72, 73, 74] (by decide +kernel) (by decide +kernel)
set_option maxRecDepth 20000 in
theorem gX4_read_X4_restart : GoodIn wsX4_read (wsV RX4 109 RX4 yX4_restart wsX4_restart) := goodIn_app (goodIn_of _ (by decide +kernel)) ggX4_read_X4_restart
theorem dX4_read_0 : decode cX4_read 0 = .ok (.iload_n 1, 1) := by decide +kernel
theorem dX4_read_1 : decode cX4_read 1 = .ok (.ifCond .lt 19, 3) := by decide +kernel
theorem dX4_read_4 : decode cX4_read 4 = .ok (.iload_n 1, 1) := by decide +kernel
theorem dX4_read_5 : decode cX4_read 5 = .ok (.bipush 7, 2) := by decide +kernel
theorem dX4_read_7 : decode cX4_read 7 = .ok (.if_icmp .gt 13, 3) := by decide +kernel
theorem dX4_read_10 : decode cX4_read 10 = .ok (.iload_n 2, 1) := by decide +kernel
theorem dX4_read_11 : decode cX4_read 11 = .ok (.ifCond .lt 9, 3) := by decide +kernel
theorem dX4_read_14 : decode cX4_read 14 = .ok (.iload_n 2, 1) := by decide +kernel
theorem dX4_read_15 : decode cX4_read 15 = .ok (.bipush 15, 2) := by decide +kernel
theorem dX4_read_17 : decode cX4_read 17 = .ok (.if_icmp .le 7, 3) := by decide +kernel
theorem dX4_read_20 : decode cX4_read 20 = .ok (.ldc2_w 95, 3) := by decide +kernel
theorem dX4_read_23 : decode cX4_read 23 = .ok (.lreturn, 1) := by decide +kernel
theorem dX4_read_24 : decode cX4_read 24 = .ok (.aload_n 0, 1) := by decide +kernel
theorem dX4_read_25 : decode cX4_read 25 = .ok (.iload_n 1, 1) := by decide +kernel
theorem dX4_read_26 : decode cX4_read 26 = .ok (.invokevirtual 97, 3) := by decide +kernel
theorem dX4_read_29 : decode cX4_read 29 = .ok (.istore_n 3, 1) := by decide +kernel
theorem dX4_read_30 : decode cX4_read 30 = .ok (.iload_n 3, 1) := by decide +kernel
theorem dX4_read_31 : decode cX4_read 31 = .ok (.ifCond .eq 10, 3) := by decide +kernel
theorem dX4_read_34 : decode cX4_read 34 = .ok (.ldc2_w 100, 3) := by decide +kernel
theorem dX4_read_37 : decode cX4_read 37 = .ok (.iload_n 3, 1) := by decide +kernel
theorem dX4_read_38 : decode cX4_read 38 = .ok (.i2l, 1) := by decide +kernel
theorem dX4_read_39 : decode cX4_read 39 = .ok (.ladd, 1) := by decide +kernel
theorem dX4_read_40 : decode cX4_read 40 = .ok (.lreturn, 1) := by decide +kernel
theorem dX4_read_41 : decode cX4_read 41 = .ok (.aload_n 0, 1) := by decide +kernel
theorem dX4_read_42 : decode cX4_read 42 = .ok (.getfield 20, 3) := by decide +kernel
theorem dX4_read_45 : decode cX4_read 45 = .ok (.iload_n 1, 1) := by decide +kernel
theorem dX4_read_46 : decode cX4_read 46 = .ok (.iaload, 1) := by decide +kernel
theorem dX4_read_47 : decode cX4_read 47 = .ok (.istore 4, 2) := by decide +kernel
theorem dX4_read_49 : decode cX4_read 49 = .ok (.iload_n 2, 1) := by decide +kernel
theorem dX4_read_50 : decode cX4_read 50 = .ok (.iconst 3, 1) := by decide +kernel
theorem dX4_read_51 : decode cX4_read 51 = .ok (.iand, 1) := by decide +kernel
theorem dX4_read_52 : decode cX4_read 52 = .ok (.istore 5, 2) := by decide +kernel
theorem dX4_read_54 : decode cX4_read 54 = .ok (.aload_n 0, 1) := by decide +kernel
theorem dX4_read_55 : decode cX4_read 55 = .ok (.iload 4, 2) := by decide +kernel
theorem dX4_read_57 : decode cX4_read 57 = .ok (.invokevirtual 72, 3) := by decide +kernel
theorem dX4_read_60 : decode cX4_read 60 = .ok (.aload_n 0, 1) := by decide +kernel
theorem dX4_read_61 : decode cX4_read 61 = .ok (.iload 5, 2) := by decide +kernel
theorem dX4_read_63 : decode cX4_read 63 = .ok (.aload_n 0, 1) := by decide +kernel
theorem dX4_read_64 : decode cX4_read 64 = .ok (.getfield 13, 3) := by decide +kernel
theorem dX4_read_67 : decode cX4_read 67 = .ok (.iload 4, 2) := by decide +kernel
theorem dX4_read_69 : decode cX4_read 69 = .ok (.laload, 1) := by decide +kernel
theorem dX4_read_70 : decode cX4_read 70 = .ok (.invokevirtual 66, 3) := by decide +kernel
theorem dX4_read_73 : decode cX4_read 73 = .ok (.aload_n 0, 1) := by decide +kernel
theorem dX4_read_74 : decode cX4_read 74 = .ok (.getfield 51, 3) := by decide +kernel
theorem dX4_read_77 : decode cX4_read 77 = .ok (.iload_n 2, 1) := by decide +kernel
theorem dX4_read_78 : decode cX4_read 78 = .ok (.iaload, 1) := by decide +kernel
theorem dX4_read_79 : decode cX4_read 79 = .ok (.iload_n 1, 1) := by decide +kernel
theorem dX4_read_80 : decode cX4_read 80 = .ok (.iconst 1, 1) := by decide +kernel
theorem dX4_read_81 : decode cX4_read 81 = .ok (.iadd, 1) := by decide +kernel
theorem dX4_read_82 : decode cX4_read 82 = .ok (.if_icmp .ne 15, 3) := by decide +kernel
theorem dX4_read_85 : decode cX4_read 85 = .ok (.aload_n 0, 1) := by decide +kernel
theorem dX4_read_86 : decode cX4_read 86 = .ok (.getfield 54, 3) := by decide +kernel
theorem dX4_read_89 : decode cX4_read 89 = .ok (.iload_n 2, 1) := by decide +kernel
theorem dX4_read_90 : decode cX4_read 90 = .ok (.iaload, 1) := by decide +kernel
theorem dX4_read_91 : decode cX4_read 91 = .ok (.i2l, 1) := by decide +kernel
theorem dX4_read_92 : decode cX4_read 92 = .ok (.lstore 6, 2) := by decide +kernel
theorem dX4_read_94 : decode cX4_read 94 = .ok (.goto 164, 3) := by decide +kernel
theorem dX4_read_97 : decode cX4_read 97 = .ok (.aload_n 0, 1) := by decide +kernel
theorem dX4_read_98 : decode cX4_read 98 = .ok (.iload_n 2, 1) := by decide +kernel
theorem dX4_read_99 : decode cX4_read 99 = .ok (.invokevirtual 102, 3) := by decide +kernel
theorem dX4_read_102 : decode cX4_read 102 = .ok (.istore 8, 2) := by decide +kernel
theorem dX4_read_104 : decode cX4_read 104 = .ok (.iload 8, 2) := by decide +kernel
theorem dX4_read_106 : decode cX4_read 106 = .ok (.ifCond .lt 35, 3) := by decide +kernel
theorem dX4_read_109 : decode cX4_read 109 = .ok (.aload_n 0, 1) := by decide +kernel
theorem dX4_read_110 : decode cX4_read 110 = .ok (.getfield 32, 3) := by decide +kernel
theorem dX4_read_113 : decode cX4_read 113 = .ok (.iload 8, 2) := by decide +kernel
theorem dX4_read_115 : decode cX4_read 115 = .ok (.laload, 1) := by decide +kernel
theorem dX4_read_116 : decode cX4_read 116 = .ok (.aload_n 0, 1) := by decide +kernel
theorem dX4_read_117 : decode cX4_read 117 = .ok (.getfield 29, 3) := by decide +kernel
theorem dX4_read_120 : decode cX4_read 120 = .ok (.iload_n 1, 1) := by decide +kernel
theorem dX4_read_121 : decode cX4_read 121 = .ok (.laload, 1) := by decide +kernel
theorem dX4_read_122 : decode cX4_read 122 = .ok (.lcmp, 1) := by decide +kernel
theorem dX4_read_123 : decode cX4_read 123 = .ok (.ifCond .gt 18, 3) := by decide +kernel
theorem dX4_read_126 : decode cX4_read 126 = .ok (.aload_n 0, 1) := by decide +kernel
theorem dX4_read_127 : decode cX4_read 127 = .ok (.getfield 32, 3) := by decide +kernel
theorem dX4_read_130 : decode cX4_read 130 = .ok (.iload 8, 2) := by decide +kernel
theorem dX4_read_132 : decode cX4_read 132 = .ok (.aload_n 0, 1) := by decide +kernel
theorem dX4_read_133 : decode cX4_read 133 = .ok (.getfield 29, 3) := by decide +kernel
theorem dX4_read_136 : decode cX4_read 136 = .ok (.iload_n 1, 1) := by decide +kernel
theorem dX4_read_137 : decode cX4_read 137 = .ok (.laload, 1) := by decide +kernel
theorem dX4_read_138 : decode cX4_read 138 = .ok (.lconst 1, 1) := by decide +kernel
theorem dX4_read_139 : decode cX4_read 139 = .ok (.ladd, 1) := by decide +kernel
theorem dX4_read_140 : decode cX4_read 140 = .ok (.lastore, 1) := by decide +kernel
theorem dX4_read_141 : decode cX4_read 141 = .ok (.aload_n 0, 1) := by decide +kernel
theorem dX4_read_142 : decode cX4_read 142 = .ok (.iload_n 2, 1) := by decide +kernel
theorem dX4_read_143 : decode cX4_read 143 = .ok (.aload_n 0, 1) := by decide +kernel
theorem dX4_read_144 : decode cX4_read 144 = .ok (.getfield 29, 3) := by decide +kernel
theorem dX4_read_147 : decode cX4_read 147 = .ok (.iload_n 1, 1) := by decide +kernel
theorem dX4_read_148 : decode cX4_read 148 = .ok (.laload, 1) := by decide +kernel
theorem dX4_read_149 : decode cX4_read 149 = .ok (.aload_n 0, 1) := by decide +kernel
theorem dX4_read_150 : decode cX4_read 150 = .ok (.getfield 35, 3) := by decide +kernel
theorem dX4_read_153 : decode cX4_read 153 = .ok (.iload_n 1, 1) := by decide +kernel
theorem dX4_read_154 : decode cX4_read 154 = .ok (.laload, 1) := by decide +kernel
theorem dX4_read_155 : decode cX4_read 155 = .ok (.invokevirtual 105, 3) := by decide +kernel
theorem dX4_read_158 : decode cX4_read 158 = .ok (.istore 9, 2) := by decide +kernel
theorem dX4_read_160 : decode cX4_read 160 = .ok (.iload 9, 2) := by decide +kernel
theorem dX4_read_162 : decode cX4_read 162 = .ok (.ifCond .lt 23, 3) := by decide +kernel
theorem dX4_read_165 : decode cX4_read 165 = .ok (.aload_n 0, 1) := by decide +kernel
theorem dX4_read_166 : decode cX4_read 166 = .ok (.iload_n 1, 1) := by decide +kernel
theorem dX4_read_167 : decode cX4_read 167 = .ok (.aload_n 0, 1) := by decide +kernel
theorem dX4_read_168 : decode cX4_read 168 = .ok (.getfield 60, 3) := by decide +kernel
theorem dX4_read_171 : decode cX4_read 171 = .ok (.iload 9, 2) := by decide +kernel
theorem dX4_read_173 : decode cX4_read 173 = .ok (.laload, 1) := by decide +kernel
theorem dX4_read_174 : decode cX4_read 174 = .ok (.invokevirtual 109, 3) := by decide +kernel
theorem dX4_read_177 : decode cX4_read 177 = .ok (.ldc2_w 112, 3) := by decide +kernel
theorem dX4_read_180 : decode cX4_read 180 = .ok (.lstore 6, 2) := by decide +kernel
theorem dX4_read_182 : decode cX4_read 182 = .ok (.goto 76, 3) := by decide +kernel
theorem dX4_read_185 : decode cX4_read 185 = .ok (.aload_n 0, 1) := by decide +kernel
theorem dX4_read_186 : decode cX4_read 186 = .ok (.getfield 48, 3) := by decide +kernel
theorem dX4_read_189 : decode cX4_read 189 = .ok (.iload_n 2, 1) := by decide +kernel
theorem dX4_read_190 : decode cX4_read 190 = .ok (.laload, 1) := by decide +kernel
theorem dX4_read_191 : decode cX4_read 191 = .ok (.aload_n 0, 1) := by decide +kernel
theorem dX4_read_192 : decode cX4_read 192 = .ok (.getfield 29, 3) := by decide +kernel
theorem dX4_read_195 : decode cX4_read 195 = .ok (.iload_n 1, 1) := by decide +kernel
theorem dX4_read_196 : decode cX4_read 196 = .ok (.laload, 1) := by decide +kernel
theorem dX4_read_197 : decode cX4_read 197 = .ok (.lcmp, 1) := by decide +kernel
theorem dX4_read_198 : decode cX4_read 198 = .ok (.ifCond .ge 15, 3) := by decide +kernel
theorem dX4_read_201 : decode cX4_read 201 = .ok (.aload_n 0, 1) := by decide +kernel
theorem dX4_read_202 : decode cX4_read 202 = .ok (.getfield 48, 3) := by decide +kernel
theorem dX4_read_205 : decode cX4_read 205 = .ok (.iload_n 2, 1) := by decide +kernel
theorem dX4_read_206 : decode cX4_read 206 = .ok (.aload_n 0, 1) := by decide +kernel
theorem dX4_read_207 : decode cX4_read 207 = .ok (.getfield 29, 3) := by decide +kernel
theorem dX4_read_210 : decode cX4_read 210 = .ok (.iload_n 1, 1) := by decide +kernel
theorem dX4_read_211 : decode cX4_read 211 = .ok (.laload, 1) := by decide +kernel
theorem dX4_read_212 : decode cX4_read 212 = .ok (.lastore, 1) := by decide +kernel
theorem dX4_read_213 : decode cX4_read 213 = .ok (.aload_n 0, 1) := by decide +kernel
theorem dX4_read_214 : decode cX4_read 214 = .ok (.getfield 42, 3) := by decide +kernel
theorem dX4_read_217 : decode cX4_read 217 = .ok (.iload_n 1, 1) := by decide +kernel
theorem dX4_read_218 : decode cX4_read 218 = .ok (.bipush 16, 2) := by decide +kernel
theorem dX4_read_220 : decode cX4_read 220 = .ok (.imul, 1) := by decide +kernel
theorem dX4_read_221 : decode cX4_read 221 = .ok (.iload_n 2, 1) := by decide +kernel
theorem dX4_read_222 : decode cX4_read 222 = .ok (.iadd, 1) := by decide +kernel
theorem dX4_read_223 : decode cX4_read 223 = .ok (.iconst 1, 1) := by decide +kernel
theorem dX4_read_224 : decode cX4_read 224 = .ok (.bastore, 1) := by decide +kernel
theorem dX4_read_225 : decode cX4_read 225 = .ok (.aload_n 0, 1) := by decide +kernel
theorem dX4_read_226 : decode cX4_read 226 = .ok (.iload_n 2, 1) := by decide +kernel
theorem dX4_read_227 : decode cX4_read 227 = .ok (.lconst 0, 1) := by decide +kernel
theorem dX4_read_228 : decode cX4_read 228 = .ok (.aload_n 0, 1) := by decide +kernel
theorem dX4_read_229 : decode cX4_read 229 = .ok (.getfield 29, 3) := by decide +kernel
theorem dX4_read_232 : decode cX4_read 232 = .ok (.iload_n 1, 1) := by decide +kernel
theorem dX4_read_233 : decode cX4_read 233 = .ok (.laload, 1) := by decide +kernel
theorem dX4_read_234 : decode cX4_read 234 = .ok (.invokevirtual 105, 3) := by decide +kernel
theorem dX4_read_237 : decode cX4_read 237 = .ok (.istore 10, 2) := by decide +kernel
theorem dX4_read_239 : decode cX4_read 239 = .ok (.iload 10, 2) := by decide +kernel
theorem dX4_read_241 : decode cX4_read 241 = .ok (.ifCond .ge 7, 3) := by decide +kernel
theorem dX4_read_244 : decode cX4_read 244 = .ok (.lconst 0, 1) := by decide +kernel
theorem dX4_read_245 : decode cX4_read 245 = .ok (.goto 11, 3) := by decide +kernel
theorem dX4_read_248 : decode cX4_read 248 = .ok (.aload_n 0, 1) := by decide +kernel
theorem dX4_read_249 : decode cX4_read 249 = .ok (.getfield 63, 3) := by decide +kernel
theorem dX4_read_252 : decode cX4_read 252 = .ok (.iload 10, 2) := by decide +kernel
theorem dX4_read_254 : decode cX4_read 254 = .ok (.iaload, 1) := by decide +kernel
theorem dX4_read_255 : decode cX4_read 255 = .ok (.i2l, 1) := by decide +kernel
theorem dX4_read_256 : decode cX4_read 256 = .ok (.lstore 6, 2) := by decide +kernel
theorem dX4_read_258 : decode cX4_read 258 = .ok (.aload_n 0, 1) := by decide +kernel
theorem dX4_read_259 : decode cX4_read 259 = .ok (.iload 4, 2) := by decide +kernel
theorem dX4_read_261 : decode cX4_read 261 = .ok (.aload_n 0, 1) := by decide +kernel
theorem dX4_read_262 : decode cX4_read 262 = .ok (.getfield 13, 3) := by decide +kernel
theorem dX4_read_265 : decode cX4_read 265 = .ok (.iload 5, 2) := by decide +kernel
theorem dX4_read_267 : decode cX4_read 267 = .ok (.laload, 1) := by decide +kernel
theorem dX4_read_268 : decode cX4_read 268 = .ok (.invokevirtual 66, 3) := by decide +kernel
theorem dX4_read_271 : decode cX4_read 271 = .ok (.lload 6, 2) := by decide +kernel
theorem dX4_read_273 : decode cX4_read 273 = .ok (.lreturn, 1) := by decide +kernel
set_option maxRecDepth 20000 in
theorem ggX4_write_X4_stopped : GoodIn wsX4_write wsX4_stopped := goodIn_r _ [15, 6, 16, 17, 18, 14, 19, 20, 57, 58, 59, 60, 61, 62, 63, 64, 65, 66, 67, 68, 69, 70, 71, 72, 73, 74, 75, 76, 77] (by decide +kernel) (by decide +kernel)
set_option maxRecDepth 20000 in
theorem gX4_write_X4_stopped : GoodIn wsX4_write (wsV RX4 97 RX4 yX4_stopped wsX4_stopped) := goodIn_app (goodIn_of _ (by decide +kernel)) ggX4_write_X4_stopped
set_option maxRecDepth 20000 in
theorem ggX4_write_X4_event : GoodIn wsX4_write wsX4_event := goodIn_r _ [24, 2, 25, 26, 27, 14, 28, 29, 57, 58, 59, 60, 61, 62, 63, 64, 65, 66, 67, 68, 69, 70, 71, 72, 73, 74, 75, 76, 77] (by decide +kernel) (by decide +kernel)
set_option maxRecDepth 20000 in
theorem gX4_write_X4_event : GoodIn wsX4_write (wsV RX4 72 RX4 yX4_event wsX4_event) := goodIn_app (goodIn_of _ (by decide +kernel)) ggX4_write_X4_event
set_option maxRecDepth 20000 in
theorem ggX4_write_X4_receive : GoodIn wsX4_write wsX4_receive := goodIn_r _ [28, 2, 29, 57, 58, 59, 60, 61, 62, 63, 64, 65, 66, 67, 68, 69, 70, 71, 72, 73, 74, 75, 76, 77] (by decide +kernel) (by decide +kernel)
set_option maxRecDepth 20000 in
theorem gX4_write_X4_receive : GoodIn wsX4_write (wsV RX4 66 RX4 yX4_receive wsX4_receive) := goodIn_app (goodIn_of _ (by decide +kernel)) ggX4_write_X4_receive
set_option maxRecDepth 20000 in
theorem ggX4_write_X4_meet : GoodIn wsX4_write wsX4_meet := goodIn_r _ [33, 3, 1, 2, 20, 29, 34, 25, 26, 27, 14, 28, 35, 36, 37, 38, 39, 40, 9, 10, 41, 4, 57, 58, 59, 60, 61, 62, 63, 64, 65, 66, 67, 68, 69, 70, 71, 72, 73, 74, 75, 76, 77] (by decide +kernel) (by decide +kernel)
set_option maxRecDepth 20000 in
theorem gX4_write_X4_meet : GoodIn wsX4_write (wsV RX4 102 RX4 yX4_meet wsX4_meet) := goodIn_app (goodIn_of _ (by decide +kernel)) ggX4_write_X4_meet
set_option maxRecDepth 20000 in
theorem ggX4_write_X4_restart : GoodIn wsX4_write wsX4_restart := goodIn_r _ [45, 3, 46, 10, 47, 48, 57, 58, 59, 60, 61, 62, 63, 64, 65, 66, 67, 68, 69, 70, 71, 72, 73, 74, 75, 76, 77] (by decide +kernel) (by decide +kernel)
set_option maxRecDepth 20000 in
theorem gX4_write_X4_restart : GoodIn wsX4_write (wsV RX4 109 RX4 yX4_restart wsX4_restart) := goodIn_app (goodIn_of _ (by decide +kernel)) ggX4_write_X4_restart
set_option maxRecDepth 20000 in
theorem ggX4_write_X4_versions : GoodIn wsX4_write wsX4_versions := goodIn_r _ [52, 40, 39, 57, 58, 59, 60, 61, 62, 63, 64, 65, 66, 67, 68, 69, 70, 71, 72, 73, 74, 75, 76, 77] (by decide +kernel) (by decide +kernel)
set_option maxRecDepth 20000 in
theorem gX4_write_X4_versions : GoodIn wsX4_write (wsV RX4 114 RX4 yX4_versions wsX4_versions) := goodIn_app (goodIn_of _ (by decide +kernel)) ggX4_write_X4_versions
set_option maxRecDepth 20000 in
theorem ggX4_write_X4_find : GoodIn wsX4_write wsX4_find := goodIn_r _ [56, 40, 39, 9, 57, 58, 59, 60, 61, 62, 63, 64, 65, 66, 67, 68, 69, 70, 71, 72, 73, 74, 75, 76, 77] (by decide +kernel) (by decide +kernel)
set_option maxRecDepth 20000 in
theorem gX4_write_X4_find : GoodIn wsX4_write (wsV RX4 105 RX4 yX4_find wsX4_find) := goodIn_app (goodIn_of _ (by decide +kernel)) ggX4_write_X4_find
theorem dX4_write_0 : decode cX4_write 0 = .ok (.iload_n 1, 1) := by decide +kernel
theorem dX4_write_1 : decode cX4_write 1 = .ok (.ifCond .lt 19, 3) := by decide +kernel
theorem dX4_write_4 : decode cX4_write 4 = .ok (.iload_n 1, 1) := by decide +kernel
theorem dX4_write_5 : decode cX4_write 5 = .ok (.bipush 7, 2) := by decide +kernel
theorem dX4_write_7 : decode cX4_write 7 = .ok (.if_icmp .gt 13, 3) := by decide +kernel
theorem dX4_write_10 : decode cX4_write 10 = .ok (.iload_n 2, 1) := by decide +kernel
theorem dX4_write_11 : decode cX4_write 11 = .ok (.ifCond .lt 9, 3) := by decide +kernel
theorem dX4_write_14 : decode cX4_write 14 = .ok (.iload_n 2, 1) := by decide +kernel
theorem dX4_write_15 : decode cX4_write 15 = .ok (.bipush 15, 2) := by decide +kernel
theorem dX4_write_17 : decode cX4_write 17 = .ok (.if_icmp .le 5, 3) := by decide +kernel
theorem dX4_write_20 : decode cX4_write 20 = .ok (.iconst (-1), 1) := by decide +kernel
theorem dX4_write_21 : decode cX4_write 21 = .ok (.ireturn, 1) := by decide +kernel
theorem dX4_write_22 : decode cX4_write 22 = .ok (.aload_n 0, 1) := by decide +kernel
theorem dX4_write_23 : decode cX4_write 23 = .ok (.iload_n 1, 1) := by decide +kernel
theorem dX4_write_24 : decode cX4_write 24 = .ok (.invokevirtual 97, 3) := by decide +kernel
theorem dX4_write_27 : decode cX4_write 27 = .ok (.istore 4, 2) := by decide +kernel
theorem dX4_write_29 : decode cX4_write 29 = .ok (.iload 4, 2) := by decide +kernel
theorem dX4_write_31 : decode cX4_write 31 = .ok (.ifCond .eq 6, 3) := by decide +kernel
theorem dX4_write_34 : decode cX4_write 34 = .ok (.iload 4, 2) := by decide +kernel
theorem dX4_write_36 : decode cX4_write 36 = .ok (.ireturn, 1) := by decide +kernel
theorem dX4_write_37 : decode cX4_write 37 = .ok (.aload_n 0, 1) := by decide +kernel
theorem dX4_write_38 : decode cX4_write 38 = .ok (.getfield 20, 3) := by decide +kernel
theorem dX4_write_41 : decode cX4_write 41 = .ok (.iload_n 1, 1) := by decide +kernel
theorem dX4_write_42 : decode cX4_write 42 = .ok (.iaload, 1) := by decide +kernel
theorem dX4_write_43 : decode cX4_write 43 = .ok (.istore 5, 2) := by decide +kernel
theorem dX4_write_45 : decode cX4_write 45 = .ok (.iload_n 2, 1) := by decide +kernel
theorem dX4_write_46 : decode cX4_write 46 = .ok (.iconst 3, 1) := by decide +kernel
theorem dX4_write_47 : decode cX4_write 47 = .ok (.iand, 1) := by decide +kernel
theorem dX4_write_48 : decode cX4_write 48 = .ok (.istore 6, 2) := by decide +kernel
theorem dX4_write_50 : decode cX4_write 50 = .ok (.aload_n 0, 1) := by decide +kernel
theorem dX4_write_51 : decode cX4_write 51 = .ok (.iload 5, 2) := by decide +kernel
theorem dX4_write_53 : decode cX4_write 53 = .ok (.invokevirtual 72, 3) := by decide +kernel
theorem dX4_write_56 : decode cX4_write 56 = .ok (.aload_n 0, 1) := by decide +kernel
theorem dX4_write_57 : decode cX4_write 57 = .ok (.iload 6, 2) := by decide +kernel
theorem dX4_write_59 : decode cX4_write 59 = .ok (.aload_n 0, 1) := by decide +kernel
theorem dX4_write_60 : decode cX4_write 60 = .ok (.getfield 13, 3) := by decide +kernel
theorem dX4_write_63 : decode cX4_write 63 = .ok (.iload 5, 2) := by decide +kernel
theorem dX4_write_65 : decode cX4_write 65 = .ok (.laload, 1) := by decide +kernel
theorem dX4_write_66 : decode cX4_write 66 = .ok (.invokevirtual 66, 3) := by decide +kernel
theorem dX4_write_69 : decode cX4_write 69 = .ok (.iconst 0, 1) := by decide +kernel
theorem dX4_write_70 : decode cX4_write 70 = .ok (.istore 7, 2) := by decide +kernel
theorem dX4_write_72 : decode cX4_write 72 = .ok (.aload_n 0, 1) := by decide +kernel
theorem dX4_write_73 : decode cX4_write 73 = .ok (.getfield 51, 3) := by decide +kernel
theorem dX4_write_76 : decode cX4_write 76 = .ok (.iload_n 2, 1) := by decide +kernel
theorem dX4_write_77 : decode cX4_write 77 = .ok (.iaload, 1) := by decide +kernel
theorem dX4_write_78 : decode cX4_write 78 = .ok (.iload_n 1, 1) := by decide +kernel
theorem dX4_write_79 : decode cX4_write 79 = .ok (.iconst 1, 1) := by decide +kernel
theorem dX4_write_80 : decode cX4_write 80 = .ok (.iadd, 1) := by decide +kernel
theorem dX4_write_81 : decode cX4_write 81 = .ok (.if_icmp .ne 13, 3) := by decide +kernel
theorem dX4_write_84 : decode cX4_write 84 = .ok (.aload_n 0, 1) := by decide +kernel
theorem dX4_write_85 : decode cX4_write 85 = .ok (.getfield 54, 3) := by decide +kernel
theorem dX4_write_88 : decode cX4_write 88 = .ok (.iload_n 2, 1) := by decide +kernel
theorem dX4_write_89 : decode cX4_write 89 = .ok (.iload_n 3, 1) := by decide +kernel
theorem dX4_write_90 : decode cX4_write 90 = .ok (.iastore, 1) := by decide +kernel
theorem dX4_write_91 : decode cX4_write 91 = .ok (.goto 160, 3) := by decide +kernel
theorem dX4_write_94 : decode cX4_write 94 = .ok (.aload_n 0, 1) := by decide +kernel
theorem dX4_write_95 : decode cX4_write 95 = .ok (.iload_n 2, 1) := by decide +kernel
theorem dX4_write_96 : decode cX4_write 96 = .ok (.invokevirtual 102, 3) := by decide +kernel
theorem dX4_write_99 : decode cX4_write 99 = .ok (.istore 8, 2) := by decide +kernel
theorem dX4_write_101 : decode cX4_write 101 = .ok (.iload 8, 2) := by decide +kernel
theorem dX4_write_103 : decode cX4_write 103 = .ok (.ifCond .lt 27, 3) := by decide +kernel
theorem dX4_write_106 : decode cX4_write 106 = .ok (.aload_n 0, 1) := by decide +kernel
theorem dX4_write_107 : decode cX4_write 107 = .ok (.getfield 26, 3) := by decide +kernel
theorem dX4_write_110 : decode cX4_write 110 = .ok (.iload_n 1, 1) := by decide +kernel
theorem dX4_write_111 : decode cX4_write 111 = .ok (.laload, 1) := by decide +kernel
theorem dX4_write_112 : decode cX4_write 112 = .ok (.aload_n 0, 1) := by decide +kernel
theorem dX4_write_113 : decode cX4_write 113 = .ok (.getfield 26, 3) := by decide +kernel
theorem dX4_write_116 : decode cX4_write 116 = .ok (.iload 8, 2) := by decide +kernel
theorem dX4_write_118 : decode cX4_write 118 = .ok (.laload, 1) := by decide +kernel
theorem dX4_write_119 : decode cX4_write 119 = .ok (.lcmp, 1) := by decide +kernel
theorem dX4_write_120 : decode cX4_write 120 = .ok (.ifCond .le 10, 3) := by decide +kernel
theorem dX4_write_123 : decode cX4_write 123 = .ok (.bipush (-5), 2) := by decide +kernel
theorem dX4_write_125 : decode cX4_write 125 = .ok (.istore 7, 2) := by decide +kernel
theorem dX4_write_127 : decode cX4_write 127 = .ok (.goto 124, 3) := by decide +kernel
theorem dX4_write_130 : decode cX4_write 130 = .ok (.iload 8, 2) := by decide +kernel
theorem dX4_write_132 : decode cX4_write 132 = .ok (.ifCond .lt 18, 3) := by decide +kernel
theorem dX4_write_135 : decode cX4_write 135 = .ok (.aload_n 0, 1) := by decide +kernel
theorem dX4_write_136 : decode cX4_write 136 = .ok (.iload 8, 2) := by decide +kernel
theorem dX4_write_138 : decode cX4_write 138 = .ok (.lconst 0, 1) := by decide +kernel
theorem dX4_write_139 : decode cX4_write 139 = .ok (.invokevirtual 109, 3) := by decide +kernel
theorem dX4_write_142 : decode cX4_write 142 = .ok (.aload_n 0, 1) := by decide +kernel
theorem dX4_write_143 : decode cX4_write 143 = .ok (.getfield 38, 3) := by decide +kernel
theorem dX4_write_146 : decode cX4_write 146 = .ok (.iload 8, 2) := by decide +kernel
theorem dX4_write_148 : decode cX4_write 148 = .ok (.iconst 1, 1) := by decide +kernel
theorem dX4_write_149 : decode cX4_write 149 = .ok (.bastore, 1) := by decide +kernel
theorem dX4_write_150 : decode cX4_write 150 = .ok (.aload_n 0, 1) := by decide +kernel
theorem dX4_write_151 : decode cX4_write 151 = .ok (.iload_n 2, 1) := by decide +kernel
theorem dX4_write_152 : decode cX4_write 152 = .ok (.invokevirtual 114, 3) := by decide +kernel
theorem dX4_write_155 : decode cX4_write 155 = .ok (.bipush 16, 2) := by decide +kernel
theorem dX4_write_157 : decode cX4_write 157 = .ok (.if_icmp .ne 10, 3) := by decide +kernel
theorem dX4_write_160 : decode cX4_write 160 = .ok (.bipush (-7), 2) := by decide +kernel
theorem dX4_write_162 : decode cX4_write 162 = .ok (.istore 7, 2) := by decide +kernel
theorem dX4_write_164 : decode cX4_write 164 = .ok (.goto 87, 3) := by decide +kernel
theorem dX4_write_167 : decode cX4_write 167 = .ok (.aload_n 0, 1) := by decide +kernel
theorem dX4_write_168 : decode cX4_write 168 = .ok (.getfield 48, 3) := by decide +kernel
theorem dX4_write_171 : decode cX4_write 171 = .ok (.iload_n 2, 1) := by decide +kernel
theorem dX4_write_172 : decode cX4_write 172 = .ok (.laload, 1) := by decide +kernel
theorem dX4_write_173 : decode cX4_write 173 = .ok (.lstore 9, 2) := by decide +kernel
theorem dX4_write_175 : decode cX4_write 175 = .ok (.aload_n 0, 1) := by decide +kernel
theorem dX4_write_176 : decode cX4_write 176 = .ok (.iload_n 2, 1) := by decide +kernel
theorem dX4_write_177 : decode cX4_write 177 = .ok (.lconst 0, 1) := by decide +kernel
theorem dX4_write_178 : decode cX4_write 178 = .ok (.ldc2_w 117, 3) := by decide +kernel
theorem dX4_write_181 : decode cX4_write 181 = .ok (.invokevirtual 105, 3) := by decide +kernel
theorem dX4_write_184 : decode cX4_write 184 = .ok (.istore 11, 2) := by decide +kernel
theorem dX4_write_186 : decode cX4_write 186 = .ok (.iload 11, 2) := by decide +kernel
theorem dX4_write_188 : decode cX4_write 188 = .ok (.ifCond .lt 25, 3) := by decide +kernel
theorem dX4_write_191 : decode cX4_write 191 = .ok (.aload_n 0, 1) := by decide +kernel
theorem dX4_write_192 : decode cX4_write 192 = .ok (.getfield 60, 3) := by decide +kernel
theorem dX4_write_195 : decode cX4_write 195 = .ok (.iload 11, 2) := by decide +kernel
theorem dX4_write_197 : decode cX4_write 197 = .ok (.laload, 1) := by decide +kernel
theorem dX4_write_198 : decode cX4_write 198 = .ok (.lload 9, 2) := by decide +kernel
theorem dX4_write_200 : decode cX4_write 200 = .ok (.lcmp, 1) := by decide +kernel
theorem dX4_write_201 : decode cX4_write 201 = .ok (.ifCond .le 12, 3) := by decide +kernel
theorem dX4_write_204 : decode cX4_write 204 = .ok (.aload_n 0, 1) := by decide +kernel
theorem dX4_write_205 : decode cX4_write 205 = .ok (.getfield 60, 3) := by decide +kernel
theorem dX4_write_208 : decode cX4_write 208 = .ok (.iload 11, 2) := by decide +kernel
theorem dX4_write_210 : decode cX4_write 210 = .ok (.laload, 1) := by decide +kernel
theorem dX4_write_211 : decode cX4_write 211 = .ok (.lstore 9, 2) := by decide +kernel
theorem dX4_write_213 : decode cX4_write 213 = .ok (.aload_n 0, 1) := by decide +kernel
theorem dX4_write_214 : decode cX4_write 214 = .ok (.getfield 32, 3) := by decide +kernel
theorem dX4_write_217 : decode cX4_write 217 = .ok (.iload_n 1, 1) := by decide +kernel
theorem dX4_write_218 : decode cX4_write 218 = .ok (.laload, 1) := by decide +kernel
theorem dX4_write_219 : decode cX4_write 219 = .ok (.lload 9, 2) := by decide +kernel
theorem dX4_write_221 : decode cX4_write 221 = .ok (.lcmp, 1) := by decide +kernel
theorem dX4_write_222 : decode cX4_write 222 = .ok (.ifCond .gt 13, 3) := by decide +kernel
theorem dX4_write_225 : decode cX4_write 225 = .ok (.aload_n 0, 1) := by decide +kernel
theorem dX4_write_226 : decode cX4_write 226 = .ok (.getfield 32, 3) := by decide +kernel
theorem dX4_write_229 : decode cX4_write 229 = .ok (.iload_n 1, 1) := by decide +kernel
theorem dX4_write_230 : decode cX4_write 230 = .ok (.lload 9, 2) := by decide +kernel
theorem dX4_write_232 : decode cX4_write 232 = .ok (.lconst 1, 1) := by decide +kernel
theorem dX4_write_233 : decode cX4_write 233 = .ok (.ladd, 1) := by decide +kernel
theorem dX4_write_234 : decode cX4_write 234 = .ok (.lastore, 1) := by decide +kernel
theorem dX4_write_235 : decode cX4_write 235 = .ok (.aload_n 0, 1) := by decide +kernel
theorem dX4_write_236 : decode cX4_write 236 = .ok (.getfield 51, 3) := by decide +kernel
theorem dX4_write_239 : decode cX4_write 239 = .ok (.iload_n 2, 1) := by decide +kernel
theorem dX4_write_240 : decode cX4_write 240 = .ok (.iload_n 1, 1) := by decide +kernel
theorem dX4_write_241 : decode cX4_write 241 = .ok (.iconst 1, 1) := by decide +kernel
theorem dX4_write_242 : decode cX4_write 242 = .ok (.iadd, 1) := by decide +kernel
theorem dX4_write_243 : decode cX4_write 243 = .ok (.iastore, 1) := by decide +kernel
theorem dX4_write_244 : decode cX4_write 244 = .ok (.aload_n 0, 1) := by decide +kernel
theorem dX4_write_245 : decode cX4_write 245 = .ok (.getfield 54, 3) := by decide +kernel
theorem dX4_write_248 : decode cX4_write 248 = .ok (.iload_n 2, 1) := by decide +kernel
theorem dX4_write_249 : decode cX4_write 249 = .ok (.iload_n 3, 1) := by decide +kernel
theorem dX4_write_250 : decode cX4_write 250 = .ok (.iastore, 1) := by decide +kernel
theorem dX4_write_251 : decode cX4_write 251 = .ok (.aload_n 0, 1) := by decide +kernel
theorem dX4_write_252 : decode cX4_write 252 = .ok (.iload 5, 2) := by decide +kernel
theorem dX4_write_254 : decode cX4_write 254 = .ok (.aload_n 0, 1) := by decide +kernel
theorem dX4_write_255 : decode cX4_write 255 = .ok (.getfield 13, 3) := by decide +kernel
theorem dX4_write_258 : decode cX4_write 258 = .ok (.iload 6, 2) := by decide +kernel
theorem dX4_write_260 : decode cX4_write 260 = .ok (.laload, 1) := by decide +kernel
theorem dX4_write_261 : decode cX4_write 261 = .ok (.invokevirtual 66, 3) := by decide +kernel
theorem dX4_write_264 : decode cX4_write 264 = .ok (.iload 7, 2) := by decide +kernel
theorem dX4_write_266 : decode cX4_write 266 = .ok (.ireturn, 1) := by decide +kernel
set_option maxRecDepth 20000 in
theorem ggX4_commit_X4_stopped : GoodIn wsX4_commit wsX4_stopped := goodIn_r _ [15, 16, 17, 18, 19, 14, 20, 8, 53, 54, 55, 56, 57, 58, 59, 60, 61, 62, 63, 64, 65, 66, 67, 68, 69, 70, 71, 72, 73] (by decide +kernel) (by decide +kernel)
set_option maxRecDepth 20000 in
theorem gX4_commit_X4_stopped : GoodIn wsX4_commit (wsV RX4 97 RX4 yX4_stopped wsX4_stopped) := goodIn_app (goodIn_of _ (by decide +kernel)) ggX4_commit_X4_stopped
set_option maxRecDepth 20000 in
theorem ggX4_commit_X4_event : GoodIn wsX4_commit wsX4_event := goodIn_r _ [24, 5, 25, 26, 27, 14, 28, 29, 53, 54, 55, 56, 57, 58, 59, 60, 61, 62, 63, 64, 65, 66, 67, 68, 69, 70, 71, 72, 73] (by decide +kernel) (by decide +kernel)
set_option maxRecDepth 20000 in
theorem gX4_commit_X4_event : GoodIn wsX4_commit (wsV RX4 72 RX4 yX4_event wsX4_event) := goodIn_app (goodIn_of _ (by decide +kernel)) ggX4_commit_X4_event
set_option maxRecDepth 20000 in
theorem ggX4_commit_X4_receive : GoodIn wsX4_commit wsX4_receive := goodIn_r _ [28, 5, 29, 53, 54, 55, 56, 57, 58, 59, 60, 61, 62, 63, 64, 65, 66, 67, 68, 69, 70, 71, 72, 73] (by decide +kernel) (by decide +kernel)
set_option maxRecDepth 20000 in
theorem gX4_commit_X4_receive : GoodIn wsX4_commit (wsV RX4 66 RX4 yX4_receive wsX4_receive) := goodIn_app (goodIn_of _ (by decide +kernel)) ggX4_commit_X4_receive
set_option maxRecDepth 20000 in
theorem ggX4_commit_X4_meet : GoodIn wsX4_commit wsX4_meet := goodIn_r _ [33, 6, 1, 5, 8, 29, 34, 25, 26, 27, 14, 28, 35, 36, 37, 38, 39, 40, 41, 2, 42, 43, 53, 54, 55, 56, 57, 58, 59, 60, 61, 62, 63, 64, 65, 66, 67, 68, 69, 70, 71, 72, 73] (by decide +kernel) (by decide +kernel)
set_option maxRecDepth 20000 in
theorem gX4_commit_X4_meet : GoodIn wsX4_commit (wsV RX4 102 RX4 yX4_meet wsX4_meet) := goodIn_app (goodIn_of _ (by decide +kernel)) ggX4_commit_X4_meet
set_option maxRecDepth 20000 in
theorem ggX4_commit_X4_find : GoodIn wsX4_commit wsX4_find := goodIn_r _ [47, 40, 39, 41, 53, 54, 55, 56, 57, 58, 59, 60, 61, 62, 63, 64, 65, 66, 67, 68, 69, 70, 71, 72, 73] (by decide +kernel) (by decide +kernel)
set_option maxRecDepth 20000 in
theorem gX4_commit_X4_find : GoodIn wsX4_commit (wsV RX4 105 RX4 yX4_find wsX4_find) := goodIn_app (goodIn_of _ (by decide +kernel)) ggX4_commit_X4_find
set_option maxRecDepth 20000 in
theorem ggX4_commit_X4_restart : GoodIn wsX4_commit wsX4_restart := goodIn_r _ [51, 6, 4, 2, 3, 52, 53, 54, 55, 56, 57, 58, 59, 60, 61, 62, 63, 64, 65, 66, 67, 68, 69, 70, 71, 72, 73] (by decide +kernel) (by decide +kernel)
set_option maxRecDepth 20000 in
theorem gX4_commit_X4_restart : GoodIn wsX4_commit (wsV RX4 109 RX4 yX4_restart wsX4_restart) := goodIn_app (goodIn_of _ (by decide +kernel)) ggX4_commit_X4_restart
theorem dX4_commit_0 : decode cX4_commit 0 = .ok (.aload_n 0, 1) := by decide +kernel
theorem dX4_commit_1 : decode cX4_commit 1 = .ok (.iload_n 1, 1) := by decide +kernel
theorem dX4_commit_2 : decode cX4_commit 2 = .ok (.invokevirtual 97, 3) := by decide +kernel
theorem dX4_commit_5 : decode cX4_commit 5 = .ok (.istore_n 2, 1) := by decide +kernel
theorem dX4_commit_6 : decode cX4_commit 6 = .ok (.iload_n 2, 1) := by decide +kernel
theorem dX4_commit_7 : decode cX4_commit 7 = .ok (.ifCond .eq 5, 3) := by decide +kernel
theorem dX4_commit_10 : decode cX4_commit 10 = .ok (.iload_n 2, 1) := by decide +kernel
theorem dX4_commit_11 : decode cX4_commit 11 = .ok (.ireturn, 1) := by decide +kernel
theorem dX4_commit_12 : decode cX4_commit 12 = .ok (.aload_n 0, 1) := by decide +kernel
theorem dX4_commit_13 : decode cX4_commit 13 = .ok (.getfield 20, 3) := by decide +kernel
theorem dX4_commit_16 : decode cX4_commit 16 = .ok (.iload_n 1, 1) := by decide +kernel
theorem dX4_commit_17 : decode cX4_commit 17 = .ok (.iaload, 1) := by decide +kernel
theorem dX4_commit_18 : decode cX4_commit 18 = .ok (.istore_n 3, 1) := by decide +kernel
theorem dX4_commit_19 : decode cX4_commit 19 = .ok (.aload_n 0, 1) := by decide +kernel
theorem dX4_commit_20 : decode cX4_commit 20 = .ok (.iload_n 3, 1) := by decide +kernel
theorem dX4_commit_21 : decode cX4_commit 21 = .ok (.invokevirtual 72, 3) := by decide +kernel
theorem dX4_commit_24 : decode cX4_commit 24 = .ok (.aload_n 0, 1) := by decide +kernel
theorem dX4_commit_25 : decode cX4_commit 25 = .ok (.getfield 32, 3) := by decide +kernel
theorem dX4_commit_28 : decode cX4_commit 28 = .ok (.iload_n 1, 1) := by decide +kernel
theorem dX4_commit_29 : decode cX4_commit 29 = .ok (.laload, 1) := by decide +kernel
theorem dX4_commit_30 : decode cX4_commit 30 = .ok (.aload_n 0, 1) := by decide +kernel
theorem dX4_commit_31 : decode cX4_commit 31 = .ok (.getfield 29, 3) := by decide +kernel
theorem dX4_commit_34 : decode cX4_commit 34 = .ok (.iload_n 1, 1) := by decide +kernel
theorem dX4_commit_35 : decode cX4_commit 35 = .ok (.laload, 1) := by decide +kernel
theorem dX4_commit_36 : decode cX4_commit 36 = .ok (.lcmp, 1) := by decide +kernel
theorem dX4_commit_37 : decode cX4_commit 37 = .ok (.ifCond .le 201, 3) := by decide +kernel
theorem dX4_commit_40 : decode cX4_commit 40 = .ok (.iconst 0, 1) := by decide +kernel
theorem dX4_commit_41 : decode cX4_commit 41 = .ok (.istore 4, 2) := by decide +kernel
theorem dX4_commit_43 : decode cX4_commit 43 = .ok (.iload 4, 2) := by decide +kernel
theorem dX4_commit_45 : decode cX4_commit 45 = .ok (.bipush 16, 2) := by decide +kernel
theorem dX4_commit_47 : decode cX4_commit 47 = .ok (.if_icmp .ge 191, 3) := by decide +kernel
theorem dX4_commit_50 : decode cX4_commit 50 = .ok (.aload_n 0, 1) := by decide +kernel
theorem dX4_commit_51 : decode cX4_commit 51 = .ok (.getfield 42, 3) := by decide +kernel
theorem dX4_commit_54 : decode cX4_commit 54 = .ok (.iload_n 1, 1) := by decide +kernel
theorem dX4_commit_55 : decode cX4_commit 55 = .ok (.bipush 16, 2) := by decide +kernel
theorem dX4_commit_57 : decode cX4_commit 57 = .ok (.imul, 1) := by decide +kernel
theorem dX4_commit_58 : decode cX4_commit 58 = .ok (.iload 4, 2) := by decide +kernel
theorem dX4_commit_60 : decode cX4_commit 60 = .ok (.iadd, 1) := by decide +kernel
theorem dX4_commit_61 : decode cX4_commit 61 = .ok (.baload, 1) := by decide +kernel
theorem dX4_commit_62 : decode cX4_commit 62 = .ok (.ifCond .ne 6, 3) := by decide +kernel
theorem dX4_commit_65 : decode cX4_commit 65 = .ok (.goto 167, 3) := by decide +kernel
theorem dX4_commit_68 : decode cX4_commit 68 = .ok (.iload 4, 2) := by decide +kernel
theorem dX4_commit_70 : decode cX4_commit 70 = .ok (.iconst 3, 1) := by decide +kernel
theorem dX4_commit_71 : decode cX4_commit 71 = .ok (.iand, 1) := by decide +kernel
theorem dX4_commit_72 : decode cX4_commit 72 = .ok (.istore 5, 2) := by decide +kernel
theorem dX4_commit_74 : decode cX4_commit 74 = .ok (.aload_n 0, 1) := by decide +kernel
theorem dX4_commit_75 : decode cX4_commit 75 = .ok (.iload 5, 2) := by decide +kernel
theorem dX4_commit_77 : decode cX4_commit 77 = .ok (.aload_n 0, 1) := by decide +kernel
theorem dX4_commit_78 : decode cX4_commit 78 = .ok (.getfield 13, 3) := by decide +kernel
theorem dX4_commit_81 : decode cX4_commit 81 = .ok (.iload_n 3, 1) := by decide +kernel
theorem dX4_commit_82 : decode cX4_commit 82 = .ok (.laload, 1) := by decide +kernel
theorem dX4_commit_83 : decode cX4_commit 83 = .ok (.invokevirtual 66, 3) := by decide +kernel
theorem dX4_commit_86 : decode cX4_commit 86 = .ok (.aload_n 0, 1) := by decide +kernel
theorem dX4_commit_87 : decode cX4_commit 87 = .ok (.getfield 51, 3) := by decide +kernel
theorem dX4_commit_90 : decode cX4_commit 90 = .ok (.iload 4, 2) := by decide +kernel
theorem dX4_commit_92 : decode cX4_commit 92 = .ok (.iaload, 1) := by decide +kernel
theorem dX4_commit_93 : decode cX4_commit 93 = .ok (.iload_n 1, 1) := by decide +kernel
theorem dX4_commit_94 : decode cX4_commit 94 = .ok (.iconst 1, 1) := by decide +kernel
theorem dX4_commit_95 : decode cX4_commit 95 = .ok (.iadd, 1) := by decide +kernel
theorem dX4_commit_96 : decode cX4_commit 96 = .ok (.if_icmp .eq 48, 3) := by decide +kernel
theorem dX4_commit_99 : decode cX4_commit 99 = .ok (.aload_n 0, 1) := by decide +kernel
theorem dX4_commit_100 : decode cX4_commit 100 = .ok (.iload 4, 2) := by decide +kernel
theorem dX4_commit_102 : decode cX4_commit 102 = .ok (.invokevirtual 102, 3) := by decide +kernel
theorem dX4_commit_105 : decode cX4_commit 105 = .ok (.istore 6, 2) := by decide +kernel
theorem dX4_commit_107 : decode cX4_commit 107 = .ok (.iload 6, 2) := by decide +kernel
theorem dX4_commit_109 : decode cX4_commit 109 = .ok (.ifCond .lt 35, 3) := by decide +kernel
theorem dX4_commit_112 : decode cX4_commit 112 = .ok (.aload_n 0, 1) := by decide +kernel
theorem dX4_commit_113 : decode cX4_commit 113 = .ok (.getfield 32, 3) := by decide +kernel
theorem dX4_commit_116 : decode cX4_commit 116 = .ok (.iload 6, 2) := by decide +kernel
theorem dX4_commit_118 : decode cX4_commit 118 = .ok (.laload, 1) := by decide +kernel
theorem dX4_commit_119 : decode cX4_commit 119 = .ok (.aload_n 0, 1) := by decide +kernel
theorem dX4_commit_120 : decode cX4_commit 120 = .ok (.getfield 32, 3) := by decide +kernel
theorem dX4_commit_123 : decode cX4_commit 123 = .ok (.iload_n 1, 1) := by decide +kernel
theorem dX4_commit_124 : decode cX4_commit 124 = .ok (.laload, 1) := by decide +kernel
theorem dX4_commit_125 : decode cX4_commit 125 = .ok (.lcmp, 1) := by decide +kernel
theorem dX4_commit_126 : decode cX4_commit 126 = .ok (.ifCond .gt 18, 3) := by decide +kernel
theorem dX4_commit_129 : decode cX4_commit 129 = .ok (.aload_n 0, 1) := by decide +kernel
theorem dX4_commit_130 : decode cX4_commit 130 = .ok (.getfield 32, 3) := by decide +kernel
theorem dX4_commit_133 : decode cX4_commit 133 = .ok (.iload 6, 2) := by decide +kernel
theorem dX4_commit_135 : decode cX4_commit 135 = .ok (.aload_n 0, 1) := by decide +kernel
theorem dX4_commit_136 : decode cX4_commit 136 = .ok (.getfield 32, 3) := by decide +kernel
theorem dX4_commit_139 : decode cX4_commit 139 = .ok (.iload_n 1, 1) := by decide +kernel
theorem dX4_commit_140 : decode cX4_commit 140 = .ok (.laload, 1) := by decide +kernel
theorem dX4_commit_141 : decode cX4_commit 141 = .ok (.lconst 1, 1) := by decide +kernel
theorem dX4_commit_142 : decode cX4_commit 142 = .ok (.ladd, 1) := by decide +kernel
theorem dX4_commit_143 : decode cX4_commit 143 = .ok (.lastore, 1) := by decide +kernel
theorem dX4_commit_144 : decode cX4_commit 144 = .ok (.aload_n 0, 1) := by decide +kernel
theorem dX4_commit_145 : decode cX4_commit 145 = .ok (.iload 4, 2) := by decide +kernel
theorem dX4_commit_147 : decode cX4_commit 147 = .ok (.aload_n 0, 1) := by decide +kernel
theorem dX4_commit_148 : decode cX4_commit 148 = .ok (.getfield 29, 3) := by decide +kernel
theorem dX4_commit_151 : decode cX4_commit 151 = .ok (.iload_n 1, 1) := by decide +kernel
theorem dX4_commit_152 : decode cX4_commit 152 = .ok (.laload, 1) := by decide +kernel
theorem dX4_commit_153 : decode cX4_commit 153 = .ok (.aload_n 0, 1) := by decide +kernel
theorem dX4_commit_154 : decode cX4_commit 154 = .ok (.getfield 32, 3) := by decide +kernel
theorem dX4_commit_157 : decode cX4_commit 157 = .ok (.iload_n 1, 1) := by decide +kernel
theorem dX4_commit_158 : decode cX4_commit 158 = .ok (.laload, 1) := by decide +kernel
theorem dX4_commit_159 : decode cX4_commit 159 = .ok (.invokevirtual 105, 3) := by decide +kernel
theorem dX4_commit_162 : decode cX4_commit 162 = .ok (.ifCond .lt 7, 3) := by decide +kernel
theorem dX4_commit_165 : decode cX4_commit 165 = .ok (.iconst 1, 1) := by decide +kernel
theorem dX4_commit_166 : decode cX4_commit 166 = .ok (.goto 4, 3) := by decide +kernel
theorem dX4_commit_169 : decode cX4_commit 169 = .ok (.iconst 0, 1) := by decide +kernel
theorem dX4_commit_170 : decode cX4_commit 170 = .ok (.istore 6, 2) := by decide +kernel
theorem dX4_commit_172 : decode cX4_commit 172 = .ok (.iload 6, 2) := by decide +kernel
theorem dX4_commit_174 : decode cX4_commit 174 = .ok (.ifCond .ne 33, 3) := by decide +kernel
theorem dX4_commit_177 : decode cX4_commit 177 = .ok (.aload_n 0, 1) := by decide +kernel
theorem dX4_commit_178 : decode cX4_commit 178 = .ok (.getfield 48, 3) := by decide +kernel
theorem dX4_commit_181 : decode cX4_commit 181 = .ok (.iload 4, 2) := by decide +kernel
theorem dX4_commit_183 : decode cX4_commit 183 = .ok (.laload, 1) := by decide +kernel
theorem dX4_commit_184 : decode cX4_commit 184 = .ok (.aload_n 0, 1) := by decide +kernel
theorem dX4_commit_185 : decode cX4_commit 185 = .ok (.getfield 32, 3) := by decide +kernel
theorem dX4_commit_188 : decode cX4_commit 188 = .ok (.iload_n 1, 1) := by decide +kernel
theorem dX4_commit_189 : decode cX4_commit 189 = .ok (.laload, 1) := by decide +kernel
theorem dX4_commit_190 : decode cX4_commit 190 = .ok (.lcmp, 1) := by decide +kernel
theorem dX4_commit_191 : decode cX4_commit 191 = .ok (.ifCond .ge 16, 3) := by decide +kernel
theorem dX4_commit_194 : decode cX4_commit 194 = .ok (.aload_n 0, 1) := by decide +kernel
theorem dX4_commit_195 : decode cX4_commit 195 = .ok (.getfield 48, 3) := by decide +kernel
theorem dX4_commit_198 : decode cX4_commit 198 = .ok (.iload 4, 2) := by decide +kernel
theorem dX4_commit_200 : decode cX4_commit 200 = .ok (.aload_n 0, 1) := by decide +kernel
theorem dX4_commit_201 : decode cX4_commit 201 = .ok (.getfield 32, 3) := by decide +kernel
theorem dX4_commit_204 : decode cX4_commit 204 = .ok (.iload_n 1, 1) := by decide +kernel
theorem dX4_commit_205 : decode cX4_commit 205 = .ok (.laload, 1) := by decide +kernel
theorem dX4_commit_206 : decode cX4_commit 206 = .ok (.lastore, 1) := by decide +kernel
theorem dX4_commit_207 : decode cX4_commit 207 = .ok (.aload_n 0, 1) := by decide +kernel
theorem dX4_commit_208 : decode cX4_commit 208 = .ok (.iload_n 3, 1) := by decide +kernel
theorem dX4_commit_209 : decode cX4_commit 209 = .ok (.aload_n 0, 1) := by decide +kernel
theorem dX4_commit_210 : decode cX4_commit 210 = .ok (.getfield 13, 3) := by decide +kernel
theorem dX4_commit_213 : decode cX4_commit 213 = .ok (.iload 5, 2) := by decide +kernel
theorem dX4_commit_215 : decode cX4_commit 215 = .ok (.laload, 1) := by decide +kernel
theorem dX4_commit_216 : decode cX4_commit 216 = .ok (.invokevirtual 66, 3) := by decide +kernel
theorem dX4_commit_219 : decode cX4_commit 219 = .ok (.iload 6, 2) := by decide +kernel
theorem dX4_commit_221 : decode cX4_commit 221 = .ok (.ifCond .eq 11, 3) := by decide +kernel
theorem dX4_commit_224 : decode cX4_commit 224 = .ok (.aload_n 0, 1) := by decide +kernel
theorem dX4_commit_225 : decode cX4_commit 225 = .ok (.iload_n 1, 1) := by decide +kernel
theorem dX4_commit_226 : decode cX4_commit 226 = .ok (.lconst 0, 1) := by decide +kernel
theorem dX4_commit_227 : decode cX4_commit 227 = .ok (.invokevirtual 109, 3) := by decide +kernel
theorem dX4_commit_230 : decode cX4_commit 230 = .ok (.iconst 1, 1) := by decide +kernel
theorem dX4_commit_231 : decode cX4_commit 231 = .ok (.ireturn, 1) := by decide +kernel
theorem dX4_commit_232 : decode cX4_commit 232 = .ok (.iinc 4 1, 3) := by decide +kernel
theorem dX4_commit_235 : decode cX4_commit 235 = .ok (.goto (-192), 3) := by decide +kernel
theorem dX4_commit_238 : decode cX4_commit 238 = .ok (.aload_n 0, 1) := by decide +kernel
theorem dX4_commit_239 : decode cX4_commit 239 = .ok (.getfield 29, 3) := by decide +kernel
theorem dX4_commit_242 : decode cX4_commit 242 = .ok (.iload_n 1, 1) := by decide +kernel
theorem dX4_commit_243 : decode cX4_commit 243 = .ok (.aload_n 0, 1) := by decide +kernel
theorem dX4_commit_244 : decode cX4_commit 244 = .ok (.getfield 32, 3) := by decide +kernel
theorem dX4_commit_247 : decode cX4_commit 247 = .ok (.iload_n 1, 1) := by decide +kernel
theorem dX4_commit_248 : decode cX4_commit 248 = .ok (.laload, 1) := by decide +kernel
theorem dX4_commit_249 : decode cX4_commit 249 = .ok (.lastore, 1) := by decide +kernel
theorem dX4_commit_250 : decode cX4_commit 250 = .ok (.aload_n 0, 1) := by decide +kernel
theorem dX4_commit_251 : decode cX4_commit 251 = .ok (.getfield 17, 3) := by decide +kernel
theorem dX4_commit_254 : decode cX4_commit 254 = .ok (.iload_n 1, 1) := by decide +kernel
theorem dX4_commit_255 : decode cX4_commit 255 = .ok (.iconst 2, 1) := by decide +kernel
theorem dX4_commit_256 : decode cX4_commit 256 = .ok (.iastore, 1) := by decide +kernel
theorem dX4_commit_257 : decode cX4_commit 257 = .ok (.aload_n 0, 1) := by decide +kernel
theorem dX4_commit_258 : decode cX4_commit 258 = .ok (.getfield 45, 3) := by decide +kernel
theorem dX4_commit_261 : decode cX4_commit 261 = .ok (.aload_n 0, 1) := by decide +kernel
theorem dX4_commit_262 : decode cX4_commit 262 = .ok (.getfield 119, 3) := by decide +kernel
theorem dX4_commit_265 : decode cX4_commit 265 = .ok (.aload_n 0, 1) := by decide +kernel
theorem dX4_commit_266 : decode cX4_commit 266 = .ok (.getfield 32, 3) := by decide +kernel
theorem dX4_commit_269 : decode cX4_commit 269 = .ok (.iload_n 1, 1) := by decide +kernel
theorem dX4_commit_270 : decode cX4_commit 270 = .ok (.laload, 1) := by decide +kernel
theorem dX4_commit_271 : decode cX4_commit 271 = .ok (.lastore, 1) := by decide +kernel
theorem dX4_commit_272 : decode cX4_commit 272 = .ok (.aload_n 0, 1) := by decide +kernel
theorem dX4_commit_273 : decode cX4_commit 273 = .ok (.aload_n 0, 1) := by decide +kernel
theorem dX4_commit_274 : decode cX4_commit 274 = .ok (.getfield 119, 3) := by decide +kernel
theorem dX4_commit_277 : decode cX4_commit 277 = .ok (.iconst 1, 1) := by decide +kernel
theorem dX4_commit_278 : decode cX4_commit 278 = .ok (.iadd, 1) := by decide +kernel
theorem dX4_commit_279 : decode cX4_commit 279 = .ok (.putfield 119, 3) := by decide +kernel
theorem dX4_commit_282 : decode cX4_commit 282 = .ok (.iconst 0, 1) := by decide +kernel
theorem dX4_commit_283 : decode cX4_commit 283 = .ok (.ireturn, 1) := by decide +kernel
set_option maxRecDepth 20000 in
theorem ggX4_abort_X4_refused : GoodIn wsX4_abort wsX4_refused := goodIn_r _ [6, 1, 7, 8, 9, 10, 11, 12, 13, 14, 15, 16, 17, 18, 19, 20, 21, 22, 23, 24, 25, 26, 27] (by decide +kernel) (by decide +kernel)
set_option maxRecDepth 20000 in
theorem gX4_abort_X4_refused : GoodIn wsX4_abort (wsV RX4 91 RX4 yX4_refused wsX4_refused) := goodIn_app (goodIn_of _ (by decide +kernel)) ggX4_abort_X4_refused
theorem dX4_abort_0 : decode cX4_abort 0 = .ok (.aload_n 0, 1) := by decide +kernel
theorem dX4_abort_1 : decode cX4_abort 1 = .ok (.iload_n 1, 1) := by decide +kernel
theorem dX4_abort_2 : decode cX4_abort 2 = .ok (.invokevirtual 91, 3) := by decide +kernel
theorem dX4_abort_5 : decode cX4_abort 5 = .ok (.istore_n 2, 1) := by decide +kernel
theorem dX4_abort_6 : decode cX4_abort 6 = .ok (.iload_n 2, 1) := by decide +kernel
theorem dX4_abort_7 : decode cX4_abort 7 = .ok (.ifCond .eq 5, 3) := by decide +kernel
theorem dX4_abort_10 : decode cX4_abort 10 = .ok (.iload_n 2, 1) := by decide +kernel
theorem dX4_abort_11 : decode cX4_abort 11 = .ok (.ireturn, 1) := by decide +kernel
theorem dX4_abort_12 : decode cX4_abort 12 = .ok (.aload_n 0, 1) := by decide +kernel
theorem dX4_abort_13 : decode cX4_abort 13 = .ok (.getfield 17, 3) := by decide +kernel
theorem dX4_abort_16 : decode cX4_abort 16 = .ok (.iload_n 1, 1) := by decide +kernel
theorem dX4_abort_17 : decode cX4_abort 17 = .ok (.iconst 3, 1) := by decide +kernel
theorem dX4_abort_18 : decode cX4_abort 18 = .ok (.iastore, 1) := by decide +kernel
theorem dX4_abort_19 : decode cX4_abort 19 = .ok (.iconst 0, 1) := by decide +kernel
theorem dX4_abort_20 : decode cX4_abort 20 = .ok (.ireturn, 1) := by decide +kernel
set_option maxRecDepth 20000 in
theorem ggX4_heartbeat_X4_refused : GoodIn wsX4_heartbeat wsX4_refused := goodIn_r _ [8, 9, 19, 20, 21, 22, 23, 24, 25, 26, 27, 28, 29, 30, 31, 32, 33, 34, 35, 36, 37, 38, 39] (by decide +kernel) (by decide +kernel)
set_option maxRecDepth 20000 in
theorem gX4_heartbeat_X4_refused : GoodIn wsX4_heartbeat (wsV RX4 91 RX4 yX4_refused wsX4_refused) := goodIn_app (goodIn_of _ (by decide +kernel)) ggX4_heartbeat_X4_refused
set_option maxRecDepth 20000 in
theorem ggX4_heartbeat_X4_event : GoodIn wsX4_heartbeat wsX4_event := goodIn_r _ [13, 14, 15, 16, 17, 7, 18, 3, 19, 20, 21, 22, 23, 24, 25, 26, 27, 28, 29, 30, 31, 32, 33, 34, 35, 36, 37, 38, 39] (by decide +kernel) (by decide +kernel)
set_option maxRecDepth 20000 in
theorem gX4_heartbeat_X4_event : GoodIn wsX4_heartbeat (wsV RX4 72 RX4 yX4_event wsX4_event) := goodIn_app (goodIn_of _ (by decide +kernel)) ggX4_heartbeat_X4_event
theorem dX4_heartbeat_0 : decode cX4_heartbeat 0 = .ok (.aload_n 0, 1) := by decide +kernel
theorem dX4_heartbeat_1 : decode cX4_heartbeat 1 = .ok (.iload_n 1, 1) := by decide +kernel
theorem dX4_heartbeat_2 : decode cX4_heartbeat 2 = .ok (.invokevirtual 91, 3) := by decide +kernel
theorem dX4_heartbeat_5 : decode cX4_heartbeat 5 = .ok (.istore_n 2, 1) := by decide +kernel
theorem dX4_heartbeat_6 : decode cX4_heartbeat 6 = .ok (.iload_n 2, 1) := by decide +kernel
theorem dX4_heartbeat_7 : decode cX4_heartbeat 7 = .ok (.ifCond .eq 5, 3) := by decide +kernel
theorem dX4_heartbeat_10 : decode cX4_heartbeat 10 = .ok (.iload_n 2, 1) := by decide +kernel
theorem dX4_heartbeat_11 : decode cX4_heartbeat 11 = .ok (.ireturn, 1) := by decide +kernel
theorem dX4_heartbeat_12 : decode cX4_heartbeat 12 = .ok (.aload_n 0, 1) := by decide +kernel
theorem dX4_heartbeat_13 : decode cX4_heartbeat 13 = .ok (.aload_n 0, 1) := by decide +kernel
theorem dX4_heartbeat_14 : decode cX4_heartbeat 14 = .ok (.getfield 20, 3) := by decide +kernel
theorem dX4_heartbeat_17 : decode cX4_heartbeat 17 = .ok (.iload_n 1, 1) := by decide +kernel
theorem dX4_heartbeat_18 : decode cX4_heartbeat 18 = .ok (.iaload, 1) := by decide +kernel
theorem dX4_heartbeat_19 : decode cX4_heartbeat 19 = .ok (.invokevirtual 72, 3) := by decide +kernel
theorem dX4_heartbeat_22 : decode cX4_heartbeat 22 = .ok (.aload_n 0, 1) := by decide +kernel
theorem dX4_heartbeat_23 : decode cX4_heartbeat 23 = .ok (.getfield 23, 3) := by decide +kernel
theorem dX4_heartbeat_26 : decode cX4_heartbeat 26 = .ok (.iload_n 1, 1) := by decide +kernel
theorem dX4_heartbeat_27 : decode cX4_heartbeat 27 = .ok (.aload_n 0, 1) := by decide +kernel
theorem dX4_heartbeat_28 : decode cX4_heartbeat 28 = .ok (.getfield 7, 3) := by decide +kernel
theorem dX4_heartbeat_31 : decode cX4_heartbeat 31 = .ok (.aload_n 0, 1) := by decide +kernel
theorem dX4_heartbeat_32 : decode cX4_heartbeat 32 = .ok (.getfield 20, 3) := by decide +kernel
theorem dX4_heartbeat_35 : decode cX4_heartbeat 35 = .ok (.iload_n 1, 1) := by decide +kernel
theorem dX4_heartbeat_36 : decode cX4_heartbeat 36 = .ok (.iaload, 1) := by decide +kernel
theorem dX4_heartbeat_37 : decode cX4_heartbeat 37 = .ok (.iaload, 1) := by decide +kernel
theorem dX4_heartbeat_38 : decode cX4_heartbeat 38 = .ok (.iastore, 1) := by decide +kernel
theorem dX4_heartbeat_39 : decode cX4_heartbeat 39 = .ok (.iconst 0, 1) := by decide +kernel
theorem dX4_heartbeat_40 : decode cX4_heartbeat 40 = .ok (.ireturn, 1) := by decide +kernel
set_option maxRecDepth 20000 in
theorem ggX4_clean_X4_receive : GoodIn wsX4_clean wsX4_receive := goodIn_r _ [9, 3, 10, 21, 22, 23, 24, 25, 26, 27, 28, 29, 30, 31, 32, 33, 34, 35, 36, 37, 38, 39, 40, 41] (by decide +kernel) (by decide +kernel)
set_option maxRecDepth 20000 in
theorem gX4_clean_X4_receive : GoodIn wsX4_clean (wsV RX4 66 RX4 yX4_receive wsX4_receive) := goodIn_app (goodIn_of _ (by decide +kernel)) ggX4_clean_X4_receive
set_option maxRecDepth 20000 in
theorem ggX4_clean_X4_settle : GoodIn wsX4_clean wsX4_settle := goodIn_r _ [14, 2, 1, 15, 16, 17, 18, 19, 20, 21, 22, 23, 24, 25, 26, 27, 28, 29, 30, 31, 32, 33, 34, 35, 36, 37, 38, 39, 40, 41] (by decide +kernel) (by decide +kernel)
set_option maxRecDepth 20000 in
theorem gX4_clean_X4_settle : GoodIn wsX4_clean (wsV RX4 82 RX4 yX4_settle wsX4_settle) := goodIn_app (goodIn_of _ (by decide +kernel)) ggX4_clean_X4_settle
theorem dX4_clean_0 : decode cX4_clean 0 = .ok (.iload_n 1, 1) := by decide +kernel
theorem dX4_clean_1 : decode cX4_clean 1 = .ok (.ifCond .lt 9, 3) := by decide +kernel
theorem dX4_clean_4 : decode cX4_clean 4 = .ok (.iload_n 1, 1) := by decide +kernel
theorem dX4_clean_5 : decode cX4_clean 5 = .ok (.bipush 7, 2) := by decide +kernel
theorem dX4_clean_7 : decode cX4_clean 7 = .ok (.if_icmp .le 5, 3) := by decide +kernel
theorem dX4_clean_10 : decode cX4_clean 10 = .ok (.iconst (-1), 1) := by decide +kernel
theorem dX4_clean_11 : decode cX4_clean 11 = .ok (.ireturn, 1) := by decide +kernel
theorem dX4_clean_12 : decode cX4_clean 12 = .ok (.aload_n 0, 1) := by decide +kernel
theorem dX4_clean_13 : decode cX4_clean 13 = .ok (.getfield 17, 3) := by decide +kernel
theorem dX4_clean_16 : decode cX4_clean 16 = .ok (.iload_n 1, 1) := by decide +kernel
theorem dX4_clean_17 : decode cX4_clean 17 = .ok (.iaload, 1) := by decide +kernel
theorem dX4_clean_18 : decode cX4_clean 18 = .ok (.ifCond .ne 6, 3) := by decide +kernel
theorem dX4_clean_21 : decode cX4_clean 21 = .ok (.bipush (-4), 2) := by decide +kernel
theorem dX4_clean_23 : decode cX4_clean 23 = .ok (.ireturn, 1) := by decide +kernel
theorem dX4_clean_24 : decode cX4_clean 24 = .ok (.aload_n 0, 1) := by decide +kernel
theorem dX4_clean_25 : decode cX4_clean 25 = .ok (.getfield 17, 3) := by decide +kernel
theorem dX4_clean_28 : decode cX4_clean 28 = .ok (.iload_n 1, 1) := by decide +kernel
theorem dX4_clean_29 : decode cX4_clean 29 = .ok (.iaload, 1) := by decide +kernel
theorem dX4_clean_30 : decode cX4_clean 30 = .ok (.iconst 1, 1) := by decide +kernel
theorem dX4_clean_31 : decode cX4_clean 31 = .ok (.if_icmp .ne 6, 3) := by decide +kernel
theorem dX4_clean_34 : decode cX4_clean 34 = .ok (.bipush (-9), 2) := by decide +kernel
theorem dX4_clean_36 : decode cX4_clean 36 = .ok (.ireturn, 1) := by decide +kernel
theorem dX4_clean_37 : decode cX4_clean 37 = .ok (.iconst 0, 1) := by decide +kernel
theorem dX4_clean_38 : decode cX4_clean 38 = .ok (.istore_n 2, 1) := by decide +kernel
theorem dX4_clean_39 : decode cX4_clean 39 = .ok (.iload_n 2, 1) := by decide +kernel
theorem dX4_clean_40 : decode cX4_clean 40 = .ok (.bipush 16, 2) := by decide +kernel
theorem dX4_clean_42 : decode cX4_clean 42 = .ok (.if_icmp .ge 44, 3) := by decide +kernel
theorem dX4_clean_45 : decode cX4_clean 45 = .ok (.aload_n 0, 1) := by decide +kernel
theorem dX4_clean_46 : decode cX4_clean 46 = .ok (.getfield 51, 3) := by decide +kernel
theorem dX4_clean_49 : decode cX4_clean 49 = .ok (.iload_n 2, 1) := by decide +kernel
theorem dX4_clean_50 : decode cX4_clean 50 = .ok (.iaload, 1) := by decide +kernel
theorem dX4_clean_51 : decode cX4_clean 51 = .ok (.iload_n 1, 1) := by decide +kernel
theorem dX4_clean_52 : decode cX4_clean 52 = .ok (.iconst 1, 1) := by decide +kernel
theorem dX4_clean_53 : decode cX4_clean 53 = .ok (.iadd, 1) := by decide +kernel
theorem dX4_clean_54 : decode cX4_clean 54 = .ok (.if_icmp .ne 26, 3) := by decide +kernel
theorem dX4_clean_57 : decode cX4_clean 57 = .ok (.aload_n 0, 1) := by decide +kernel
theorem dX4_clean_58 : decode cX4_clean 58 = .ok (.iload_n 2, 1) := by decide +kernel
theorem dX4_clean_59 : decode cX4_clean 59 = .ok (.iconst 3, 1) := by decide +kernel
theorem dX4_clean_60 : decode cX4_clean 60 = .ok (.iand, 1) := by decide +kernel
theorem dX4_clean_61 : decode cX4_clean 61 = .ok (.aload_n 0, 1) := by decide +kernel
theorem dX4_clean_62 : decode cX4_clean 62 = .ok (.getfield 13, 3) := by decide +kernel
theorem dX4_clean_65 : decode cX4_clean 65 = .ok (.aload_n 0, 1) := by decide +kernel
theorem dX4_clean_66 : decode cX4_clean 66 = .ok (.getfield 20, 3) := by decide +kernel
theorem dX4_clean_69 : decode cX4_clean 69 = .ok (.iload_n 1, 1) := by decide +kernel
theorem dX4_clean_70 : decode cX4_clean 70 = .ok (.iaload, 1) := by decide +kernel
theorem dX4_clean_71 : decode cX4_clean 71 = .ok (.laload, 1) := by decide +kernel
theorem dX4_clean_72 : decode cX4_clean 72 = .ok (.invokevirtual 66, 3) := by decide +kernel
theorem dX4_clean_75 : decode cX4_clean 75 = .ok (.aload_n 0, 1) := by decide +kernel
theorem dX4_clean_76 : decode cX4_clean 76 = .ok (.iload_n 2, 1) := by decide +kernel
theorem dX4_clean_77 : decode cX4_clean 77 = .ok (.invokevirtual 82, 3) := by decide +kernel
theorem dX4_clean_80 : decode cX4_clean 80 = .ok (.iinc 2 1, 3) := by decide +kernel
theorem dX4_clean_83 : decode cX4_clean 83 = .ok (.goto (-44), 3) := by decide +kernel
theorem dX4_clean_86 : decode cX4_clean 86 = .ok (.aload_n 0, 1) := by decide +kernel
theorem dX4_clean_87 : decode cX4_clean 87 = .ok (.getfield 17, 3) := by decide +kernel
theorem dX4_clean_90 : decode cX4_clean 90 = .ok (.iload_n 1, 1) := by decide +kernel
theorem dX4_clean_91 : decode cX4_clean 91 = .ok (.iconst 0, 1) := by decide +kernel
theorem dX4_clean_92 : decode cX4_clean 92 = .ok (.iastore, 1) := by decide +kernel
theorem dX4_clean_93 : decode cX4_clean 93 = .ok (.iconst 0, 1) := by decide +kernel
theorem dX4_clean_94 : decode cX4_clean 94 = .ok (.ireturn, 1) := by decide +kernel
theorem dX4_state_0 : decode cX4_state 0 = .ok (.iload_n 1, 1) := by decide +kernel
theorem dX4_state_1 : decode cX4_state 1 = .ok (.ifCond .lt 9, 3) := by decide +kernel
theorem dX4_state_4 : decode cX4_state 4 = .ok (.iload_n 1, 1) := by decide +kernel
theorem dX4_state_5 : decode cX4_state 5 = .ok (.bipush 7, 2) := by decide +kernel
theorem dX4_state_7 : decode cX4_state 7 = .ok (.if_icmp .le 5, 3) := by decide +kernel
theorem dX4_state_10 : decode cX4_state 10 = .ok (.iconst (-1), 1) := by decide +kernel
theorem dX4_state_11 : decode cX4_state 11 = .ok (.ireturn, 1) := by decide +kernel
theorem dX4_state_12 : decode cX4_state 12 = .ok (.aload_n 0, 1) := by decide +kernel
theorem dX4_state_13 : decode cX4_state 13 = .ok (.getfield 17, 3) := by decide +kernel
theorem dX4_state_16 : decode cX4_state 16 = .ok (.iload_n 1, 1) := by decide +kernel
theorem dX4_state_17 : decode cX4_state 17 = .ok (.iaload, 1) := by decide +kernel
theorem dX4_state_18 : decode cX4_state 18 = .ok (.ireturn, 1) := by decide +kernel
theorem dX4_stamp_0 : decode cX4_stamp 0 = .ok (.iload_n 1, 1) := by decide +kernel
theorem dX4_stamp_1 : decode cX4_stamp 1 = .ok (.ifCond .lt 28, 3) := by decide +kernel
theorem dX4_stamp_4 : decode cX4_stamp 4 = .ok (.iload_n 1, 1) := by decide +kernel
theorem dX4_stamp_5 : decode cX4_stamp 5 = .ok (.bipush 7, 2) := by decide +kernel
theorem dX4_stamp_7 : decode cX4_stamp 7 = .ok (.if_icmp .gt 22, 3) := by decide +kernel
theorem dX4_stamp_10 : decode cX4_stamp 10 = .ok (.aload_n 0, 1) := by decide +kernel
theorem dX4_stamp_11 : decode cX4_stamp 11 = .ok (.getfield 17, 3) := by decide +kernel
theorem dX4_stamp_14 : decode cX4_stamp 14 = .ok (.iload_n 1, 1) := by decide +kernel
theorem dX4_stamp_15 : decode cX4_stamp 15 = .ok (.iaload, 1) := by decide +kernel
theorem dX4_stamp_16 : decode cX4_stamp 16 = .ok (.ifCond .eq 13, 3) := by decide +kernel
theorem dX4_stamp_19 : decode cX4_stamp 19 = .ok (.aload_n 0, 1) := by decide +kernel
theorem dX4_stamp_20 : decode cX4_stamp 20 = .ok (.getfield 17, 3) := by decide +kernel
theorem dX4_stamp_23 : decode cX4_stamp 23 = .ok (.iload_n 1, 1) := by decide +kernel
theorem dX4_stamp_24 : decode cX4_stamp 24 = .ok (.iaload, 1) := by decide +kernel
theorem dX4_stamp_25 : decode cX4_stamp 25 = .ok (.iconst 3, 1) := by decide +kernel
theorem dX4_stamp_26 : decode cX4_stamp 26 = .ok (.if_icmp .ne 7, 3) := by decide +kernel
theorem dX4_stamp_29 : decode cX4_stamp 29 = .ok (.ldc2_w 76, 3) := by decide +kernel
theorem dX4_stamp_32 : decode cX4_stamp 32 = .ok (.lreturn, 1) := by decide +kernel
theorem dX4_stamp_33 : decode cX4_stamp 33 = .ok (.aload_n 0, 1) := by decide +kernel
theorem dX4_stamp_34 : decode cX4_stamp 34 = .ok (.getfield 29, 3) := by decide +kernel
theorem dX4_stamp_37 : decode cX4_stamp 37 = .ok (.iload_n 1, 1) := by decide +kernel
theorem dX4_stamp_38 : decode cX4_stamp 38 = .ok (.laload, 1) := by decide +kernel
theorem dX4_stamp_39 : decode cX4_stamp 39 = .ok (.lreturn, 1) := by decide +kernel
theorem dX4_committed_0 : decode cX4_committed 0 = .ok (.iload_n 1, 1) := by decide +kernel
theorem dX4_committed_1 : decode cX4_committed 1 = .ok (.ifCond .lt 11, 3) := by decide +kernel
theorem dX4_committed_4 : decode cX4_committed 4 = .ok (.iload_n 1, 1) := by decide +kernel
theorem dX4_committed_5 : decode cX4_committed 5 = .ok (.aload_n 0, 1) := by decide +kernel
theorem dX4_committed_6 : decode cX4_committed 6 = .ok (.getfield 119, 3) := by decide +kernel
theorem dX4_committed_9 : decode cX4_committed 9 = .ok (.if_icmp .lt 7, 3) := by decide +kernel
theorem dX4_committed_12 : decode cX4_committed 12 = .ok (.ldc2_w 76, 3) := by decide +kernel
theorem dX4_committed_15 : decode cX4_committed 15 = .ok (.lreturn, 1) := by decide +kernel
theorem dX4_committed_16 : decode cX4_committed 16 = .ok (.aload_n 0, 1) := by decide +kernel
theorem dX4_committed_17 : decode cX4_committed 17 = .ok (.getfield 45, 3) := by decide +kernel
theorem dX4_committed_20 : decode cX4_committed 20 = .ok (.iload_n 1, 1) := by decide +kernel
theorem dX4_committed_21 : decode cX4_committed 21 = .ok (.laload, 1) := by decide +kernel
theorem dX4_committed_22 : decode cX4_committed 22 = .ok (.lreturn, 1) := by decide +kernel
theorem dJ9_max_f86c9_0 : decode cJ9_max_f86c9 0 = .ok (.lload_n 0, 1) := by decide +kernel
theorem dJ9_max_f86c9_1 : decode cJ9_max_f86c9 1 = .ok (.lload_n 2, 1) := by decide +kernel
theorem dJ9_max_f86c9_2 : decode cJ9_max_f86c9 2 = .ok (.lcmp, 1) := by decide +kernel
theorem dJ9_max_f86c9_3 : decode cJ9_max_f86c9 3 = .ok (.ifCond .lt 7, 3) := by decide +kernel
theorem dJ9_max_f86c9_6 : decode cJ9_max_f86c9 6 = .ok (.lload_n 0, 1) := by decide +kernel
theorem dJ9_max_f86c9_7 : decode cJ9_max_f86c9 7 = .ok (.goto 4, 3) := by decide +kernel
theorem dJ9_max_f86c9_10 : decode cJ9_max_f86c9 10 = .ok (.lload_n 2, 1) := by decide +kernel
theorem dJ9_max_f86c9_11 : decode cJ9_max_f86c9 11 = .ok (.lreturn, 1) := by decide +kernel
end
section
/-! ===== the state as a mathematical value: nodes (rd, ck), slots (ph gt bt bi rs ws lm hu se), keys (lr hd pl), versions, commits, begins ===== -/
def HM : Type := (Nat → Int32) × (Nat → Int64) × (Nat → Int32) × (Nat → Nat) × (Nat → Int32) × (Nat → Nat) × (Nat → Int64) × (Nat → Int64) × (Nat → Int64) × (Nat → Int32) × (Nat → Nat → Bool) × (Nat → Int64) × (Nat → Option Nat) × (Nat → Int32) × (List (Nat × Int64 × Int32)) × (List Int64) × (Nat)
def HM.rd (m : HM) : Nat → Int32 := m.1
def HM.ck (m : HM) : Nat → Int64 := m.2.1
def HM.ph (m : HM) : Nat → Int32 := m.2.2.1
def HM.gt (m : HM) : Nat → Nat := m.2.2.2.1
def HM.bt (m : HM) : Nat → Int32 := m.2.2.2.2.1
def HM.bi (m : HM) : Nat → Nat := m.2.2.2.2.2.1
def HM.rs (m : HM) : Nat → Int64 := m.2.2.2.2.2.2.1
def HM.ws (m : HM) : Nat → Int64 := m.2.2.2.2.2.2.2.1
def HM.lm (m : HM) : Nat → Int64 := m.2.2.2.2.2.2.2.2.1
def HM.hu (m : HM) : Nat → Int32 := m.2.2.2.2.2.2.2.2.2.1
def HM.se (m : HM) : Nat → Nat → Bool := m.2.2.2.2.2.2.2.2.2.2.1
def HM.lr (m : HM) : Nat → Int64 := m.2.2.2.2.2.2.2.2.2.2.2.1
def HM.hd (m : HM) : Nat → Option Nat := m.2.2.2.2.2.2.2.2.2.2.2.2.1
def HM.pl (m : HM) : Nat → Int32 := m.2.2.2.2.2.2.2.2.2.2.2.2.2.1
def HM.vs (m : HM) : List (Nat × Int64 × Int32) := m.2.2.2.2.2.2.2.2.2.2.2.2.2.2.1
def HM.cm (m : HM) : List Int64 := m.2.2.2.2.2.2.2.2.2.2.2.2.2.2.2.1
def HM.bs (m : HM) : Nat := m.2.2.2.2.2.2.2.2.2.2.2.2.2.2.2.2
def HM.s_rd (m : HM) (v : Nat → Int32) : HM := (v, m.2)
def HM.s_ck (m : HM) (v : Nat → Int64) : HM := (m.1, v, m.2.2)
def HM.s_ph (m : HM) (v : Nat → Int32) : HM := (m.1, m.2.1, v, m.2.2.2)
def HM.s_gt (m : HM) (v : Nat → Nat) : HM := (m.1, m.2.1, m.2.2.1, v, m.2.2.2.2)
def HM.s_bt (m : HM) (v : Nat → Int32) : HM := (m.1, m.2.1, m.2.2.1, m.2.2.2.1, v, m.2.2.2.2.2)
def HM.s_bi (m : HM) (v : Nat → Nat) : HM := (m.1, m.2.1, m.2.2.1, m.2.2.2.1, m.2.2.2.2.1, v, m.2.2.2.2.2.2)
def HM.s_rs (m : HM) (v : Nat → Int64) : HM := (m.1, m.2.1, m.2.2.1, m.2.2.2.1, m.2.2.2.2.1, m.2.2.2.2.2.1, v, m.2.2.2.2.2.2.2)
def HM.s_ws (m : HM) (v : Nat → Int64) : HM := (m.1, m.2.1, m.2.2.1, m.2.2.2.1, m.2.2.2.2.1, m.2.2.2.2.2.1, m.2.2.2.2.2.2.1, v, m.2.2.2.2.2.2.2.2)
def HM.s_lm (m : HM) (v : Nat → Int64) : HM := (m.1, m.2.1, m.2.2.1, m.2.2.2.1, m.2.2.2.2.1, m.2.2.2.2.2.1, m.2.2.2.2.2.2.1, m.2.2.2.2.2.2.2.1, v, m.2.2.2.2.2.2.2.2.2)
def HM.s_hu (m : HM) (v : Nat → Int32) : HM := (m.1, m.2.1, m.2.2.1, m.2.2.2.1, m.2.2.2.2.1, m.2.2.2.2.2.1, m.2.2.2.2.2.2.1, m.2.2.2.2.2.2.2.1, m.2.2.2.2.2.2.2.2.1, v, m.2.2.2.2.2.2.2.2.2.2)
def HM.s_se (m : HM) (v : Nat → Nat → Bool) : HM := (m.1, m.2.1, m.2.2.1, m.2.2.2.1, m.2.2.2.2.1, m.2.2.2.2.2.1, m.2.2.2.2.2.2.1, m.2.2.2.2.2.2.2.1, m.2.2.2.2.2.2.2.2.1, m.2.2.2.2.2.2.2.2.2.1, v, m.2.2.2.2.2.2.2.2.2.2.2)
def HM.s_lr (m : HM) (v : Nat → Int64) : HM := (m.1, m.2.1, m.2.2.1, m.2.2.2.1, m.2.2.2.2.1, m.2.2.2.2.2.1, m.2.2.2.2.2.2.1, m.2.2.2.2.2.2.2.1, m.2.2.2.2.2.2.2.2.1, m.2.2.2.2.2.2.2.2.2.1, m.2.2.2.2.2.2.2.2.2.2.1, v, m.2.2.2.2.2.2.2.2.2.2.2.2)
def HM.s_hd (m : HM) (v : Nat → Option Nat) : HM := (m.1, m.2.1, m.2.2.1, m.2.2.2.1, m.2.2.2.2.1, m.2.2.2.2.2.1, m.2.2.2.2.2.2.1, m.2.2.2.2.2.2.2.1, m.2.2.2.2.2.2.2.2.1, m.2.2.2.2.2.2.2.2.2.1, m.2.2.2.2.2.2.2.2.2.2.1, m.2.2.2.2.2.2.2.2.2.2.2.1, v, m.2.2.2.2.2.2.2.2.2.2.2.2.2)
def HM.s_pl (m : HM) (v : Nat → Int32) : HM := (m.1, m.2.1, m.2.2.1, m.2.2.2.1, m.2.2.2.2.1, m.2.2.2.2.2.1, m.2.2.2.2.2.2.1, m.2.2.2.2.2.2.2.1, m.2.2.2.2.2.2.2.2.1, m.2.2.2.2.2.2.2.2.2.1, m.2.2.2.2.2.2.2.2.2.2.1, m.2.2.2.2.2.2.2.2.2.2.2.1, m.2.2.2.2.2.2.2.2.2.2.2.2.1, v, m.2.2.2.2.2.2.2.2.2.2.2.2.2.2)
def HM.s_vs (m : HM) (v : List (Nat × Int64 × Int32)) : HM := (m.1, m.2.1, m.2.2.1, m.2.2.2.1, m.2.2.2.2.1, m.2.2.2.2.2.1, m.2.2.2.2.2.2.1, m.2.2.2.2.2.2.2.1, m.2.2.2.2.2.2.2.2.1, m.2.2.2.2.2.2.2.2.2.1, m.2.2.2.2.2.2.2.2.2.2.1, m.2.2.2.2.2.2.2.2.2.2.2.1, m.2.2.2.2.2.2.2.2.2.2.2.2.1, m.2.2.2.2.2.2.2.2.2.2.2.2.2.1, v, m.2.2.2.2.2.2.2.2.2.2.2.2.2.2.2)
def HM.s_cm (m : HM) (v : List Int64) : HM := (m.1, m.2.1, m.2.2.1, m.2.2.2.1, m.2.2.2.2.1, m.2.2.2.2.2.1, m.2.2.2.2.2.2.1, m.2.2.2.2.2.2.2.1, m.2.2.2.2.2.2.2.2.1, m.2.2.2.2.2.2.2.2.2.1, m.2.2.2.2.2.2.2.2.2.2.1, m.2.2.2.2.2.2.2.2.2.2.2.1, m.2.2.2.2.2.2.2.2.2.2.2.2.1, m.2.2.2.2.2.2.2.2.2.2.2.2.2.1, m.2.2.2.2.2.2.2.2.2.2.2.2.2.2.1, v, m.2.2.2.2.2.2.2.2.2.2.2.2.2.2.2.2)
def HM.s_bs (m : HM) (v : Nat) : HM := (m.1, m.2.1, m.2.2.1, m.2.2.2.1, m.2.2.2.2.1, m.2.2.2.2.2.1, m.2.2.2.2.2.2.1, m.2.2.2.2.2.2.2.1, m.2.2.2.2.2.2.2.2.1, m.2.2.2.2.2.2.2.2.2.1, m.2.2.2.2.2.2.2.2.2.2.1, m.2.2.2.2.2.2.2.2.2.2.2.1, m.2.2.2.2.2.2.2.2.2.2.2.2.1, m.2.2.2.2.2.2.2.2.2.2.2.2.2.1, m.2.2.2.2.2.2.2.2.2.2.2.2.2.2.1, m.2.2.2.2.2.2.2.2.2.2.2.2.2.2.2.1, v)
def HM.u_rd (m : HM) (i : Nat) (v : Int32) : HM := m.s_rd (va_up m.rd i v)
def HM.u_ck (m : HM) (i : Nat) (v : Int64) : HM := m.s_ck (va_up m.ck i v)
def HM.u_ph (m : HM) (i : Nat) (v : Int32) : HM := m.s_ph (va_up m.ph i v)
def HM.u_gt (m : HM) (i : Nat) (v : Nat) : HM := m.s_gt (va_up m.gt i v)
def HM.u_bt (m : HM) (i : Nat) (v : Int32) : HM := m.s_bt (va_up m.bt i v)
def HM.u_bi (m : HM) (i : Nat) (v : Nat) : HM := m.s_bi (va_up m.bi i v)
def HM.u_rs (m : HM) (i : Nat) (v : Int64) : HM := m.s_rs (va_up m.rs i v)
def HM.u_ws (m : HM) (i : Nat) (v : Int64) : HM := m.s_ws (va_up m.ws i v)
def HM.u_lm (m : HM) (i : Nat) (v : Int64) : HM := m.s_lm (va_up m.lm i v)
def HM.u_hu (m : HM) (i : Nat) (v : Int32) : HM := m.s_hu (va_up m.hu i v)
def HM.u_se (m : HM) (i : Nat) (v : Nat → Bool) : HM := m.s_se (va_up m.se i v)
def HM.u_lr (m : HM) (i : Nat) (v : Int64) : HM := m.s_lr (va_up m.lr i v)
def HM.u_hd (m : HM) (i : Nat) (v : Option Nat) : HM := m.s_hd (va_up m.hd i v)
def HM.u_pl (m : HM) (i : Nat) (v : Int32) : HM := m.s_pl (va_up m.pl i v)
/-- the versions of key k, in their order -/
def HM.vk (m : HM) (k : Nat) : List (Int64 × Int32) := (m.vs.filter (fun v => v.1 == k)).map (fun v => v.2)
/-- a set of keys as the bits of an int -/
def hs_mn (f : Nat → Bool) : Nat → Nat
  | 0 => 0
  | n + 1 => (if f n then 2 ^ n else 0) + hs_mn f n
def hs_mask (f : Nat → Bool) : Int32 := nI (hs_mn f 16)
def hs_bit (k : Nat) : Int32 := (1 : Int32) <<< (nI k &&& 31)
/-! the class: 65 cells; 0 the store, 1 .. 3 its arrays of nodes, keys, slots, 4 the commit stamps, then 4 nodes, 16 keys, 16 arrays of stamps, 16 of values, 8 slots -/
abbrev hs_tys (cy : Nat → ClassId) : List (ClassId × FieldType) := [(cy 0, .int), (cy 1, .long), (cy 2, .boolean), (cy 3, .object "HlcStore$Node"), (cy 4, .object "HlcStore$Key"), (cy 5, .object "HlcStore$Transaction")]
def hc_storeL (ad : Nat → Nat) (m : HM) : List Value := [.ref (ad 1), .ref (ad 2), .ref (ad 3), .ref (ad 4), .int (nI m.cm.length), .int (nI m.bs)]
def hc_nodeL (m : HM) (i : Nat) : List Value := [.int (m.rd i), .long (m.ck i)]
def hc_keyL (ad : Nat → Nat) (m : HM) (k : Nat) : List Value := [.int (hs_bit k), .ref (ad (5 + k % 4)), .ref (ad (25 + k)), .ref (ad (41 + k)), .int (nI (m.vk k).length), .long (m.lr k), va_rf ((m.hd k).map (fun t => ad (57 + t))), .int (m.pl k)]
def hc_txL (ad : Nat → Nat) (m : HM) (t : Nat) : List Value := [.int (m.ph t), .ref (ad (5 + m.gt t)), .int (m.bt t), .int (nI (m.bi t)), .long (m.rs t), .long (m.ws t), .long (m.lm t), .int (hs_mask (m.se t)), .int (m.hu t)]
def hc_stA (m : HM) (k : Nat) : Nat → Int64 := fun i => ((m.vk k).getD i (0, 0)).1
def hc_vaA (m : HM) (k : Nat) : Nat → Int32 := fun i => ((m.vk k).getD i (0, 0)).2
def hc_cmA (m : HM) : Nat → Int64 := fun i => m.cm.getD i 0
def hc_top (ad : Nat → Nat) (cy : Nat → ClassId) (m : HM) (j : Nat) : va_E :=
  if j = 0 then .inr (3, hc_storeL ad m)
  else if j = 1 then .inl (cy 3, 4, .inr (.inr (.inr (.inr (fun i => some (ad (5 + i)))))))
  else if j = 2 then .inl (cy 4, 16, .inr (.inr (.inr (.inr (fun i => some (ad (9 + i)))))))
  else if j = 3 then .inl (cy 5, 8, .inr (.inr (.inr (.inr (fun i => some (ad (57 + i)))))))
  else .inl (cy 1, 256, .inr (.inl (hc_cmA m)))
def hc_cell (ad : Nat → Nat) (cy : Nat → ClassId) (m : HM) (j : Nat) : va_E :=
  if j < 5 then hc_top ad cy m j
  else if j < 9 then .inr (1, hc_nodeL m (j - 5))
  else if j < 25 then .inr (0, hc_keyL ad m (j - 9))
  else if j < 41 then .inl (cy 1, 16, .inr (.inl (hc_stA m (j - 25))))
  else if j < 57 then .inl (cy 0, 16, .inl (hc_vaA m (j - 41)))
  else .inr (2, hc_txL ad m (j - 57))
def hc_mem (ad : Nat → Nat) (cy : Nat → ClassId) (m : HM) : va_W := (List.range 65).map (fun j => (ad j, hc_cell ad cy m j))
def hc_ok (ad : Nat → Nat) : Prop := ∀ i, i < 65 → ∀ j, j < 65 → ad i = ad j → i = j
def hc_A (ad : Nat → Nat) : Nat → Prop := fun q => ∃ j, j < 65 ∧ q = ad j
theorem hs_rm {f : Nat → Nat × va_E} {n j : Nat} (h : j < n) : ((List.range n).map f)[j]? = some (f j) := by simp [h]
theorem hs_rset {f g : Nat → Nat × va_E} {n j0 : Nat} (h : ∀ j, j < n → j ≠ j0 → g j = f j) : ((List.range n).map f).set j0 (g j0) = (List.range n).map g := by
  apply List.ext_getElem?
  intro j
  by_cases hj : j < n
  · by_cases e : j = j0
    · subst e
      simp [List.getElem?_set, hj]
    · rw [List.getElem?_set_ne (Ne.symm e), hs_rm hj, hs_rm hj, h j hj e]
  · simp [List.getElem?_set, hj]
theorem hc_D {ad : Nat → Nat} (ho : hc_ok ad) (cy : Nat → ClassId) (m : HM) : va_D (hc_A ad) (hc_mem ad cy m) := by
  have key : ∀ (k : Nat) (q : Nat × va_E), (hc_mem ad cy m)[k]? = some q → k < 65 ∧ q.1 = ad k := by
    intro k q h
    by_cases hk : k < 65
    · rw [hc_mem, hs_rm hk] at h
      cases h
      exact ⟨hk, rfl⟩
    · simp [hc_mem, hk] at h
  refine ⟨fun i j p q hp hq e => ?_, fun k q h => ?_⟩
  · obtain ⟨h1, h2⟩ := key i p hp
    obtain ⟨h3, h4⟩ := key j q hq
    exact ho i h1 j h3 (by rw [← h2, ← h4]; exact e)
  · obtain ⟨h1, h2⟩ := key k q h
    exact ⟨k, h1, h2⟩
theorem hc_at_top {ad : Nat → Nat} {cy : Nat → ClassId} {m : HM} {j : Nat} (h : j < 5) : (hc_mem ad cy m)[j]? = some (ad j, hc_top ad cy m j) := by
  rw [hc_mem, hs_rm (by omega)]; simp [hc_cell, h]
theorem hc_at_node {ad : Nat → Nat} {cy : Nat → ClassId} {m : HM} {i : Nat} (h : i < 4) : (hc_mem ad cy m)[5 + i]? = some (ad (5 + i), .inr (1, hc_nodeL m i)) := by
  rw [hc_mem, hs_rm (by omega)]; simp [hc_cell, show ¬ 5 + i < 5 by omega, show 5 + i < 9 by omega]
theorem hc_at_key {ad : Nat → Nat} {cy : Nat → ClassId} {m : HM} {k : Nat} (h : k < 16) : (hc_mem ad cy m)[9 + k]? = some (ad (9 + k), .inr (0, hc_keyL ad m k)) := by
  rw [hc_mem, hs_rm (by omega)]; simp [hc_cell, show ¬ 9 + k < 5 by omega, show ¬ 9 + k < 9 by omega, show 9 + k < 25 by omega]
theorem hc_at_st {ad : Nat → Nat} {cy : Nat → ClassId} {m : HM} {k : Nat} (h : k < 16) : (hc_mem ad cy m)[25 + k]? = some (ad (25 + k), .inl (cy 1, 16, .inr (.inl (hc_stA m k)))) := by
  rw [hc_mem, hs_rm (by omega)]; simp [hc_cell, show ¬ 25 + k < 5 by omega, show ¬ 25 + k < 9 by omega, show ¬ 25 + k < 25 by omega, show 25 + k < 41 by omega]
theorem hc_at_va {ad : Nat → Nat} {cy : Nat → ClassId} {m : HM} {k : Nat} (h : k < 16) : (hc_mem ad cy m)[41 + k]? = some (ad (41 + k), .inl (cy 0, 16, .inl (hc_vaA m k))) := by
  rw [hc_mem, hs_rm (by omega)]; simp [hc_cell, show ¬ 41 + k < 5 by omega, show ¬ 41 + k < 9 by omega, show ¬ 41 + k < 25 by omega, show ¬ 41 + k < 41 by omega, show 41 + k < 57 by omega]
theorem hc_at_tx {ad : Nat → Nat} {cy : Nat → ClassId} {m : HM} {t : Nat} (h : t < 8) : (hc_mem ad cy m)[57 + t]? = some (ad (57 + t), .inr (2, hc_txL ad m t)) := by
  rw [hc_mem, hs_rm (by omega)]; simp [hc_cell, show ¬ 57 + t < 5 by omega, show ¬ 57 + t < 9 by omega, show ¬ 57 + t < 25 by omega, show ¬ 57 + t < 41 by omega, show ¬ 57 + t < 57 by omega]
/-- a change of one cell of the picture -/
theorem hc_set {ad : Nat → Nat} {cy : Nat → ClassId} {m m' : HM} (j0 : Nat) {e : va_E} (he : hc_cell ad cy m' j0 = e)
    (h1 : ∀ j, j < 5 → j ≠ j0 → hc_top ad cy m' j = hc_top ad cy m j) (h2 : ∀ i, 5 + i ≠ j0 → hc_nodeL m' i = hc_nodeL m i) (h3 : ∀ k, 9 + k ≠ j0 → hc_keyL ad m' k = hc_keyL ad m k)
    (h4 : ∀ k, 25 + k ≠ j0 → hc_stA m' k = hc_stA m k) (h5 : ∀ k, 41 + k ≠ j0 → hc_vaA m' k = hc_vaA m k) (h6 : ∀ t, 57 + t ≠ j0 → hc_txL ad m' t = hc_txL ad m t) :
    (hc_mem ad cy m).set j0 (ad j0, e) = hc_mem ad cy m' := by
  subst he
  refine hs_rset (f := fun j => (ad j, hc_cell ad cy m j)) (g := fun j => (ad j, hc_cell ad cy m' j)) (fun j hj hne => ?_)
  show (ad j, hc_cell ad cy m' j) = (ad j, hc_cell ad cy m j)
  congr 1
  unfold hc_cell
  by_cases a1 : j < 5
  · simp only [a1, if_true]; exact h1 j a1 hne
  · by_cases a2 : j < 9
    · simp only [a1, a2, if_true, if_false]; rw [h2 (j - 5) (by omega)]
    · by_cases a3 : j < 25
      · simp only [a1, a2, a3, if_true, if_false]; rw [h3 (j - 9) (by omega)]
      · by_cases a4 : j < 41
        · simp only [a1, a2, a3, a4, if_true, if_false]; rw [h4 (j - 25) (by omega)]
        · by_cases a5 : j < 57
          · simp only [a1, a2, a3, a4, a5, if_true, if_false]; rw [h5 (j - 41) (by omega)]
          · simp only [a1, a2, a3, a4, a5, if_false]; rw [h6 (j - 57) (by omega)]
theorem hc_c_node {ad : Nat → Nat} {cy : Nat → ClassId} {m : HM} {i : Nat} (h : i < 4) : hc_cell ad cy m (5 + i) = .inr (1, hc_nodeL m i) := by
  simp [hc_cell, show ¬ 5 + i < 5 by omega, show 5 + i < 9 by omega]
theorem hc_c_key {ad : Nat → Nat} {cy : Nat → ClassId} {m : HM} {k : Nat} (h : k < 16) : hc_cell ad cy m (9 + k) = .inr (0, hc_keyL ad m k) := by
  simp [hc_cell, show ¬ 9 + k < 5 by omega, show ¬ 9 + k < 9 by omega, show 9 + k < 25 by omega]
theorem hc_c_tx {ad : Nat → Nat} {cy : Nat → ClassId} {m : HM} {t : Nat} : hc_cell ad cy m (57 + t) = .inr (2, hc_txL ad m t) := by
  simp [hc_cell, show ¬ 57 + t < 5 by omega, show ¬ 57 + t < 9 by omega, show ¬ 57 + t < 25 by omega, show ¬ 57 + t < 41 by omega, show ¬ 57 + t < 57 by omega]
end
section
/-! ===== the words of nest mates, contracts, rows of calls and fields ===== -/
def hs_nf : List (String × Nat × String × String × String × String) := [(RX2, 19, "HlcStore$Node", "reading", "I", "HlcStore"), (RX3, 42, "HlcStore$Node", "reading", "I", "HlcStore"), (RX2, 30, "HlcStore$Node", "clock", "J", "HlcStore"), (RX3, 55, "HlcStore$Node", "clock", "J", "HlcStore"), (RX3, 168, "HlcStore$Key", "bit", "I", "HlcStore"), (RX3, 89, "HlcStore$Key", "owner", "LHlcStore$Node;", "HlcStore"), (RX3, 137, "HlcStore$Key", "count", "I", "HlcStore"), (RX3, 182, "HlcStore$Key", "readMark", "J", "HlcStore"), (RX3, 130, "HlcStore$Key", "holder", "LHlcStore$Transaction;", "HlcStore"), (RX3, 143, "HlcStore$Key", "intentValue", "I", "HlcStore"), (RX0, 50, "HlcStore$Transaction", "state", "I", "HlcStore"), (RX3, 118, "HlcStore$Transaction", "state", "I", "HlcStore"), (RX3, 85, "HlcStore$Transaction", "gateway", "LHlcStore$Node;", "HlcStore"), (RX3, 127, "HlcStore$Transaction", "lastBeat", "I", "HlcStore"), (RX3, 175, "HlcStore$Transaction", "place", "I", "HlcStore"), (RX3, 107, "HlcStore$Transaction", "readStamp", "J", "HlcStore"), (RX0, 55, "HlcStore$Transaction", "writeStamp", "J", "HlcStore"), (RX3, 104, "HlcStore$Transaction", "writeStamp", "J", "HlcStore"), (RX3, 153, "HlcStore$Transaction", "limit", "J", "HlcStore"), (RX3, 165, "HlcStore$Transaction", "keysRead", "I", "HlcStore"), (RX3, 178, "HlcStore$Transaction", "hurt", "Z", "HlcStore")]
def hs_nm : List (String × Nat × MethodName × String) := [(RX3, 15, yX1_init, "HlcStore"), (RX3, 22, yX0_init, "HlcStore"), (RX3, 31, yX2_init, "HlcStore"), (RX3, 50, yX1_haveEvent, "HlcStore"), (RX3, 66, yX2_start, "HlcStore"), (RX3, 80, yX2_takeStoppingCode, "HlcStore"), (RX3, 92, yX1_takeIn, "HlcStore"), (RX3, 193, yX2_abortIfSilent, "HlcStore"), (RX3, 134, yX0_settleIntent, "HlcStore"), (RX3, 150, yX2_pushWriteStampAbove, "HlcStore"), (RX3, 156, yX0_greatestStampIn, "HlcStore"), (RX3, 196, yX2_moveTo, "HlcStore"), (RX3, 162, yX0_raiseReadMark, "HlcStore"), (RX3, 171, yX0_valueAt, "HlcStore"), (RX3, 124, yX2_codeOfState, "HlcStore")]
def hs_NW (U : State) : Prop := (∀ q ∈ hs_nf, va_Nw (.fieldLinkNest q.1 q.2.1 q.2.2.1 q.2.2.2.1 q.2.2.2.2.1 q.2.2.2.2.2) U) ∧ ∀ q ∈ hs_nm, va_Nw (.methodLinkNest q.1 q.2.1 q.2.2.1 q.2.2.2) U
theorem hs_NW.warm {s U : State} (hW : s.WarmedH U.vm) (h : hs_NW s) : hs_NW U := ⟨fun q hq => va_Nw.warmF hW (h.1 q hq), fun q hq => va_Nw.warmM hW (h.2 q hq)⟩
theorem hs_NW.same {u U : State} (e : u.vm = U.vm) (h : hs_NW u) : hs_NW U := ⟨fun q hq => va_Nw.same rfl e (h.1 q hq), fun q hq => va_Nw.same rfl e (h.2 q hq)⟩
/-- what a walk knows: machine, code, words, own class, tables, nest mates' words -/
def hs_C (p : Program) (s : State) (m : MethodId) (c : Code) (cc : ByteArray) (args : Array Value) (Ts : List Cond) (own : String) (D : va_G) (cy : Nat → ClassId) : Prop :=
  p.tables.exec = Jvm.exec ∧ c.code = cc ∧ (∀ w ∈ Ts, w.before args s = true) ∧ s.vm.findClass own = some m.cls ∧ va_K D vwCl (hs_tys cy) s ∧ hs_NW s
def hs_Pre (D : va_G) (cy : Nat → ClassId) (av : List Value) (mem : va_W) : Array Value → State → Prop := va_Pc av (fun U => va_K D vwCl (hs_tys cy) U ∧ hs_NW U ∧ va_P D vwCl mem U.heap)
def hs_Post (D : va_G) (r : Option Value) (mem' : va_W) (A : Nat → Prop) : Array Value → State → Outcome → State → Prop := fun _ st oc t => oc = .returned r ∧ va_P D vwCl mem' t.heap ∧ va_F A st t
/-- a contract: from the picture mem, with the arguments av, the method returns r and leaves the picture mem', and changes nothing outside A -/
def Ct (l : Launch) (y : MethodName) (ws : List Cond) (rm : Room) (D : va_G) (cy : Nat → ClassId) (A : Nat → Prop) (av : List Value) (mem : va_W) (r : Option Value) (mem' : va_W) : Prop :=
  Met l y ws rm (hs_Pre D cy av mem) (hs_Post D r mem' A) 0 0 A
theorem hs_blind {D : va_G} {cy : Nat → ClassId} {av : List Value} {mem : va_W} : FrameBlind (hs_Pre D cy av mem) := fun a U g mk q => by
  obtain ⟨q0, qK, qN, qP⟩ := q
  exact ⟨q0, va_K.moved (u := U) (U := U.calling g mk a) (Vm.Alike.refl U.vm) qK, hs_NW.same (u := U) (U := U.calling g mk a) rfl qN, qP⟩
theorem ct_of {l : Launch} {y : MethodName} {ws ws' : List Cond} {rm : Room} {D : va_G} {cy : Nat → ClassId} {A : Nat → Prop} {av : List Value} {mem mem' : va_W} {r : Option Value} {cc : ByteArray} {maxL : Nat} {ret : Option FieldType}
    (hw : ws = Cond.code y cc maxL ret :: ws') (hy : plainName y.cls = true) (hlen : (lg_sl av).length ≤ maxL)
    (body : ∀ (p : Program) (e : Env) (s : State) (m : MethodId) (below : List Frame) (meth : Method) (c : Code) (ls : Array Slot), hs_C p s m c cc av.toArray ws y.cls D cy → p.tables.exec = Jvm.exec → c.code = cc → c.maxLocals = maxL → meth.sig.returnType = ret → meth.locks = false → va_P D vwCl mem s.heap → va_S A s.heap s.heap [] → lv_has ls maxL (lv_args 0 av) →
      W p l e rm s m av.toArray below meth c s.heap [] 0 0 (MQ below (hs_Post D r mem' A) av.toArray s 0 0 A) (F0 m 0 ls [])) : Ct l y ws rm D cy A av mem r mem' := by
  refine Met.ofW (cc := cc) (maxL := maxL) (ret := ret) hy hw ?_
  intro p e s m args below meth c s₁ B hml hv
  obtain ⟨rfl, hK, hN, hP⟩ := hv
  have hts := atoms_spec (ws := ws) B.pre
  rw [lg_entry_eq]
  exact body p e s m below meth c _ ⟨B.exec, B.bytes, hts, findClass_of_methodNamed B.named, hK, hN⟩ B.exec B.bytes hml B.returns B.notSynchronized hP va_S.rf (lv_entry av hlen)
section HSR
variable {p : Program} {l : Launch} {e : Env} {R : Room} {s : State} {m : MethodId} {args : Array Value} {below : List Frame} {meth : Method} {c : Code} {H : Heap} {locs : List Loc}
variable {cc : ByteArray} {pc : Nat} {ls : Array Slot} {D : va_G} {A : Nat → Prop} {mem' : va_W} {r : Option Value}
theorem ct_iret (hx : p.tables.exec = Jvm.exec) (hb : c.code = cc) (hr : meth.sig.returnType = some .int) (hlocks : meth.locks = false) {v : Int32} (hv : some (.int v) = r) (hP : va_P D vwCl mem' H) (hS : va_S A s.heap H locs) (hdg : decode cc pc = .ok (.ireturn, 1)) : W p l e R s m args below meth c H locs 0 0 (MQ below (hs_Post D r mem' A) args s 0 0 A) (F0 m pc ls [.int v]) :=
  W.iret hx hb hr (fun t ht _ => ⟨by rw [← hv], by rw [ht]; exact hP, hS.F ht⟩) hS.2.2 hdg hlocks
theorem ct_zret (hx : p.tables.exec = Jvm.exec) (hb : c.code = cc) (hr : meth.sig.returnType = some .boolean) (hlocks : meth.locks = false) {v : Int32} (hn : narrow .boolean (.int v) = .int v) (hv : some (.int v) = r) (hP : va_P D vwCl mem' H) (hS : va_S A s.heap H locs) (hdg : decode cc pc = .ok (.ireturn, 1)) : W p l e R s m args below meth c H locs 0 0 (MQ below (hs_Post D r mem' A) args s 0 0 A) (F0 m pc ls [.int v]) :=
  W.zret hx hb hr hn (fun t ht _ => ⟨by rw [← hv], by rw [ht]; exact hP, hS.F ht⟩) hS.2.2 hdg hlocks
theorem ct_lret (hx : p.tables.exec = Jvm.exec) (hb : c.code = cc) (hr : meth.sig.returnType = some .long) (hlocks : meth.locks = false) {v : Int64} (hv : some (.long v) = r) (hP : va_P D vwCl mem' H) (hS : va_S A s.heap H locs) (hdg : decode cc pc = .ok (.lreturn, 1)) : W p l e R s m args below meth c H locs 0 0 (MQ below (hs_Post D r mem' A) args s 0 0 A) (F0 m pc ls [.long v]) :=
  W.lret hx hb hr (fun t ht _ => ⟨by rw [← hv], by rw [ht]; exact hP, hS.F ht⟩) hS.2.2 hdg hlocks
theorem ct_vret (hx : p.tables.exec = Jvm.exec) (hb : c.code = cc) (hr : meth.sig.returnType = none) (hlocks : meth.locks = false) (hv : none = r) (hP : va_P D vwCl mem' H) (hS : va_S A s.heap H locs) (hdg : decode cc pc = .ok (.return_, 1)) : W p l e R s m args below meth c H locs 0 0 (MQ below (hs_Post D r mem' A) args s 0 0 A) (F0 m pc ls []) :=
  W.vret hx hb hr (fun t ht _ => ⟨by rw [← hv], by rw [ht]; exact hP, hS.F ht⟩) hS.2.2 hdg hlocks
theorem ct_aret (hx : p.tables.exec = Jvm.exec) (hb : c.code = cc) {C : String} (hr : meth.sig.returnType = some (.object C)) (hlocks : meth.locks = false) {v : Value} (hvr : v = .null ∨ ∃ a, v = .ref a) (hv : some v = r) (hP : va_P D vwCl mem' H) (hS : va_S A s.heap H locs) (hdg : decode cc pc = .ok (.areturn, 1)) : W p l e R s m args below meth c H locs 0 0 (MQ below (hs_Post D r mem' A) args s 0 0 A) (F0 m pc ls [v]) :=
  W.aret hx hb hr (Or.inl ⟨C, rfl⟩) hvr (fun t ht _ => ⟨by rw [← hv], by rw [ht]; exact hP, hS.F ht⟩) hS.2.2 hdg hlocks
end HSR
section HSK
variable {p : Program} {l : Launch} {e : Env} {R : Room} {s : State} {m : MethodId} {args : Array Value} {below : List Frame} {meth : Method} {c : Code} {H H0 : Heap} {locs : List Loc} {cells slots : Nat} {Q : State → Prop}
variable {cc bytes : ByteArray} {pc nL maxL index n : Nat} {ls : Array Slot} {rest As : List Value} {D : va_G} {cy : Nat → ClassId} {Ts ws ws' : List Cond} {own C : String} {A A1 : Nat → Prop} {mem mem' : va_W} {r : Option Value} {ret : Option FieldType} {rm : Room} {y : MethodName} {b : Nat}
/-- behind a call -/
theorem hs_after {st0 : List Value} {aa : Array Value} (hr : va_Run p l e R s m args below meth c H locs cells slots 0 0 (F0 m pc ls st0) rest (hs_Post D r mem' A1 aa) A1) (hS : va_S A H0 H locs) (hA : ∀ q, A1 q → A q)
    (kk : ∀ (H1 : Heap) (locs1 : List Loc), va_P D vwCl mem' H1 → va_S A H0 H1 locs1 → H.size ≤ H1.size → (∀ q : Nat, q < H.size → ¬ A1 q → H1[q]? = H[q]?) → W p l e R s m args below meth c H1 locs1 cells slots Q (F0 m (pc + 3) ls (r.toList ++ rest))) : W p l e R s m args below meth c H locs cells slots Q (F0 m pc ls st0) := by
  intro T hT X
  obtain ⟨v, st₀, t, T', L, h0, X', hL, e1, e2, ⟨hv, hp, hz, hk⟩, st⟩ := hr T hT X
  cases hv
  rw [h0] at hz hk
  obtain ⟨t2, a1, b1⟩ := kk T'.heap (locs ++ L) (by rw [e1]; exact hp)
    ⟨Nat.le_trans hS.1 (by rw [e1]; exact hz), fun q h1 h2 => by rw [e1, hk q (Nat.lt_of_lt_of_le h1 hS.1) (fun z => h2 (hA q z))]; exact hS.2.1 q h1 h2, fun q hq => by
      rcases List.mem_append.mp hq with h | h
      · exact hS.2.2 q h
      · exact hA _ (hL q h)⟩ (by rw [e1]; exact hz) (fun q h1 h2 => by rw [e1]; exact hk q h1 h2) T' rfl X'
  exact ⟨t2, st t2 a1, b1⟩
theorem hs_pre (G : hs_C p s m c cc args Ts own D cy) (hP : va_P D vwCl mem H) (av : List Value) : ∀ U : State, U.heap = H → s.WarmedH U.vm → hs_Pre D cy av mem av.toArray U := fun U hU hW =>
  ⟨rfl, va_K.moved hW.alike G.2.2.2.2.1, hs_NW.warm hW G.2.2.2.2.2, by rw [hU]; exact hP⟩
/-- a call of an own method (invokevirtual) -/
theorem hs_callV (G : hs_C p s m c cc args Ts own D cy) (hml : c.maxLocals = nL) (hC : Ct l y ws rm D cy A1 (.ref b :: As) mem r mem') (hg : GoodIn Ts (wsV own index C y ws)) (hw : ws = Cond.code y bytes maxL ret :: ws') (hrc : rm.cells = 0) (hrs : rm.slots = 0)
    (hd : y.cls = C ∧ y.cls ≠ "java/lang/invoke/MethodHandle" ∧ y.cls ≠ "java/lang/invoke/VarHandle" ∧ (parseMethodDescriptor y.desc).map (fun d => d.parameters.length) = some n) (hR : rm.frames + 1 ≤ R.frames ∧ 8 + (maxL + 11) + rm.locals ≤ R.locals)
    {q0 ci : Nat} {q : vw_C} {fs : List Value} (hc : vwCl[ci]? = some q) (hq : q.1 = C) (he : mem[q0]? = some (b, .inr (ci, fs))) (hn : As.length = n) (hsize : ls.size = nL) (hst : (rest.map fun v => v.category).sum ≤ 8) (hf : cells ≤ R.cells ∧ slots ≤ R.slots)
    (hP : va_P D vwCl mem H) (hS : va_S A H0 H locs) (hA : ∀ q, A1 q → A q) {st : List Value} (hstk : st = As.reverse ++ .ref b :: rest) (hdg : decode cc pc = .ok (.invokevirtual index, 3))
    (kk : ∀ (H1 : Heap) (locs1 : List Loc), va_P D vwCl mem' H1 → va_S A H0 H1 locs1 → H.size ≤ H1.size → (∀ q : Nat, q < H.size → ¬ A1 q → H1[q]? = H[q]?) → W p l e R s m args below meth c H1 locs1 cells slots Q (F0 m (pc + 3) ls (r.toList ++ rest))) : W p l e R s m args below meth c H locs cells slots Q (F0 m pc ls st) := by
  subst hq
  exact hs_after (va_runV (As := As) (rest := rest) (b := b) ⟨G.1, G.2.1, hml, G.2.2.2.1, G.2.2.1⟩ hC (cwV n G.2.2.1 hg hw hrc hrs hd hR) ⟨hs_blind, va_recv G.2.2.2.2.1 hP hc he, hs_pre G hP _⟩ rfl hn hsize hstk (lv_room hst) hdg hf) hS hA kk
/-- a call of an own static method -/
theorem hs_callS (G : hs_C p s m c cc args Ts own D cy) (hml : c.maxLocals = nL) (hC : Ct l y ws rm D cy A1 As mem r mem') (hg : GoodIn Ts (va_wsS own index y ws)) (hw : ws = Cond.code y bytes maxL ret :: ws') (hrc : rm.cells = 0) (hrs : rm.slots = 0)
    (hd : y.cls ≠ "java/lang/invoke/MethodHandle" ∧ y.cls ≠ "java/lang/invoke/VarHandle" ∧ (parseMethodDescriptor y.desc).map (fun d => d.parameters.length) = some n) (hR : rm.frames + 1 ≤ R.frames ∧ 8 + (maxL + 11) + rm.locals ≤ R.locals)
    (hn : As.length = n) (hsize : ls.size = nL) (hst : (rest.map fun v => v.category).sum ≤ 8) (hf : cells ≤ R.cells ∧ slots ≤ R.slots)
    (hP : va_P D vwCl mem H) (hS : va_S A H0 H locs) (hA : ∀ q, A1 q → A q) {st : List Value} (hstk : st = As.reverse ++ rest) (hdg : decode cc pc = .ok (.invokestatic index, 3))
    (kk : ∀ (H1 : Heap) (locs1 : List Loc), va_P D vwCl mem' H1 → va_S A H0 H1 locs1 → H.size ≤ H1.size → (∀ q : Nat, q < H.size → ¬ A1 q → H1[q]? = H[q]?) → W p l e R s m args below meth c H1 locs1 cells slots Q (F0 m (pc + 3) ls (r.toList ++ rest))) : W p l e R s m args below meth c H locs cells slots Q (F0 m pc ls st) :=
  hs_after (va_runS (As := As) (rest := rest) ⟨G.1, G.2.1, hml, G.2.2.2.1, G.2.2.1⟩ hC (va_cwS n G.2.2.1 hg hw hrc hrs hd hR) ⟨hs_blind, hs_pre G hP _⟩ rfl hn hsize hstk (lv_room hst) hdg hf) hS hA kk
/-- a call of a nest mate's method -/
theorem hs_callN (G : hs_C p s m c cc args Ts own D cy) (hml : c.maxLocals = nL) (hC : Ct l y ws rm D cy A1 (.ref b :: As) mem r mem') (hg : GoodIn Ts ws) (hw : ws = Cond.code y bytes maxL ret :: ws') (hrc : rm.cells = 0) (hrs : rm.slots = 0)
    (hlk : (own, index, y, "HlcStore") ∈ hs_nm) (hini : Cond.initialized y.cls ∈ Ts) (hinst : Cond.instanceMethod y ∈ Ts) (hsel : Cond.selects C y y ∈ Ts)
    (hd : y.cls ≠ "java/lang/invoke/MethodHandle" ∧ y.cls ≠ "java/lang/invoke/VarHandle" ∧ (parseMethodDescriptor y.desc).map (fun d => d.parameters.length) = some n) (hR : rm.frames + 1 ≤ R.frames ∧ 8 + (maxL + 11) + rm.locals ≤ R.locals)
    {q0 ci : Nat} {q : vw_C} {fs : List Value} (hc : vwCl[ci]? = some q) (hq : q.1 = C) (he : mem[q0]? = some (b, .inr (ci, fs))) (hn : As.length = n) (hsize : ls.size = nL) (hst : (rest.map fun v => v.category).sum ≤ 8) (hf : cells ≤ R.cells ∧ slots ≤ R.slots)
    (hP : va_P D vwCl mem H) (hS : va_S A H0 H locs) (hA : ∀ q, A1 q → A q) {st : List Value} (hstk : st = As.reverse ++ .ref b :: rest) (hdg : decode cc pc = .ok (.invokevirtual index, 3))
    (kk : ∀ (H1 : Heap) (locs1 : List Loc), va_P D vwCl mem' H1 → va_S A H0 H1 locs1 → H.size ≤ H1.size → (∀ q : Nat, q < H.size → ¬ A1 q → H1[q]? = H[q]?) → W p l e R s m args below meth c H1 locs1 cells slots Q (F0 m (pc + 3) ls (r.toList ++ rest))) : W p l e R s m args below meth c H locs cells slots Q (F0 m pc ls st) := by
  subst hq
  exact hs_after (va_runVN (As := As) (rest := rest) (b := b) (host := "HlcStore") ⟨G.1, G.2.1, hml, G.2.2.2.1, G.2.2.1⟩ hC ⟨va_cnB n G.2.2.1 hg hw hrc hrs (G.2.2.2.2.2.2 _ hlk) (G.2.2.1 _ hini) hd hR, G.2.2.1 _ hinst, G.2.2.1 _ hsel⟩ ⟨hs_blind, va_recv G.2.2.2.2.1 hP hc he, hs_pre G hP _⟩ rfl hn hsize hstk (lv_room hst) hdg hf) hS hA kk
end HSK

section HSG
variable {p : Program} {l : Launch} {e : Env} {R : Room} {s : State} {m : MethodId} {args : Array Value} {below : List Frame} {meth : Method} {c : Code} {H H0 : Heap} {locs : List Loc} {cells slots : Nat} {Q : State → Prop}
variable {cc : ByteArray} {pc : Nat} {ls : Array Slot} {rest : List Value} {D : va_G} {cy : Nat → ClassId} {ad : Nat → Nat} {x : HM} {Ts : List Cond} {own : String}

theorem hc_g_node (G : hs_C p s m c cc args Ts own D cy) (hin : ∀ w ∈ u_ws RX1 TX1 2, w ∈ Ts) (hP : va_P D vwCl (hc_mem ad cy x) H) {i : Nat} (hi : i < 4) {index : Nat} (k : Nat) (hk : k < 2) (hl : Cond.fieldLink own index RX1 (TX1 k).2.1 (TX1 k).2.2.1 ∈ Ts) (v : Value) (hs : (TX1 k).1 = RX1) (hv : (hc_nodeL x i)[k]? = some v) (hdg : decode cc pc = .ok (.getfield index, 3))
    (kk : W p l e R s m args below meth c H locs cells slots Q (F0 m (pc + 3) ls (v :: rest))) : W p l e R s m args below meth c H locs cells slots Q (F0 m pc ls (.ref (ad (5 + i)) :: rest)) :=
  va_get (D := D) (ci := 1) (v := v) (C := RX1) (T := TX1) (N := 2) G.1 G.2.1 G.2.2.1 hin G.2.2.2.1 G.2.2.2.2.1 hP (5 + i) (hc_at_node hi) rfl k hk (G.2.2.1 _ hl) (fun _ h9 => by rw [hs] at h9; exact h9) hv hdg kk
theorem hc_p_node (ho : hc_ok ad) (G : hs_C p s m c cc args Ts own D cy) (hin : ∀ w ∈ u_ws RX1 TX1 2, w ∈ Ts) (hP : va_P D vwCl (hc_mem ad cy x) H) (hS : va_S (hc_A ad) H0 H locs) {i : Nat} (hi : i < 4) {index : Nat} (k : Nat) (hk : k < 2) (hl : Cond.fieldLink own index RX1 (TX1 k).2.1 (TX1 k).2.2.1 ∈ Ts) (v : Value) (hs : (TX1 k).1 = RX1) (hfin : (TX1 k).2.2.2 = false) (fty : FieldType) (hd : parseFieldDescriptor (TX1 k).2.2.1 = some fty) (hn : narrow fty v = v) (hfit : fits fty v = true) (hl2 : k < (hc_nodeL x i).length) (x' : HM) (hx' : (hc_mem ad cy x).set (5 + i) (ad (5 + i), .inr (1, (hc_nodeL x i).set k v)) = hc_mem ad cy x') (hdg : decode cc pc = .ok (.putfield index, 3))
    (kk : ∀ (H1 : Heap) (locs1 : List Loc), va_P D vwCl (hc_mem ad cy x') H1 → va_S (hc_A ad) H0 H1 locs1 → W p l e R s m args below meth c H1 locs1 cells slots Q (F0 m (pc + 3) ls rest)) : W p l e R s m args below meth c H locs cells slots Q (F0 m pc ls (v :: .ref (ad (5 + i)) :: rest)) :=
  va_put (D := D) (ci := 1) (v := v) (ty := fty) (C := RX1) (T := TX1) (N := 2) G.1 G.2.1 G.2.2.1 hin tyX1 tyX1_ok nmX1 G.2.2.2.1 G.2.2.2.2.1 hP (hc_D ho cy x) hS (5 + i) (hc_at_node hi) rfl k hk (G.2.2.1 _ hl) (fun _ h9 => by rw [hs] at h9; exact h9) hfin hd hn hfit hl2 hdg (fun H1 locs1 hP1 _ hS1 => kk H1 locs1 (by rw [← hx']; exact hP1) hS1)
theorem hc_g_noden (G : hs_C p s m c cc args Ts own D cy) (hin : ∀ w ∈ u_ws RX1 TX1 2, w ∈ Ts) (hP : va_P D vwCl (hc_mem ad cy x) H) {i : Nat} (hi : i < 4) {index : Nat} (k : Nat) (hk : k < 2) (hl : (own, index, RX1, (TX1 k).2.1, (TX1 k).2.2.1, "HlcStore") ∈ hs_nf) (v : Value) (hs : (TX1 k).1 = RX1) (hv : (hc_nodeL x i)[k]? = some v) (hdg : decode cc pc = .ok (.getfield index, 3))
    (kk : W p l e R s m args below meth c H locs cells slots Q (F0 m (pc + 3) ls (v :: rest))) : W p l e R s m args below meth c H locs cells slots Q (F0 m pc ls (.ref (ad (5 + i)) :: rest)) :=
  va_getN (D := D) (ci := 1) (v := v) (C := RX1) (T := TX1) (N := 2) G.1 G.2.1 G.2.2.1 hin G.2.2.2.1 G.2.2.2.2.1 hP (5 + i) (hc_at_node hi) rfl k hk (va_Nw.use rfl (G.2.2.2.2.2.1 _ hl)) (fun _ h9 => by rw [hs] at h9; exact h9) hv hdg kk
theorem hc_p_noden (ho : hc_ok ad) (G : hs_C p s m c cc args Ts own D cy) (hin : ∀ w ∈ u_ws RX1 TX1 2, w ∈ Ts) (hP : va_P D vwCl (hc_mem ad cy x) H) (hS : va_S (hc_A ad) H0 H locs) {i : Nat} (hi : i < 4) {index : Nat} (k : Nat) (hk : k < 2) (hl : (own, index, RX1, (TX1 k).2.1, (TX1 k).2.2.1, "HlcStore") ∈ hs_nf) (v : Value) (hs : (TX1 k).1 = RX1) (hfin : (TX1 k).2.2.2 = false) (fty : FieldType) (hd : parseFieldDescriptor (TX1 k).2.2.1 = some fty) (hn : narrow fty v = v) (hfit : fits fty v = true) (hl2 : k < (hc_nodeL x i).length) (x' : HM) (hx' : (hc_mem ad cy x).set (5 + i) (ad (5 + i), .inr (1, (hc_nodeL x i).set k v)) = hc_mem ad cy x') (hdg : decode cc pc = .ok (.putfield index, 3))
    (kk : ∀ (H1 : Heap) (locs1 : List Loc), va_P D vwCl (hc_mem ad cy x') H1 → va_S (hc_A ad) H0 H1 locs1 → W p l e R s m args below meth c H1 locs1 cells slots Q (F0 m (pc + 3) ls rest)) : W p l e R s m args below meth c H locs cells slots Q (F0 m pc ls (v :: .ref (ad (5 + i)) :: rest)) :=
  va_putN (D := D) (ci := 1) (v := v) (ty := fty) (C := RX1) (T := TX1) (N := 2) G.1 G.2.1 G.2.2.1 hin tyX1 tyX1_ok nmX1 G.2.2.2.1 G.2.2.2.2.1 hP (hc_D ho cy x) hS (5 + i) (hc_at_node hi) rfl k hk (va_Nw.use rfl (G.2.2.2.2.2.1 _ hl)) (fun _ h9 => by rw [hs] at h9; exact h9) hfin hd hn hfit hl2 hdg (fun H1 locs1 hP1 _ hS1 => kk H1 locs1 (by rw [← hx']; exact hP1) hS1)
theorem hc_g_key (G : hs_C p s m c cc args Ts own D cy) (hin : ∀ w ∈ u_ws RX0 TX0 8, w ∈ Ts) (hP : va_P D vwCl (hc_mem ad cy x) H) {i : Nat} (hi : i < 16) {index : Nat} (k : Nat) (hk : k < 8) (hl : Cond.fieldLink own index RX0 (TX0 k).2.1 (TX0 k).2.2.1 ∈ Ts) (v : Value) (hs : (TX0 k).1 = RX0) (hv : (hc_keyL ad x i)[k]? = some v) (hdg : decode cc pc = .ok (.getfield index, 3))
    (kk : W p l e R s m args below meth c H locs cells slots Q (F0 m (pc + 3) ls (v :: rest))) : W p l e R s m args below meth c H locs cells slots Q (F0 m pc ls (.ref (ad (9 + i)) :: rest)) :=
  va_get (D := D) (ci := 0) (v := v) (C := RX0) (T := TX0) (N := 8) G.1 G.2.1 G.2.2.1 hin G.2.2.2.1 G.2.2.2.2.1 hP (9 + i) (hc_at_key hi) rfl k hk (G.2.2.1 _ hl) (fun _ h9 => by rw [hs] at h9; exact h9) hv hdg kk
theorem hc_p_key (ho : hc_ok ad) (G : hs_C p s m c cc args Ts own D cy) (hin : ∀ w ∈ u_ws RX0 TX0 8, w ∈ Ts) (hP : va_P D vwCl (hc_mem ad cy x) H) (hS : va_S (hc_A ad) H0 H locs) {i : Nat} (hi : i < 16) {index : Nat} (k : Nat) (hk : k < 8) (hl : Cond.fieldLink own index RX0 (TX0 k).2.1 (TX0 k).2.2.1 ∈ Ts) (v : Value) (hs : (TX0 k).1 = RX0) (hfin : (TX0 k).2.2.2 = false) (fty : FieldType) (hd : parseFieldDescriptor (TX0 k).2.2.1 = some fty) (hn : narrow fty v = v) (hfit : fits fty v = true) (hl2 : k < (hc_keyL ad x i).length) (x' : HM) (hx' : (hc_mem ad cy x).set (9 + i) (ad (9 + i), .inr (0, (hc_keyL ad x i).set k v)) = hc_mem ad cy x') (hdg : decode cc pc = .ok (.putfield index, 3))
    (kk : ∀ (H1 : Heap) (locs1 : List Loc), va_P D vwCl (hc_mem ad cy x') H1 → va_S (hc_A ad) H0 H1 locs1 → W p l e R s m args below meth c H1 locs1 cells slots Q (F0 m (pc + 3) ls rest)) : W p l e R s m args below meth c H locs cells slots Q (F0 m pc ls (v :: .ref (ad (9 + i)) :: rest)) :=
  va_put (D := D) (ci := 0) (v := v) (ty := fty) (C := RX0) (T := TX0) (N := 8) G.1 G.2.1 G.2.2.1 hin tyX0 tyX0_ok nmX0 G.2.2.2.1 G.2.2.2.2.1 hP (hc_D ho cy x) hS (9 + i) (hc_at_key hi) rfl k hk (G.2.2.1 _ hl) (fun _ h9 => by rw [hs] at h9; exact h9) hfin hd hn hfit hl2 hdg (fun H1 locs1 hP1 _ hS1 => kk H1 locs1 (by rw [← hx']; exact hP1) hS1)
theorem hc_g_keyn (G : hs_C p s m c cc args Ts own D cy) (hin : ∀ w ∈ u_ws RX0 TX0 8, w ∈ Ts) (hP : va_P D vwCl (hc_mem ad cy x) H) {i : Nat} (hi : i < 16) {index : Nat} (k : Nat) (hk : k < 8) (hl : (own, index, RX0, (TX0 k).2.1, (TX0 k).2.2.1, "HlcStore") ∈ hs_nf) (v : Value) (hs : (TX0 k).1 = RX0) (hv : (hc_keyL ad x i)[k]? = some v) (hdg : decode cc pc = .ok (.getfield index, 3))
    (kk : W p l e R s m args below meth c H locs cells slots Q (F0 m (pc + 3) ls (v :: rest))) : W p l e R s m args below meth c H locs cells slots Q (F0 m pc ls (.ref (ad (9 + i)) :: rest)) :=
  va_getN (D := D) (ci := 0) (v := v) (C := RX0) (T := TX0) (N := 8) G.1 G.2.1 G.2.2.1 hin G.2.2.2.1 G.2.2.2.2.1 hP (9 + i) (hc_at_key hi) rfl k hk (va_Nw.use rfl (G.2.2.2.2.2.1 _ hl)) (fun _ h9 => by rw [hs] at h9; exact h9) hv hdg kk
theorem hc_p_keyn (ho : hc_ok ad) (G : hs_C p s m c cc args Ts own D cy) (hin : ∀ w ∈ u_ws RX0 TX0 8, w ∈ Ts) (hP : va_P D vwCl (hc_mem ad cy x) H) (hS : va_S (hc_A ad) H0 H locs) {i : Nat} (hi : i < 16) {index : Nat} (k : Nat) (hk : k < 8) (hl : (own, index, RX0, (TX0 k).2.1, (TX0 k).2.2.1, "HlcStore") ∈ hs_nf) (v : Value) (hs : (TX0 k).1 = RX0) (hfin : (TX0 k).2.2.2 = false) (fty : FieldType) (hd : parseFieldDescriptor (TX0 k).2.2.1 = some fty) (hn : narrow fty v = v) (hfit : fits fty v = true) (hl2 : k < (hc_keyL ad x i).length) (x' : HM) (hx' : (hc_mem ad cy x).set (9 + i) (ad (9 + i), .inr (0, (hc_keyL ad x i).set k v)) = hc_mem ad cy x') (hdg : decode cc pc = .ok (.putfield index, 3))
    (kk : ∀ (H1 : Heap) (locs1 : List Loc), va_P D vwCl (hc_mem ad cy x') H1 → va_S (hc_A ad) H0 H1 locs1 → W p l e R s m args below meth c H1 locs1 cells slots Q (F0 m (pc + 3) ls rest)) : W p l e R s m args below meth c H locs cells slots Q (F0 m pc ls (v :: .ref (ad (9 + i)) :: rest)) :=
  va_putN (D := D) (ci := 0) (v := v) (ty := fty) (C := RX0) (T := TX0) (N := 8) G.1 G.2.1 G.2.2.1 hin tyX0 tyX0_ok nmX0 G.2.2.2.1 G.2.2.2.2.1 hP (hc_D ho cy x) hS (9 + i) (hc_at_key hi) rfl k hk (va_Nw.use rfl (G.2.2.2.2.2.1 _ hl)) (fun _ h9 => by rw [hs] at h9; exact h9) hfin hd hn hfit hl2 hdg (fun H1 locs1 hP1 _ hS1 => kk H1 locs1 (by rw [← hx']; exact hP1) hS1)
theorem hc_g_tx (G : hs_C p s m c cc args Ts own D cy) (hin : ∀ w ∈ u_ws RX2 TX2 9, w ∈ Ts) (hP : va_P D vwCl (hc_mem ad cy x) H) {i : Nat} (hi : i < 8) {index : Nat} (k : Nat) (hk : k < 9) (hl : Cond.fieldLink own index RX2 (TX2 k).2.1 (TX2 k).2.2.1 ∈ Ts) (v : Value) (hs : (TX2 k).1 = RX2) (hv : (hc_txL ad x i)[k]? = some v) (hdg : decode cc pc = .ok (.getfield index, 3))
    (kk : W p l e R s m args below meth c H locs cells slots Q (F0 m (pc + 3) ls (v :: rest))) : W p l e R s m args below meth c H locs cells slots Q (F0 m pc ls (.ref (ad (57 + i)) :: rest)) :=
  va_get (D := D) (ci := 2) (v := v) (C := RX2) (T := TX2) (N := 9) G.1 G.2.1 G.2.2.1 hin G.2.2.2.1 G.2.2.2.2.1 hP (57 + i) (hc_at_tx hi) rfl k hk (G.2.2.1 _ hl) (fun _ h9 => by rw [hs] at h9; exact h9) hv hdg kk
theorem hc_p_tx (ho : hc_ok ad) (G : hs_C p s m c cc args Ts own D cy) (hin : ∀ w ∈ u_ws RX2 TX2 9, w ∈ Ts) (hP : va_P D vwCl (hc_mem ad cy x) H) (hS : va_S (hc_A ad) H0 H locs) {i : Nat} (hi : i < 8) {index : Nat} (k : Nat) (hk : k < 9) (hl : Cond.fieldLink own index RX2 (TX2 k).2.1 (TX2 k).2.2.1 ∈ Ts) (v : Value) (hs : (TX2 k).1 = RX2) (hfin : (TX2 k).2.2.2 = false) (fty : FieldType) (hd : parseFieldDescriptor (TX2 k).2.2.1 = some fty) (hn : narrow fty v = v) (hfit : fits fty v = true) (hl2 : k < (hc_txL ad x i).length) (x' : HM) (hx' : (hc_mem ad cy x).set (57 + i) (ad (57 + i), .inr (2, (hc_txL ad x i).set k v)) = hc_mem ad cy x') (hdg : decode cc pc = .ok (.putfield index, 3))
    (kk : ∀ (H1 : Heap) (locs1 : List Loc), va_P D vwCl (hc_mem ad cy x') H1 → va_S (hc_A ad) H0 H1 locs1 → W p l e R s m args below meth c H1 locs1 cells slots Q (F0 m (pc + 3) ls rest)) : W p l e R s m args below meth c H locs cells slots Q (F0 m pc ls (v :: .ref (ad (57 + i)) :: rest)) :=
  va_put (D := D) (ci := 2) (v := v) (ty := fty) (C := RX2) (T := TX2) (N := 9) G.1 G.2.1 G.2.2.1 hin tyX2 tyX2_ok nmX2 G.2.2.2.1 G.2.2.2.2.1 hP (hc_D ho cy x) hS (57 + i) (hc_at_tx hi) rfl k hk (G.2.2.1 _ hl) (fun _ h9 => by rw [hs] at h9; exact h9) hfin hd hn hfit hl2 hdg (fun H1 locs1 hP1 _ hS1 => kk H1 locs1 (by rw [← hx']; exact hP1) hS1)
theorem hc_g_txn (G : hs_C p s m c cc args Ts own D cy) (hin : ∀ w ∈ u_ws RX2 TX2 9, w ∈ Ts) (hP : va_P D vwCl (hc_mem ad cy x) H) {i : Nat} (hi : i < 8) {index : Nat} (k : Nat) (hk : k < 9) (hl : (own, index, RX2, (TX2 k).2.1, (TX2 k).2.2.1, "HlcStore") ∈ hs_nf) (v : Value) (hs : (TX2 k).1 = RX2) (hv : (hc_txL ad x i)[k]? = some v) (hdg : decode cc pc = .ok (.getfield index, 3))
    (kk : W p l e R s m args below meth c H locs cells slots Q (F0 m (pc + 3) ls (v :: rest))) : W p l e R s m args below meth c H locs cells slots Q (F0 m pc ls (.ref (ad (57 + i)) :: rest)) :=
  va_getN (D := D) (ci := 2) (v := v) (C := RX2) (T := TX2) (N := 9) G.1 G.2.1 G.2.2.1 hin G.2.2.2.1 G.2.2.2.2.1 hP (57 + i) (hc_at_tx hi) rfl k hk (va_Nw.use rfl (G.2.2.2.2.2.1 _ hl)) (fun _ h9 => by rw [hs] at h9; exact h9) hv hdg kk
theorem hc_p_txn (ho : hc_ok ad) (G : hs_C p s m c cc args Ts own D cy) (hin : ∀ w ∈ u_ws RX2 TX2 9, w ∈ Ts) (hP : va_P D vwCl (hc_mem ad cy x) H) (hS : va_S (hc_A ad) H0 H locs) {i : Nat} (hi : i < 8) {index : Nat} (k : Nat) (hk : k < 9) (hl : (own, index, RX2, (TX2 k).2.1, (TX2 k).2.2.1, "HlcStore") ∈ hs_nf) (v : Value) (hs : (TX2 k).1 = RX2) (hfin : (TX2 k).2.2.2 = false) (fty : FieldType) (hd : parseFieldDescriptor (TX2 k).2.2.1 = some fty) (hn : narrow fty v = v) (hfit : fits fty v = true) (hl2 : k < (hc_txL ad x i).length) (x' : HM) (hx' : (hc_mem ad cy x).set (57 + i) (ad (57 + i), .inr (2, (hc_txL ad x i).set k v)) = hc_mem ad cy x') (hdg : decode cc pc = .ok (.putfield index, 3))
    (kk : ∀ (H1 : Heap) (locs1 : List Loc), va_P D vwCl (hc_mem ad cy x') H1 → va_S (hc_A ad) H0 H1 locs1 → W p l e R s m args below meth c H1 locs1 cells slots Q (F0 m (pc + 3) ls rest)) : W p l e R s m args below meth c H locs cells slots Q (F0 m pc ls (v :: .ref (ad (57 + i)) :: rest)) :=
  va_putN (D := D) (ci := 2) (v := v) (ty := fty) (C := RX2) (T := TX2) (N := 9) G.1 G.2.1 G.2.2.1 hin tyX2 tyX2_ok nmX2 G.2.2.2.1 G.2.2.2.2.1 hP (hc_D ho cy x) hS (57 + i) (hc_at_tx hi) rfl k hk (va_Nw.use rfl (G.2.2.2.2.2.1 _ hl)) (fun _ h9 => by rw [hs] at h9; exact h9) hfin hd hn hfit hl2 hdg (fun H1 locs1 hP1 _ hS1 => kk H1 locs1 (by rw [← hx']; exact hP1) hS1)
theorem hc_g_store (G : hs_C p s m c cc args Ts own D cy) (hin : ∀ w ∈ u_ws RX3 TX3 6, w ∈ Ts) (hP : va_P D vwCl (hc_mem ad cy x) H) {index : Nat} (k : Nat) (hk : k < 6) (hl : Cond.fieldLink own index RX3 (TX3 k).2.1 (TX3 k).2.2.1 ∈ Ts) (v : Value) (hs : (TX3 k).1 = RX3) (hv : (hc_storeL ad x)[k]? = some v) (hdg : decode cc pc = .ok (.getfield index, 3))
    (kk : W p l e R s m args below meth c H locs cells slots Q (F0 m (pc + 3) ls (v :: rest))) : W p l e R s m args below meth c H locs cells slots Q (F0 m pc ls (.ref (ad 0) :: rest)) :=
  va_get (D := D) (ci := 3) (v := v) (C := RX3) (T := TX3) (N := 6) G.1 G.2.1 G.2.2.1 hin G.2.2.2.1 G.2.2.2.2.1 hP 0 (hc_at_top (by decide)) rfl k hk (G.2.2.1 _ hl) (fun _ h9 => by rw [hs] at h9; exact h9) hv hdg kk
theorem hc_p_store (ho : hc_ok ad) (G : hs_C p s m c cc args Ts own D cy) (hin : ∀ w ∈ u_ws RX3 TX3 6, w ∈ Ts) (hP : va_P D vwCl (hc_mem ad cy x) H) (hS : va_S (hc_A ad) H0 H locs) {index : Nat} (k : Nat) (hk : k < 6) (hl : Cond.fieldLink own index RX3 (TX3 k).2.1 (TX3 k).2.2.1 ∈ Ts) (v : Value) (hs : (TX3 k).1 = RX3) (hfin : (TX3 k).2.2.2 = false) (fty : FieldType) (hd : parseFieldDescriptor (TX3 k).2.2.1 = some fty) (hn : narrow fty v = v) (hfit : fits fty v = true) (hl2 : k < (hc_storeL ad x).length) (x' : HM) (hx' : (hc_mem ad cy x).set 0 (ad 0, .inr (3, (hc_storeL ad x).set k v)) = hc_mem ad cy x') (hdg : decode cc pc = .ok (.putfield index, 3))
    (kk : ∀ (H1 : Heap) (locs1 : List Loc), va_P D vwCl (hc_mem ad cy x') H1 → va_S (hc_A ad) H0 H1 locs1 → W p l e R s m args below meth c H1 locs1 cells slots Q (F0 m (pc + 3) ls rest)) : W p l e R s m args below meth c H locs cells slots Q (F0 m pc ls (v :: .ref (ad 0) :: rest)) :=
  va_put (D := D) (ci := 3) (v := v) (ty := fty) (C := RX3) (T := TX3) (N := 6) G.1 G.2.1 G.2.2.1 hin tyX3 tyX3_ok nmX3 G.2.2.2.1 G.2.2.2.2.1 hP (hc_D ho cy x) hS 0 (hc_at_top (by decide)) rfl k hk (G.2.2.1 _ hl) (fun _ h9 => by rw [hs] at h9; exact h9) hfin hd hn hfit hl2 hdg (fun H1 locs1 hP1 _ hS1 => kk H1 locs1 (by rw [← hx']; exact hP1) hS1)
end HSG
end
section
/-! ===== a field is set: the picture of the state with that part changed ===== -/
theorem hc_s_rd {ad : Nat → Nat} {cy : Nat → ClassId} {x : HM} {i : Nat} {v : Int32} (hi : i < 4) : (hc_mem ad cy x).set (5 + i) (ad (5 + i), .inr (1, (hc_nodeL x i).set 0 (.int (v)))) = hc_mem ad cy (x.u_rd i v) :=
  hc_set (5 + i) (by rw [hc_c_node hi]; show (Sum.inr (1, [.int (va_up x.rd i v i), .long (x.ck i)]) : va_E) = _; rw [va_up_self]; rfl)
    (fun _ _ _ => rfl) (fun j h => by show ([.int (va_up x.rd i v j), .long (x.ck j)] : List Value) = _; rw [va_up_ne _ _ (by omega)]; rfl) (fun _ _ => rfl) (fun _ _ => rfl) (fun _ _ => rfl) (fun _ _ => rfl)
theorem hc_s_ck {ad : Nat → Nat} {cy : Nat → ClassId} {x : HM} {i : Nat} {v : Int64} (hi : i < 4) : (hc_mem ad cy x).set (5 + i) (ad (5 + i), .inr (1, (hc_nodeL x i).set 1 (.long (v)))) = hc_mem ad cy (x.u_ck i v) :=
  hc_set (5 + i) (by rw [hc_c_node hi]; show (Sum.inr (1, [.int (x.rd i), .long (va_up x.ck i v i)]) : va_E) = _; rw [va_up_self]; rfl)
    (fun _ _ _ => rfl) (fun j h => by show ([.int (x.rd j), .long (va_up x.ck i v j)] : List Value) = _; rw [va_up_ne _ _ (by omega)]; rfl) (fun _ _ => rfl) (fun _ _ => rfl) (fun _ _ => rfl) (fun _ _ => rfl)
theorem hc_s_ph {ad : Nat → Nat} {cy : Nat → ClassId} {x : HM} {i : Nat} {v : Int32} (hi : i < 8) : (hc_mem ad cy x).set (57 + i) (ad (57 + i), .inr (2, (hc_txL ad x i).set 0 (.int (v)))) = hc_mem ad cy (x.u_ph i v) :=
  hc_set (57 + i) (by rw [hc_c_tx]; show (Sum.inr (2, [.int (va_up x.ph i v i), .ref (ad (5 + (x.gt i))), .int (x.bt i), .int (nI (x.bi i)), .long (x.rs i), .long (x.ws i), .long (x.lm i), .int (hs_mask (x.se i)), .int (x.hu i)]) : va_E) = _; rw [va_up_self]; rfl)
    (fun _ _ _ => rfl) (fun _ _ => rfl) (fun _ _ => rfl) (fun _ _ => rfl) (fun _ _ => rfl) (fun j h => by show ([.int (va_up x.ph i v j), .ref (ad (5 + (x.gt j))), .int (x.bt j), .int (nI (x.bi j)), .long (x.rs j), .long (x.ws j), .long (x.lm j), .int (hs_mask (x.se j)), .int (x.hu j)] : List Value) = _; rw [va_up_ne _ _ (by omega)]; rfl)
theorem hc_s_gt {ad : Nat → Nat} {cy : Nat → ClassId} {x : HM} {i : Nat} {v : Nat} (hi : i < 8) : (hc_mem ad cy x).set (57 + i) (ad (57 + i), .inr (2, (hc_txL ad x i).set 1 (.ref (ad (5 + v))))) = hc_mem ad cy (x.u_gt i v) :=
  hc_set (57 + i) (by rw [hc_c_tx]; show (Sum.inr (2, [.int (x.ph i), .ref (ad (5 + (va_up x.gt i v i))), .int (x.bt i), .int (nI (x.bi i)), .long (x.rs i), .long (x.ws i), .long (x.lm i), .int (hs_mask (x.se i)), .int (x.hu i)]) : va_E) = _; rw [va_up_self]; rfl)
    (fun _ _ _ => rfl) (fun _ _ => rfl) (fun _ _ => rfl) (fun _ _ => rfl) (fun _ _ => rfl) (fun j h => by show ([.int (x.ph j), .ref (ad (5 + (va_up x.gt i v j))), .int (x.bt j), .int (nI (x.bi j)), .long (x.rs j), .long (x.ws j), .long (x.lm j), .int (hs_mask (x.se j)), .int (x.hu j)] : List Value) = _; rw [va_up_ne _ _ (by omega)]; rfl)
theorem hc_s_bt {ad : Nat → Nat} {cy : Nat → ClassId} {x : HM} {i : Nat} {v : Int32} (hi : i < 8) : (hc_mem ad cy x).set (57 + i) (ad (57 + i), .inr (2, (hc_txL ad x i).set 2 (.int (v)))) = hc_mem ad cy (x.u_bt i v) :=
  hc_set (57 + i) (by rw [hc_c_tx]; show (Sum.inr (2, [.int (x.ph i), .ref (ad (5 + (x.gt i))), .int (va_up x.bt i v i), .int (nI (x.bi i)), .long (x.rs i), .long (x.ws i), .long (x.lm i), .int (hs_mask (x.se i)), .int (x.hu i)]) : va_E) = _; rw [va_up_self]; rfl)
    (fun _ _ _ => rfl) (fun _ _ => rfl) (fun _ _ => rfl) (fun _ _ => rfl) (fun _ _ => rfl) (fun j h => by show ([.int (x.ph j), .ref (ad (5 + (x.gt j))), .int (va_up x.bt i v j), .int (nI (x.bi j)), .long (x.rs j), .long (x.ws j), .long (x.lm j), .int (hs_mask (x.se j)), .int (x.hu j)] : List Value) = _; rw [va_up_ne _ _ (by omega)]; rfl)
theorem hc_s_bi {ad : Nat → Nat} {cy : Nat → ClassId} {x : HM} {i : Nat} {v : Nat} (hi : i < 8) : (hc_mem ad cy x).set (57 + i) (ad (57 + i), .inr (2, (hc_txL ad x i).set 3 (.int (nI v)))) = hc_mem ad cy (x.u_bi i v) :=
  hc_set (57 + i) (by rw [hc_c_tx]; show (Sum.inr (2, [.int (x.ph i), .ref (ad (5 + (x.gt i))), .int (x.bt i), .int (nI (va_up x.bi i v i)), .long (x.rs i), .long (x.ws i), .long (x.lm i), .int (hs_mask (x.se i)), .int (x.hu i)]) : va_E) = _; rw [va_up_self]; rfl)
    (fun _ _ _ => rfl) (fun _ _ => rfl) (fun _ _ => rfl) (fun _ _ => rfl) (fun _ _ => rfl) (fun j h => by show ([.int (x.ph j), .ref (ad (5 + (x.gt j))), .int (x.bt j), .int (nI (va_up x.bi i v j)), .long (x.rs j), .long (x.ws j), .long (x.lm j), .int (hs_mask (x.se j)), .int (x.hu j)] : List Value) = _; rw [va_up_ne _ _ (by omega)]; rfl)
theorem hc_s_rs {ad : Nat → Nat} {cy : Nat → ClassId} {x : HM} {i : Nat} {v : Int64} (hi : i < 8) : (hc_mem ad cy x).set (57 + i) (ad (57 + i), .inr (2, (hc_txL ad x i).set 4 (.long (v)))) = hc_mem ad cy (x.u_rs i v) :=
  hc_set (57 + i) (by rw [hc_c_tx]; show (Sum.inr (2, [.int (x.ph i), .ref (ad (5 + (x.gt i))), .int (x.bt i), .int (nI (x.bi i)), .long (va_up x.rs i v i), .long (x.ws i), .long (x.lm i), .int (hs_mask (x.se i)), .int (x.hu i)]) : va_E) = _; rw [va_up_self]; rfl)
    (fun _ _ _ => rfl) (fun _ _ => rfl) (fun _ _ => rfl) (fun _ _ => rfl) (fun _ _ => rfl) (fun j h => by show ([.int (x.ph j), .ref (ad (5 + (x.gt j))), .int (x.bt j), .int (nI (x.bi j)), .long (va_up x.rs i v j), .long (x.ws j), .long (x.lm j), .int (hs_mask (x.se j)), .int (x.hu j)] : List Value) = _; rw [va_up_ne _ _ (by omega)]; rfl)
theorem hc_s_ws {ad : Nat → Nat} {cy : Nat → ClassId} {x : HM} {i : Nat} {v : Int64} (hi : i < 8) : (hc_mem ad cy x).set (57 + i) (ad (57 + i), .inr (2, (hc_txL ad x i).set 5 (.long (v)))) = hc_mem ad cy (x.u_ws i v) :=
  hc_set (57 + i) (by rw [hc_c_tx]; show (Sum.inr (2, [.int (x.ph i), .ref (ad (5 + (x.gt i))), .int (x.bt i), .int (nI (x.bi i)), .long (x.rs i), .long (va_up x.ws i v i), .long (x.lm i), .int (hs_mask (x.se i)), .int (x.hu i)]) : va_E) = _; rw [va_up_self]; rfl)
    (fun _ _ _ => rfl) (fun _ _ => rfl) (fun _ _ => rfl) (fun _ _ => rfl) (fun _ _ => rfl) (fun j h => by show ([.int (x.ph j), .ref (ad (5 + (x.gt j))), .int (x.bt j), .int (nI (x.bi j)), .long (x.rs j), .long (va_up x.ws i v j), .long (x.lm j), .int (hs_mask (x.se j)), .int (x.hu j)] : List Value) = _; rw [va_up_ne _ _ (by omega)]; rfl)
theorem hc_s_lm {ad : Nat → Nat} {cy : Nat → ClassId} {x : HM} {i : Nat} {v : Int64} (hi : i < 8) : (hc_mem ad cy x).set (57 + i) (ad (57 + i), .inr (2, (hc_txL ad x i).set 6 (.long (v)))) = hc_mem ad cy (x.u_lm i v) :=
  hc_set (57 + i) (by rw [hc_c_tx]; show (Sum.inr (2, [.int (x.ph i), .ref (ad (5 + (x.gt i))), .int (x.bt i), .int (nI (x.bi i)), .long (x.rs i), .long (x.ws i), .long (va_up x.lm i v i), .int (hs_mask (x.se i)), .int (x.hu i)]) : va_E) = _; rw [va_up_self]; rfl)
    (fun _ _ _ => rfl) (fun _ _ => rfl) (fun _ _ => rfl) (fun _ _ => rfl) (fun _ _ => rfl) (fun j h => by show ([.int (x.ph j), .ref (ad (5 + (x.gt j))), .int (x.bt j), .int (nI (x.bi j)), .long (x.rs j), .long (x.ws j), .long (va_up x.lm i v j), .int (hs_mask (x.se j)), .int (x.hu j)] : List Value) = _; rw [va_up_ne _ _ (by omega)]; rfl)
theorem hc_s_se {ad : Nat → Nat} {cy : Nat → ClassId} {x : HM} {i : Nat} {v : Nat → Bool} (hi : i < 8) : (hc_mem ad cy x).set (57 + i) (ad (57 + i), .inr (2, (hc_txL ad x i).set 7 (.int (hs_mask v)))) = hc_mem ad cy (x.u_se i v) :=
  hc_set (57 + i) (by rw [hc_c_tx]; show (Sum.inr (2, [.int (x.ph i), .ref (ad (5 + (x.gt i))), .int (x.bt i), .int (nI (x.bi i)), .long (x.rs i), .long (x.ws i), .long (x.lm i), .int (hs_mask (va_up x.se i v i)), .int (x.hu i)]) : va_E) = _; rw [va_up_self]; rfl)
    (fun _ _ _ => rfl) (fun _ _ => rfl) (fun _ _ => rfl) (fun _ _ => rfl) (fun _ _ => rfl) (fun j h => by show ([.int (x.ph j), .ref (ad (5 + (x.gt j))), .int (x.bt j), .int (nI (x.bi j)), .long (x.rs j), .long (x.ws j), .long (x.lm j), .int (hs_mask (va_up x.se i v j)), .int (x.hu j)] : List Value) = _; rw [va_up_ne _ _ (by omega)]; rfl)
theorem hc_s_hu {ad : Nat → Nat} {cy : Nat → ClassId} {x : HM} {i : Nat} {v : Int32} (hi : i < 8) : (hc_mem ad cy x).set (57 + i) (ad (57 + i), .inr (2, (hc_txL ad x i).set 8 (.int (v)))) = hc_mem ad cy (x.u_hu i v) :=
  hc_set (57 + i) (by rw [hc_c_tx]; show (Sum.inr (2, [.int (x.ph i), .ref (ad (5 + (x.gt i))), .int (x.bt i), .int (nI (x.bi i)), .long (x.rs i), .long (x.ws i), .long (x.lm i), .int (hs_mask (x.se i)), .int (va_up x.hu i v i)]) : va_E) = _; rw [va_up_self]; rfl)
    (fun _ _ _ => rfl) (fun _ _ => rfl) (fun _ _ => rfl) (fun _ _ => rfl) (fun _ _ => rfl) (fun j h => by show ([.int (x.ph j), .ref (ad (5 + (x.gt j))), .int (x.bt j), .int (nI (x.bi j)), .long (x.rs j), .long (x.ws j), .long (x.lm j), .int (hs_mask (x.se j)), .int (va_up x.hu i v j)] : List Value) = _; rw [va_up_ne _ _ (by omega)]; rfl)
theorem hc_s_lr {ad : Nat → Nat} {cy : Nat → ClassId} {x : HM} {i : Nat} {v : Int64} (hi : i < 16) : (hc_mem ad cy x).set (9 + i) (ad (9 + i), .inr (0, (hc_keyL ad x i).set 5 (.long (v)))) = hc_mem ad cy (x.u_lr i v) :=
  hc_set (9 + i) (by rw [hc_c_key hi]; show (Sum.inr (0, [.int (hs_bit i), .ref (ad (5 + i % 4)), .ref (ad (25 + i)), .ref (ad (41 + i)), .int (nI (x.vk i).length), .long (va_up x.lr i v i), va_rf (Option.map (fun t => ad (57 + t)) (x.hd i)), .int (x.pl i)]) : va_E) = _; rw [va_up_self]; rfl)
    (fun _ _ _ => rfl) (fun _ _ => rfl) (fun j h => by show ([.int (hs_bit j), .ref (ad (5 + j % 4)), .ref (ad (25 + j)), .ref (ad (41 + j)), .int (nI (x.vk j).length), .long (va_up x.lr i v j), va_rf (Option.map (fun t => ad (57 + t)) (x.hd j)), .int (x.pl j)] : List Value) = _; rw [va_up_ne _ _ (by omega)]; rfl) (fun _ _ => rfl) (fun _ _ => rfl) (fun _ _ => rfl)
theorem hc_s_hd {ad : Nat → Nat} {cy : Nat → ClassId} {x : HM} {i : Nat} {v : Option Nat} (hi : i < 16) : (hc_mem ad cy x).set (9 + i) (ad (9 + i), .inr (0, (hc_keyL ad x i).set 6 (va_rf (Option.map (fun t => ad (57 + t)) v)))) = hc_mem ad cy (x.u_hd i v) :=
  hc_set (9 + i) (by rw [hc_c_key hi]; show (Sum.inr (0, [.int (hs_bit i), .ref (ad (5 + i % 4)), .ref (ad (25 + i)), .ref (ad (41 + i)), .int (nI (x.vk i).length), .long (x.lr i), va_rf (Option.map (fun t => ad (57 + t)) (va_up x.hd i v i)), .int (x.pl i)]) : va_E) = _; rw [va_up_self]; rfl)
    (fun _ _ _ => rfl) (fun _ _ => rfl) (fun j h => by show ([.int (hs_bit j), .ref (ad (5 + j % 4)), .ref (ad (25 + j)), .ref (ad (41 + j)), .int (nI (x.vk j).length), .long (x.lr j), va_rf (Option.map (fun t => ad (57 + t)) (va_up x.hd i v j)), .int (x.pl j)] : List Value) = _; rw [va_up_ne _ _ (by omega)]; rfl) (fun _ _ => rfl) (fun _ _ => rfl) (fun _ _ => rfl)
theorem hc_s_pl {ad : Nat → Nat} {cy : Nat → ClassId} {x : HM} {i : Nat} {v : Int32} (hi : i < 16) : (hc_mem ad cy x).set (9 + i) (ad (9 + i), .inr (0, (hc_keyL ad x i).set 7 (.int (v)))) = hc_mem ad cy (x.u_pl i v) :=
  hc_set (9 + i) (by rw [hc_c_key hi]; show (Sum.inr (0, [.int (hs_bit i), .ref (ad (5 + i % 4)), .ref (ad (25 + i)), .ref (ad (41 + i)), .int (nI (x.vk i).length), .long (x.lr i), va_rf (Option.map (fun t => ad (57 + t)) (x.hd i)), .int (va_up x.pl i v i)]) : va_E) = _; rw [va_up_self]; rfl)
    (fun _ _ _ => rfl) (fun _ _ => rfl) (fun j h => by show ([.int (hs_bit j), .ref (ad (5 + j % 4)), .ref (ad (25 + j)), .ref (ad (41 + j)), .int (nI (x.vk j).length), .long (x.lr j), va_rf (Option.map (fun t => ad (57 + t)) (x.hd j)), .int (va_up x.pl i v j)] : List Value) = _; rw [va_up_ne _ _ (by omega)]; rfl) (fun _ _ => rfl) (fun _ _ => rfl) (fun _ _ => rfl)
/-! ===== indices, compares of longs with the branch behind them ===== -/
theorem hs_in {i : Int32} {k n : Nat} (h : i.toNatClampNeg = k) (h2 : ¬ i < 0 ∧ k < n) : vp_in i n := by
  rintro (q | q)
  · exact h2.1 q
  · rw [h] at q; omega
theorem hs_inN {k n : Nat} (h : k < n) (hn : n < 2 ^ 31) : ¬ nI k < 0 ∧ k < n := ⟨nI_pos (by omega), h⟩
theorem hs_cmp_pos {x y : Int64} : 0 < lg_cmp x y ↔ y < x := by
  unfold lg_cmp
  by_cases h : y < x
  · simp [h]
  · by_cases e : x = y <;> simp [h, e]
theorem hs_cmp_zero {x y : Int64} : lg_cmp x y = 0 ↔ x = y := by
  unfold lg_cmp
  by_cases h : y < x
  · have : ¬ x = y := fun e => by subst e; exact absurd h (by simp [Int64.lt_irrefl])
    simp [h, this]
  · by_cases e : x = y <;> simp [h, e]
section HSL
variable {p : Program} {l : Launch} {e : Env} {R : Room} {s : State} {m : MethodId} {args : Array Value} {below : List Frame} {meth : Method} {c : Code} {H : Heap} {locs : List Loc} {cells slots : Nat} {Q : State → Prop}
variable {cc : ByteArray} {pc tgt : Nat} {ls : Array Slot} {rest : List Value} {x y : Int64} {off : Int}
theorem hs_lle (hx : p.tables.exec = Jvm.exec) (hb : c.code = cc) (d1 : decode cc pc = .ok (.lcmp, 1)) (d2 : decode cc (pc + 1) = .ok (.ifCond .le off, 3)) (ht : ((pc + 1 : Nat) : Int) + off = (tgt : Int))
    (kt : ¬ y < x → W p l e R s m args below meth c H locs cells slots Q (F0 m tgt ls rest)) (kf : y < x → W p l e R s m args below meth c H locs cells slots Q (F0 m (pc + 1 + 3) ls rest)) : W p l e R s m args below meth c H locs cells slots Q (F0 m pc ls (.long y :: .long x :: rest)) :=
  W.lcmp hx hb d1 (lv_if_le hx hb d2 ht (fun h => kt (fun q => Int32.not_le.mpr (hs_cmp_pos.mpr q) h)) (fun h => kf (hs_cmp_pos.mp (Int32.not_le.mp h))))
theorem hs_lgt (hx : p.tables.exec = Jvm.exec) (hb : c.code = cc) (d1 : decode cc pc = .ok (.lcmp, 1)) (d2 : decode cc (pc + 1) = .ok (.ifCond .gt off, 3)) (ht : ((pc + 1 : Nat) : Int) + off = (tgt : Int))
    (kt : y < x → W p l e R s m args below meth c H locs cells slots Q (F0 m tgt ls rest)) (kf : ¬ y < x → W p l e R s m args below meth c H locs cells slots Q (F0 m (pc + 1 + 3) ls rest)) : W p l e R s m args below meth c H locs cells slots Q (F0 m pc ls (.long y :: .long x :: rest)) :=
  W.lcmp hx hb d1 (lv_if_gt hx hb d2 ht (fun h => kt (hs_cmp_pos.mp h)) (fun h => kf (fun q => h (hs_cmp_pos.mpr q))))
theorem hs_leq (hx : p.tables.exec = Jvm.exec) (hb : c.code = cc) (d1 : decode cc pc = .ok (.lcmp, 1)) (d2 : decode cc (pc + 1) = .ok (.ifCond .eq off, 3)) (ht : ((pc + 1 : Nat) : Int) + off = (tgt : Int))
    (kt : x = y → W p l e R s m args below meth c H locs cells slots Q (F0 m tgt ls rest)) (kf : ¬ x = y → W p l e R s m args below meth c H locs cells slots Q (F0 m (pc + 1 + 3) ls rest)) : W p l e R s m args below meth c H locs cells slots Q (F0 m pc ls (.long y :: .long x :: rest)) :=
  W.lcmp hx hb d1 (lv_if_eq hx hb d2 ht (fun h => kt (hs_cmp_zero.mp h)) (fun h => kf (fun q => h (hs_cmp_zero.mpr q))))
theorem hs_lne (hx : p.tables.exec = Jvm.exec) (hb : c.code = cc) (d1 : decode cc pc = .ok (.lcmp, 1)) (d2 : decode cc (pc + 1) = .ok (.ifCond .ne off, 3)) (ht : ((pc + 1 : Nat) : Int) + off = (tgt : Int))
    (kt : ¬ x = y → W p l e R s m args below meth c H locs cells slots Q (F0 m tgt ls rest)) (kf : x = y → W p l e R s m args below meth c H locs cells slots Q (F0 m (pc + 1 + 3) ls rest)) : W p l e R s m args below meth c H locs cells slots Q (F0 m pc ls (.long y :: .long x :: rest)) :=
  W.lcmp hx hb d1 (lv_if_ne hx hb d2 ht (fun h => kt (fun q => h (hs_cmp_zero.mpr q))) (fun h => kf (hs_cmp_zero.mp h)))
theorem hs_lge (hx : p.tables.exec = Jvm.exec) (hb : c.code = cc) (d1 : decode cc pc = .ok (.lcmp, 1)) (d2 : decode cc (pc + 1) = .ok (.ifCond .ge off, 3)) (ht : ((pc + 1 : Nat) : Int) + off = (tgt : Int))
    (kt : ¬ x < y → W p l e R s m args below meth c H locs cells slots Q (F0 m tgt ls rest)) (kf : x < y → W p l e R s m args below meth c H locs cells slots Q (F0 m (pc + 1 + 3) ls rest)) : W p l e R s m args below meth c H locs cells slots Q (F0 m pc ls (.long y :: .long x :: rest)) := by
  have key : 0 ≤ lg_cmp x y ↔ ¬ x < y := by
    unfold lg_cmp
    by_cases h : y < x
    · simp only [h, if_true]
      exact ⟨fun _ q => Int64.lt_irrefl (Int64.lt_trans h q), fun _ => by decide⟩
    · by_cases e : x = y
      · subst e; simp [Int64.lt_irrefl]
      · simp only [h, e, if_false]
        exact ⟨fun q => absurd q (by decide), fun q => absurd (Int64.le_antisymm (Int64.not_lt.mp h) (Int64.not_lt.mp q)) e⟩
  exact W.lcmp hx hb d1 (lv_if_ge hx hb d2 ht (fun h => kt (key.mp h)) (fun h => kf (Decidable.byContradiction fun q => h (key.mpr q))))
end HSL
end
section
/-! ===== what the calls do, as functions of the state (the document's words, in the order of the class) ===== -/
def hs_tk (r : Int32) (c s : Int64) : Int64 := if (Int32.toInt64 r * 1048576) < ((if s < c then c else s) + 1) then ((if s < c then c else s) + 1) else (Int32.toInt64 r * 1048576)
/-- node i takes in the stamp s -/
def HM.tk (x : HM) (i : Nat) (s : Int64) : HM := x.u_ck i (hs_tk (x.rd i) (x.ck i) s)
/-- an event at node i -/
def HM.ev (x : HM) (i : Nat) : HM := x.tk i (x.ck i)
/-- the code of a slot's state -/
def HM.code (x : HM) (t : Nat) : Int32 := if x.ph t = 1 then 0 else if x.ph t = 2 then -8 else if x.ph t = 3 then -6 else -4
/-- the stopping code, and the state behind it -/
def HM.stc (x : HM) (t : Nat) : Int32 := if x.code t = 0 ∧ ¬ x.hu t = 0 then 1 else x.code t
def HM.stp (x : HM) (t : Nat) : HM := if x.code t = 0 ∧ ¬ x.hu t = 0 then x.u_hu t 0 else x
/-- the write stamp of t is pushed above s -/
def HM.pu (x : HM) (t : Nat) (s : Int64) : HM := x.u_ws t (if x.ws t ≤ s then s + 1 else x.ws t)
/-- the part of a restart that is in the transaction itself -/
def HM.mv1 (x : HM) (t : Nat) : HM := x.u_se t (fun _ => false)
def HM.mv2 (x : HM) (t : Nat) (a : Int64) : HM := (x.mv1 t).u_ws t (if a < (x.mv1 t).ws t then (x.mv1 t).ws t else a)
def HM.mv3 (x : HM) (t : Nat) (a : Int64) : HM := (x.mv2 t a).u_rs t ((x.mv2 t a).ws t)
def HM.mv (x : HM) (t : Nat) (a : Int64) : HM := (x.mv3 t a).u_lm t (if (x.mv3 t a).rs t < (x.mv3 t a).lm t then (x.mv3 t a).lm t else (x.mv3 t a).rs t)
/-- the intents of t on keys below n are gone -/
def HM.clr (x : HM) (t n : Nat) : HM := x.s_hd (fun k => if k < n ∧ x.hd k = some t then none else x.hd k)
def HM.re (x : HM) (t : Nat) (a : Int64) : HM := (x.clr t 16).mv t a
/-- the intent of u on key k becomes a version, or nothing -/
def HM.add (x : HM) (k : Nat) (s : Int64) (v : Int32) : HM := x.s_vs (x.vs ++ [(k, s, v)])
def HM.stl (x : HM) (k u : Nat) : HM := (if x.ph u = 2 then x.add k (x.ws u) (x.pl k) else x).u_hd k none
def HM.sil (x : HM) (u : Nat) : HM := if x.ph u = 1 ∧ 40 < x.rd (x.gt u) - x.bt u then x.u_ph u 3 else x
/-- key k with an intent of u is looked up -/
def HM.lk1 (x : HM) (k u : Nat) : HM := x.tk (x.gt u) (x.ck (k % 4))
def HM.lk2 (x : HM) (k u : Nat) : HM := (x.lk1 k u).tk (k % 4) ((x.lk1 k u).ck (x.gt u))
def HM.lk3 (x : HM) (k u : Nat) : HM := (x.lk2 k u).sil u
def HM.lk (x : HM) (k u : Nat) : HM := if (x.lk3 k u).ph u = 1 then x.lk3 k u else (x.lk3 k u).stl k u
def HM.look (x : HM) (t k : Nat) : HM := match x.hd k with
  | none => x
  | some u => if u = t then x else x.lk k u
/-- who stands in the way -/
def HM.lkU (x : HM) (t k : Nat) : Option Nat := match x.hd k with
  | none => none
  | some u => if u = t then none else if (x.lk3 k u).ph u = 1 then some u else none
/-- the version with the greatest stamp above a and not above u -/
def hs_fb (a u : Int64) (acc : Option (Int64 × Int32)) (v : Int64 × Int32) : Option (Int64 × Int32) := if (match acc with | none => a | some w => w.1) < v.1 ∧ v.1 ≤ u then some v else acc
def hs_best (a u : Int64) (l : List (Int64 × Int32)) : Option (Int64 × Int32) := l.foldl (hs_fb a u) none
def hs_fl (f : Nat → Int64) (a : Int64) (o : Option Nat) : Int64 := match o with
  | none => a
  | some j => f j
def hs_bi (f : Nat → Int64) (a u : Int64) : Nat → Option Nat
  | 0 => none
  | n + 1 => if hs_fl f a (hs_bi f a u n) < f n ∧ f n ≤ u then some n else hs_bi f a u n
def hs_ix (o : Option Nat) : Int32 := match o with
  | none => -1
  | some j => nI j
def hs_gs (o : Option (Int64 × Int32)) : Int64 := match o with
  | none => -1
  | some v => v.1
def hs_gv (o : Option (Int64 × Int32)) : Int32 := match o with
  | none => 0
  | some v => v.2
/-- a transaction begins in slot t at node g -/
def HM.beg (x : HM) (t g b : Nat) : HM := ((((((((x.u_ph t 1).u_gt t g).u_bt t (x.rd g)).u_bi t b).u_rs t (x.ck g)).u_ws t (x.ck g)).u_lm t (((x.ck g / 1048576) + 10) * 1048576 + 1048575)).u_se t (fun _ => false)).u_hu t 0
/-! small laws of these -/
theorem hc_hdS {ad : Nat → Nat} {x : HM} {k u : Nat} (h : x.hd k = some u) : (hc_keyL ad x k)[6]? = some (.ref (ad (57 + u))) := by
  show some (va_rf (Option.map (fun t => ad (57 + t)) (x.hd k))) = _
  rw [h]; rfl
theorem hc_hdN {ad : Nat → Nat} {x : HM} {k : Nat} (h : x.hd k = none) : (hc_keyL ad x k)[6]? = some .null := by
  show some (va_rf (Option.map (fun t => ad (57 + t)) (x.hd k))) = _
  rw [h]; rfl
theorem hs_pu {w s : Int64} (h : s < 9223372036854775807) : (if s + 1 < w then w else s + 1) = (if w ≤ s then s + 1 else w) := by
  have h1 : (s + 1).toInt = s.toInt + 1 := by
    have h2 := Int64.lt_iff_toInt_lt.mp h
    have h3 : (9223372036854775807 : Int64).toInt = 9223372036854775807 := by decide
    have h4 := Int64.le_toInt s
    rw [Int64.toInt_add]
    rw [h3] at h2
    have h5 : (1 : Int64).toInt = 1 := by decide
    rw [h5]
    exact Int.bmod_eq_of_le (by omega) (by omega)
  by_cases a : w ≤ s
  · have : ¬ s + 1 < w := by rw [Int64.lt_iff_toInt_lt, h1]; have := Int64.le_iff_toInt_le.mp a; omega
    simp [a, this]
  · by_cases b : s + 1 < w
    · simp [a, b]
    · have : s + 1 = w := by
        apply Int64.toInt_inj.mp
        rw [Int64.lt_iff_toInt_lt, h1] at b
        rw [Int64.le_iff_toInt_le] at a
        rw [h1]; omega
      simp [a, this]
theorem hs_out {z : Int32} (h1 : ¬ z = 1) (h2 : ¬ z = 2) (h3 : ¬ z = 3) : z.toInt < 1 ∨ 3 < z.toInt := by
  have e1 : ¬ z.toInt = 1 := fun q => h1 (Int32.toInt_inj.mp q)
  have e2 : ¬ z.toInt = 2 := fun q => h2 (Int32.toInt_inj.mp q)
  have e3 : ¬ z.toInt = 3 := fun q => h3 (Int32.toInt_inj.mp q)
  omega
theorem hs_mask_0 : hs_mask (fun _ => false) = 0 := by decide
theorem hc_s_se0 {ad : Nat → Nat} {cy : Nat → ClassId} {x : HM} {i : Nat} (hi : i < 8) : (hc_mem ad cy x).set (57 + i) (ad (57 + i), .inr (2, (hc_txL ad x i).set 7 (.int 0))) = hc_mem ad cy (x.u_se i (fun _ => false)) := by
  rw [← hs_mask_0]; exact hc_s_se hi
end
section
theorem in_X1_takeIn_X1 : ∀ w ∈ u_ws RX1 TX1 2, w ∈ wsX1_takeIn := by decide +kernel
set_option maxHeartbeats 4000000 in
set_option maxRecDepth 100000 in
/-- Node.takeIn -/
theorem c_takeIn (l : Launch) (D : va_G) (cy : Nat → ClassId) (ad : Nat → Nat) (ho : hc_ok ad) (x : HM) {i : Nat} (hi : i < 4) (s0 : Int64) : Ct l yX1_takeIn wsX1_takeIn ({ frames := 1, cells := 0, slots := 0, locals := 21 }) D cy (hc_A ad) [.ref (ad (5 + i)), .long (s0)] (hc_mem ad cy (x)) none (hc_mem ad cy (x.tk i s0)) := by
  refine ct_of (cc := cX1_takeIn) (maxL := 3) (ret := none) rfl (by decide) (Nat.le_of_ble_eq_true rfl) ?_
  intro p e s m below meth c ls G hx hb hml hr hlocks hP hS hl
  have hl : lv_has ls 3 [(0, .ref (ad (5 + i))), (1, .long (s0))] := hl
  refine lv_aload_n hx hb dX1_takeIn_0 rfl (lv_at hl 0 rfl) ?_
  refine lv_aload_n hx hb dX1_takeIn_1 rfl (lv_at hl 0 rfl) ?_
  refine hc_g_node G (in_X1_takeIn_X1) hP (hi) 1 (by decide) (by decide +kernel) (.long (HM.ck (x) (i))) rfl rfl dX1_takeIn_2 ?_
  refine lv_lload_n hx hb dX1_takeIn_5 rfl (lv_at hl 1 rfl) ?_
  refine va_mmax_long hx hb (hml.trans hl.1.symm) G.2.2.2.1 (G.2.2.1 (.methodLink RX1 15 Lib.MathLoose.max_long.x) (by decide +kernel)) (G.2.2.1 (.static Lib.MathLoose.max_long.x) (by decide +kernel)) (G.2.2.1 (.initialized "java/lang/Math") (by decide +kernel)) (G.2.2.1 (.code Lib.MathLoose.max_long.x Lib.MathLoose.max_long.code 4 (some .long)) (by decide +kernel)) (Nat.le_of_ble_eq_true rfl) (Nat.le_of_ble_eq_true rfl) (Nat.zero_le _) (Nat.zero_le _) dX1_takeIn_6 ?_
  refine lv_lconst (v := 1) hx hb dX1_takeIn_9 (by decide) ?_
  refine lv_ladd hx hb dX1_takeIn_10 ?_
  refine lv_aload_n hx hb dX1_takeIn_11 rfl (lv_at hl 0 rfl) ?_
  refine hc_g_node G (in_X1_takeIn_X1) hP (hi) 0 (by decide) (by decide +kernel) (.int (HM.rd (x) (i))) rfl rfl dX1_takeIn_12 ?_
  refine lv_i2l (v := (Int32.toInt64 (HM.rd (x) (i)))) hx hb dX1_takeIn_15 rfl ?_
  refine lv_ldc2 (v := 1048576) hx hb G.2.2.2.1 (G.2.2.1 (.constantLong RX1 25 1048576) (by decide +kernel)) dX1_takeIn_16 ?_
  refine lv_lmul hx hb dX1_takeIn_19 ?_
  refine va_mmax_long hx hb (hml.trans hl.1.symm) G.2.2.2.1 (G.2.2.1 (.methodLink RX1 15 Lib.MathLoose.max_long.x) (by decide +kernel)) (G.2.2.1 (.static Lib.MathLoose.max_long.x) (by decide +kernel)) (G.2.2.1 (.initialized "java/lang/Math") (by decide +kernel)) (G.2.2.1 (.code Lib.MathLoose.max_long.x Lib.MathLoose.max_long.code 4 (some .long)) (by decide +kernel)) (Nat.le_of_ble_eq_true rfl) (Nat.le_of_ble_eq_true rfl) (Nat.zero_le _) (Nat.zero_le _) dX1_takeIn_20 ?_
  refine hc_p_node ho G (in_X1_takeIn_X1) hP hS (hi) 1 (by decide) (by decide +kernel) (.long ((if ((Int32.toInt64 (HM.rd (x) (i))) * 1048576) < ((if s0 < HM.ck (x) (i) then HM.ck (x) (i) else s0) + 1) then ((if s0 < HM.ck (x) (i) then HM.ck (x) (i) else s0) + 1) else ((Int32.toInt64 (HM.rd (x) (i))) * 1048576)))) rfl rfl (.long) (by decide +kernel) rfl rfl (Nat.le_of_ble_eq_true rfl) (HM.u_ck (x) (i) ((if ((Int32.toInt64 (HM.rd (x) (i))) * 1048576) < ((if s0 < HM.ck (x) (i) then HM.ck (x) (i) else s0) + 1) then ((if s0 < HM.ck (x) (i) then HM.ck (x) (i) else s0) + 1) else ((Int32.toInt64 (HM.rd (x) (i))) * 1048576)))) (hc_s_ck (v := (if ((Int32.toInt64 (HM.rd (x) (i))) * 1048576) < ((if s0 < HM.ck (x) (i) then HM.ck (x) (i) else s0) + 1) then ((if s0 < HM.ck (x) (i) then HM.ck (x) (i) else s0) + 1) else ((Int32.toInt64 (HM.rd (x) (i))) * 1048576))) (hi)) dX1_takeIn_23 (fun H locs hP hS => ?_)
  exact ct_vret hx hb hr hlocks rfl hP hS dX1_takeIn_26
theorem in_X1_haveEvent_X1 : ∀ w ∈ u_ws RX1 TX1 2, w ∈ wsX1_haveEvent := by decide +kernel
set_option maxHeartbeats 4000000 in
set_option maxRecDepth 100000 in
/-- Node.haveEvent -/
theorem c_haveEvent (l : Launch) (D : va_G) (cy : Nat → ClassId) (ad : Nat → Nat) (ho : hc_ok ad) (x : HM) {i : Nat} (hi : i < 4) : Ct l yX1_haveEvent wsX1_haveEvent ({ frames := 2, cells := 0, slots := 0, locals := 50 }) D cy (hc_A ad) [.ref (ad (5 + i))] (hc_mem ad cy (x)) none (hc_mem ad cy (x.ev i)) := by
  refine ct_of (cc := cX1_haveEvent) (maxL := 1) (ret := none) rfl (by decide) (Nat.le_of_ble_eq_true rfl) ?_
  intro p e s m below meth c ls G hx hb hml hr hlocks hP hS hl
  have hl : lv_has ls 1 [(0, .ref (ad (5 + i)))] := hl
  refine lv_aload_n hx hb dX1_haveEvent_0 rfl (lv_at hl 0 rfl) ?_
  refine lv_aload_n hx hb dX1_haveEvent_1 rfl (lv_at hl 0 rfl) ?_
  refine hc_g_node G (in_X1_haveEvent_X1) hP (hi) 1 (by decide) (by decide +kernel) (.long (HM.ck (x) (i))) rfl rfl dX1_haveEvent_2 ?_
  refine hs_callV (n := 1) (As := [.long (HM.ck (x) (i))]) (rest := []) G hml (c_takeIn l D cy ad ho (x) (hi) (HM.ck (x) (i))) gX1_haveEvent_X1_takeIn rfl rfl rfl (by decide +kernel) ⟨Nat.le_of_ble_eq_true rfl, Nat.le_of_ble_eq_true rfl⟩ (ci := 1) rfl rfl (hc_at_node (hi)) rfl hl.1 (Nat.le_of_ble_eq_true rfl) ⟨Nat.zero_le _, Nat.zero_le _⟩ hP hS (fun _ h => h) rfl dX1_haveEvent_5 (fun H locs hP hS _ _ => ?_)
  exact ct_vret hx hb hr hlocks rfl hP hS dX1_haveEvent_8
theorem in_X2_start_X2 : ∀ w ∈ u_ws RX2 TX2 9, w ∈ wsX2_start := by decide +kernel
theorem in_X2_start_X1 : ∀ w ∈ u_ws RX1 TX1 2, w ∈ wsX2_start := by decide +kernel
set_option maxHeartbeats 4000000 in
set_option maxRecDepth 100000 in
/-- Transaction.start -/
theorem c_start (l : Launch) (D : va_G) (cy : Nat → ClassId) (ad : Nat → Nat) (ho : hc_ok ad) (x : HM) {t : Nat} (ht : t < 8) {i : Nat} (hi : i < 4) (b : Nat) : Ct l yX2_start wsX2_start ({ frames := 0, cells := 0, slots := 0, locals := 0 }) D cy (hc_A ad) [.ref (ad (57 + t)), .ref (ad (5 + i)), .int (nI b)] (hc_mem ad cy (x)) none (hc_mem ad cy (x.beg t i b)) := by
  refine ct_of (cc := cX2_start) (maxL := 3) (ret := none) rfl (by decide) (Nat.le_of_ble_eq_true rfl) ?_
  intro p e s m below meth c ls G hx hb hml hr hlocks hP hS hl
  have hl : lv_has ls 3 [(0, .ref (ad (57 + t))), (1, .ref (ad (5 + i))), (2, .int (nI b))] := hl
  refine lv_aload_n hx hb dX2_start_0 rfl (lv_at hl 0 rfl) ?_
  refine lv_iconst (v := 1) hx hb dX2_start_1 (by decide) ?_
  refine hc_p_tx ho G (in_X2_start_X2) hP hS (ht) 0 (by decide) (by decide +kernel) (.int (1)) rfl rfl (.int) (by decide +kernel) rfl rfl (Nat.le_of_ble_eq_true rfl) (HM.u_ph (x) (t) (1)) (hc_s_ph (v := 1) (ht)) dX2_start_2 (fun H locs hP hS => ?_)
  refine lv_aload_n hx hb dX2_start_5 rfl (lv_at hl 0 rfl) ?_
  refine lv_aload_n hx hb dX2_start_6 rfl (lv_at hl 1 rfl) ?_
  refine hc_p_tx ho G (in_X2_start_X2) hP hS (ht) 1 (by decide) (by decide +kernel) (.ref (ad (5 + i))) rfl rfl (.object "HlcStore$Node") (by decide +kernel) rfl rfl (Nat.le_of_ble_eq_true rfl) (HM.u_gt (HM.u_ph (x) (t) (1)) (t) (i)) (hc_s_gt (v := i) (ht)) dX2_start_7 (fun H locs hP hS => ?_)
  refine lv_aload_n hx hb dX2_start_10 rfl (lv_at hl 0 rfl) ?_
  refine lv_aload_n hx hb dX2_start_11 rfl (lv_at hl 1 rfl) ?_
  refine hc_g_noden G (in_X2_start_X1) hP (hi) 0 (by decide) (by decide +kernel) (.int (HM.rd (HM.u_gt (HM.u_ph (x) (t) (1)) (t) (i)) (i))) rfl rfl dX2_start_12 ?_
  refine hc_p_tx ho G (in_X2_start_X2) hP hS (ht) 2 (by decide) (by decide +kernel) (.int (HM.rd (HM.u_gt (HM.u_ph (x) (t) (1)) (t) (i)) (i))) rfl rfl (.int) (by decide +kernel) rfl rfl (Nat.le_of_ble_eq_true rfl) (HM.u_bt (HM.u_gt (HM.u_ph (x) (t) (1)) (t) (i)) (t) (HM.rd (HM.u_gt (HM.u_ph (x) (t) (1)) (t) (i)) (i))) (hc_s_bt (v := HM.rd (HM.u_gt (HM.u_ph (x) (t) (1)) (t) (i)) (i)) (ht)) dX2_start_15 (fun H locs hP hS => ?_)
  refine lv_aload_n hx hb dX2_start_18 rfl (lv_at hl 0 rfl) ?_
  refine lv_iload_n hx hb dX2_start_19 rfl (lv_at hl 2 rfl) ?_
  refine hc_p_tx ho G (in_X2_start_X2) hP hS (ht) 3 (by decide) (by decide +kernel) (.int (nI b)) rfl rfl (.int) (by decide +kernel) rfl rfl (Nat.le_of_ble_eq_true rfl) (HM.u_bi (HM.u_bt (HM.u_gt (HM.u_ph (x) (t) (1)) (t) (i)) (t) (HM.rd (HM.u_gt (HM.u_ph (x) (t) (1)) (t) (i)) (i))) (t) (b)) (hc_s_bi (v := b) (ht)) dX2_start_20 (fun H locs hP hS => ?_)
  refine lv_aload_n hx hb dX2_start_23 rfl (lv_at hl 0 rfl) ?_
  refine lv_aload_n hx hb dX2_start_24 rfl (lv_at hl 1 rfl) ?_
  refine hc_g_noden G (in_X2_start_X1) hP (hi) 1 (by decide) (by decide +kernel) (.long (HM.ck (HM.u_bi (HM.u_bt (HM.u_gt (HM.u_ph (x) (t) (1)) (t) (i)) (t) (HM.rd (HM.u_gt (HM.u_ph (x) (t) (1)) (t) (i)) (i))) (t) (b)) (i))) rfl rfl dX2_start_25 ?_
  refine hc_p_tx ho G (in_X2_start_X2) hP hS (ht) 4 (by decide) (by decide +kernel) (.long (HM.ck (HM.u_bi (HM.u_bt (HM.u_gt (HM.u_ph (x) (t) (1)) (t) (i)) (t) (HM.rd (HM.u_gt (HM.u_ph (x) (t) (1)) (t) (i)) (i))) (t) (b)) (i))) rfl rfl (.long) (by decide +kernel) rfl rfl (Nat.le_of_ble_eq_true rfl) (HM.u_rs (HM.u_bi (HM.u_bt (HM.u_gt (HM.u_ph (x) (t) (1)) (t) (i)) (t) (HM.rd (HM.u_gt (HM.u_ph (x) (t) (1)) (t) (i)) (i))) (t) (b)) (t) (HM.ck (HM.u_bi (HM.u_bt (HM.u_gt (HM.u_ph (x) (t) (1)) (t) (i)) (t) (HM.rd (HM.u_gt (HM.u_ph (x) (t) (1)) (t) (i)) (i))) (t) (b)) (i))) (hc_s_rs (v := HM.ck (HM.u_bi (HM.u_bt (HM.u_gt (HM.u_ph (x) (t) (1)) (t) (i)) (t) (HM.rd (HM.u_gt (HM.u_ph (x) (t) (1)) (t) (i)) (i))) (t) (b)) (i)) (ht)) dX2_start_28 (fun H locs hP hS => ?_)
  refine lv_aload_n hx hb dX2_start_31 rfl (lv_at hl 0 rfl) ?_
  refine lv_aload_n hx hb dX2_start_32 rfl (lv_at hl 1 rfl) ?_
  refine hc_g_noden G (in_X2_start_X1) hP (hi) 1 (by decide) (by decide +kernel) (.long (HM.ck (HM.u_rs (HM.u_bi (HM.u_bt (HM.u_gt (HM.u_ph (x) (t) (1)) (t) (i)) (t) (HM.rd (HM.u_gt (HM.u_ph (x) (t) (1)) (t) (i)) (i))) (t) (b)) (t) (HM.ck (HM.u_bi (HM.u_bt (HM.u_gt (HM.u_ph (x) (t) (1)) (t) (i)) (t) (HM.rd (HM.u_gt (HM.u_ph (x) (t) (1)) (t) (i)) (i))) (t) (b)) (i))) (i))) rfl rfl dX2_start_33 ?_
  refine hc_p_tx ho G (in_X2_start_X2) hP hS (ht) 5 (by decide) (by decide +kernel) (.long (HM.ck (HM.u_rs (HM.u_bi (HM.u_bt (HM.u_gt (HM.u_ph (x) (t) (1)) (t) (i)) (t) (HM.rd (HM.u_gt (HM.u_ph (x) (t) (1)) (t) (i)) (i))) (t) (b)) (t) (HM.ck (HM.u_bi (HM.u_bt (HM.u_gt (HM.u_ph (x) (t) (1)) (t) (i)) (t) (HM.rd (HM.u_gt (HM.u_ph (x) (t) (1)) (t) (i)) (i))) (t) (b)) (i))) (i))) rfl rfl (.long) (by decide +kernel) rfl rfl (Nat.le_of_ble_eq_true rfl) (HM.u_ws (HM.u_rs (HM.u_bi (HM.u_bt (HM.u_gt (HM.u_ph (x) (t) (1)) (t) (i)) (t) (HM.rd (HM.u_gt (HM.u_ph (x) (t) (1)) (t) (i)) (i))) (t) (b)) (t) (HM.ck (HM.u_bi (HM.u_bt (HM.u_gt (HM.u_ph (x) (t) (1)) (t) (i)) (t) (HM.rd (HM.u_gt (HM.u_ph (x) (t) (1)) (t) (i)) (i))) (t) (b)) (i))) (t) (HM.ck (HM.u_rs (HM.u_bi (HM.u_bt (HM.u_gt (HM.u_ph (x) (t) (1)) (t) (i)) (t) (HM.rd (HM.u_gt (HM.u_ph (x) (t) (1)) (t) (i)) (i))) (t) (b)) (t) (HM.ck (HM.u_bi (HM.u_bt (HM.u_gt (HM.u_ph (x) (t) (1)) (t) (i)) (t) (HM.rd (HM.u_gt (HM.u_ph (x) (t) (1)) (t) (i)) (i))) (t) (b)) (i))) (i))) (hc_s_ws (v := HM.ck (HM.u_rs (HM.u_bi (HM.u_bt (HM.u_gt (HM.u_ph (x) (t) (1)) (t) (i)) (t) (HM.rd (HM.u_gt (HM.u_ph (x) (t) (1)) (t) (i)) (i))) (t) (b)) (t) (HM.ck (HM.u_bi (HM.u_bt (HM.u_gt (HM.u_ph (x) (t) (1)) (t) (i)) (t) (HM.rd (HM.u_gt (HM.u_ph (x) (t) (1)) (t) (i)) (i))) (t) (b)) (i))) (i)) (ht)) dX2_start_36 (fun H locs hP hS => ?_)
  refine lv_aload_n hx hb dX2_start_39 rfl (lv_at hl 0 rfl) ?_
  refine lv_aload_n hx hb dX2_start_40 rfl (lv_at hl 1 rfl) ?_
  refine hc_g_noden G (in_X2_start_X1) hP (hi) 1 (by decide) (by decide +kernel) (.long (HM.ck (HM.u_ws (HM.u_rs (HM.u_bi (HM.u_bt (HM.u_gt (HM.u_ph (x) (t) (1)) (t) (i)) (t) (HM.rd (HM.u_gt (HM.u_ph (x) (t) (1)) (t) (i)) (i))) (t) (b)) (t) (HM.ck (HM.u_bi (HM.u_bt (HM.u_gt (HM.u_ph (x) (t) (1)) (t) (i)) (t) (HM.rd (HM.u_gt (HM.u_ph (x) (t) (1)) (t) (i)) (i))) (t) (b)) (i))) (t) (HM.ck (HM.u_rs (HM.u_bi (HM.u_bt (HM.u_gt (HM.u_ph (x) (t) (1)) (t) (i)) (t) (HM.rd (HM.u_gt (HM.u_ph (x) (t) (1)) (t) (i)) (i))) (t) (b)) (t) (HM.ck (HM.u_bi (HM.u_bt (HM.u_gt (HM.u_ph (x) (t) (1)) (t) (i)) (t) (HM.rd (HM.u_gt (HM.u_ph (x) (t) (1)) (t) (i)) (i))) (t) (b)) (i))) (i))) (i))) rfl rfl dX2_start_41 ?_
  refine lv_ldc2 (v := 1048576) hx hb G.2.2.2.1 (G.2.2.1 (.constantLong RX2 40 1048576) (by decide +kernel)) dX2_start_44 ?_
  refine lv_ldiv hx hb dX2_start_47 (by decide) ?_
  refine lv_ldc2 (v := 10) hx hb G.2.2.2.1 (G.2.2.1 (.constantLong RX2 42 10) (by decide +kernel)) dX2_start_48 ?_
  refine lv_ladd hx hb dX2_start_51 ?_
  refine lv_ldc2 (v := 1048576) hx hb G.2.2.2.1 (G.2.2.1 (.constantLong RX2 40 1048576) (by decide +kernel)) dX2_start_52 ?_
  refine lv_lmul hx hb dX2_start_55 ?_
  refine lv_ldc2 (v := 1048575) hx hb G.2.2.2.1 (G.2.2.1 (.constantLong RX2 44 1048575) (by decide +kernel)) dX2_start_56 ?_
  refine lv_ladd hx hb dX2_start_59 ?_
  refine hc_p_tx ho G (in_X2_start_X2) hP hS (ht) 6 (by decide) (by decide +kernel) (.long (((((HM.ck (HM.u_ws (HM.u_rs (HM.u_bi (HM.u_bt (HM.u_gt (HM.u_ph (x) (t) (1)) (t) (i)) (t) (HM.rd (HM.u_gt (HM.u_ph (x) (t) (1)) (t) (i)) (i))) (t) (b)) (t) (HM.ck (HM.u_bi (HM.u_bt (HM.u_gt (HM.u_ph (x) (t) (1)) (t) (i)) (t) (HM.rd (HM.u_gt (HM.u_ph (x) (t) (1)) (t) (i)) (i))) (t) (b)) (i))) (t) (HM.ck (HM.u_rs (HM.u_bi (HM.u_bt (HM.u_gt (HM.u_ph (x) (t) (1)) (t) (i)) (t) (HM.rd (HM.u_gt (HM.u_ph (x) (t) (1)) (t) (i)) (i))) (t) (b)) (t) (HM.ck (HM.u_bi (HM.u_bt (HM.u_gt (HM.u_ph (x) (t) (1)) (t) (i)) (t) (HM.rd (HM.u_gt (HM.u_ph (x) (t) (1)) (t) (i)) (i))) (t) (b)) (i))) (i))) (i) / 1048576) + 10) * 1048576) + 1048575))) rfl rfl (.long) (by decide +kernel) rfl rfl (Nat.le_of_ble_eq_true rfl) (HM.u_lm (HM.u_ws (HM.u_rs (HM.u_bi (HM.u_bt (HM.u_gt (HM.u_ph (x) (t) (1)) (t) (i)) (t) (HM.rd (HM.u_gt (HM.u_ph (x) (t) (1)) (t) (i)) (i))) (t) (b)) (t) (HM.ck (HM.u_bi (HM.u_bt (HM.u_gt (HM.u_ph (x) (t) (1)) (t) (i)) (t) (HM.rd (HM.u_gt (HM.u_ph (x) (t) (1)) (t) (i)) (i))) (t) (b)) (i))) (t) (HM.ck (HM.u_rs (HM.u_bi (HM.u_bt (HM.u_gt (HM.u_ph (x) (t) (1)) (t) (i)) (t) (HM.rd (HM.u_gt (HM.u_ph (x) (t) (1)) (t) (i)) (i))) (t) (b)) (t) (HM.ck (HM.u_bi (HM.u_bt (HM.u_gt (HM.u_ph (x) (t) (1)) (t) (i)) (t) (HM.rd (HM.u_gt (HM.u_ph (x) (t) (1)) (t) (i)) (i))) (t) (b)) (i))) (i))) (t) (((((HM.ck (HM.u_ws (HM.u_rs (HM.u_bi (HM.u_bt (HM.u_gt (HM.u_ph (x) (t) (1)) (t) (i)) (t) (HM.rd (HM.u_gt (HM.u_ph (x) (t) (1)) (t) (i)) (i))) (t) (b)) (t) (HM.ck (HM.u_bi (HM.u_bt (HM.u_gt (HM.u_ph (x) (t) (1)) (t) (i)) (t) (HM.rd (HM.u_gt (HM.u_ph (x) (t) (1)) (t) (i)) (i))) (t) (b)) (i))) (t) (HM.ck (HM.u_rs (HM.u_bi (HM.u_bt (HM.u_gt (HM.u_ph (x) (t) (1)) (t) (i)) (t) (HM.rd (HM.u_gt (HM.u_ph (x) (t) (1)) (t) (i)) (i))) (t) (b)) (t) (HM.ck (HM.u_bi (HM.u_bt (HM.u_gt (HM.u_ph (x) (t) (1)) (t) (i)) (t) (HM.rd (HM.u_gt (HM.u_ph (x) (t) (1)) (t) (i)) (i))) (t) (b)) (i))) (i))) (i) / 1048576) + 10) * 1048576) + 1048575))) (hc_s_lm (v := ((((HM.ck (HM.u_ws (HM.u_rs (HM.u_bi (HM.u_bt (HM.u_gt (HM.u_ph (x) (t) (1)) (t) (i)) (t) (HM.rd (HM.u_gt (HM.u_ph (x) (t) (1)) (t) (i)) (i))) (t) (b)) (t) (HM.ck (HM.u_bi (HM.u_bt (HM.u_gt (HM.u_ph (x) (t) (1)) (t) (i)) (t) (HM.rd (HM.u_gt (HM.u_ph (x) (t) (1)) (t) (i)) (i))) (t) (b)) (i))) (t) (HM.ck (HM.u_rs (HM.u_bi (HM.u_bt (HM.u_gt (HM.u_ph (x) (t) (1)) (t) (i)) (t) (HM.rd (HM.u_gt (HM.u_ph (x) (t) (1)) (t) (i)) (i))) (t) (b)) (t) (HM.ck (HM.u_bi (HM.u_bt (HM.u_gt (HM.u_ph (x) (t) (1)) (t) (i)) (t) (HM.rd (HM.u_gt (HM.u_ph (x) (t) (1)) (t) (i)) (i))) (t) (b)) (i))) (i))) (i) / 1048576) + 10) * 1048576) + 1048575)) (ht)) dX2_start_60 (fun H locs hP hS => ?_)
  refine lv_aload_n hx hb dX2_start_63 rfl (lv_at hl 0 rfl) ?_
  refine lv_iconst (v := 0) hx hb dX2_start_64 (by decide) ?_
  refine hc_p_tx ho G (in_X2_start_X2) hP hS (ht) 7 (by decide) (by decide +kernel) (.int (0)) rfl rfl (.int) (by decide +kernel) rfl rfl (Nat.le_of_ble_eq_true rfl) (HM.u_se (HM.u_lm (HM.u_ws (HM.u_rs (HM.u_bi (HM.u_bt (HM.u_gt (HM.u_ph (x) (t) (1)) (t) (i)) (t) (HM.rd (HM.u_gt (HM.u_ph (x) (t) (1)) (t) (i)) (i))) (t) (b)) (t) (HM.ck (HM.u_bi (HM.u_bt (HM.u_gt (HM.u_ph (x) (t) (1)) (t) (i)) (t) (HM.rd (HM.u_gt (HM.u_ph (x) (t) (1)) (t) (i)) (i))) (t) (b)) (i))) (t) (HM.ck (HM.u_rs (HM.u_bi (HM.u_bt (HM.u_gt (HM.u_ph (x) (t) (1)) (t) (i)) (t) (HM.rd (HM.u_gt (HM.u_ph (x) (t) (1)) (t) (i)) (i))) (t) (b)) (t) (HM.ck (HM.u_bi (HM.u_bt (HM.u_gt (HM.u_ph (x) (t) (1)) (t) (i)) (t) (HM.rd (HM.u_gt (HM.u_ph (x) (t) (1)) (t) (i)) (i))) (t) (b)) (i))) (i))) (t) (((((HM.ck (HM.u_ws (HM.u_rs (HM.u_bi (HM.u_bt (HM.u_gt (HM.u_ph (x) (t) (1)) (t) (i)) (t) (HM.rd (HM.u_gt (HM.u_ph (x) (t) (1)) (t) (i)) (i))) (t) (b)) (t) (HM.ck (HM.u_bi (HM.u_bt (HM.u_gt (HM.u_ph (x) (t) (1)) (t) (i)) (t) (HM.rd (HM.u_gt (HM.u_ph (x) (t) (1)) (t) (i)) (i))) (t) (b)) (i))) (t) (HM.ck (HM.u_rs (HM.u_bi (HM.u_bt (HM.u_gt (HM.u_ph (x) (t) (1)) (t) (i)) (t) (HM.rd (HM.u_gt (HM.u_ph (x) (t) (1)) (t) (i)) (i))) (t) (b)) (t) (HM.ck (HM.u_bi (HM.u_bt (HM.u_gt (HM.u_ph (x) (t) (1)) (t) (i)) (t) (HM.rd (HM.u_gt (HM.u_ph (x) (t) (1)) (t) (i)) (i))) (t) (b)) (i))) (i))) (i) / 1048576) + 10) * 1048576) + 1048575))) (t) (fun _ => false)) (hc_s_se0 ht) dX2_start_65 (fun H locs hP hS => ?_)
  refine lv_aload_n hx hb dX2_start_68 rfl (lv_at hl 0 rfl) ?_
  refine lv_iconst (v := 0) hx hb dX2_start_69 (by decide) ?_
  refine hc_p_tx ho G (in_X2_start_X2) hP hS (ht) 8 (by decide) (by decide +kernel) (.int (0)) rfl rfl (.boolean) (by decide +kernel) (by decide) (by decide) (Nat.le_of_ble_eq_true rfl) (HM.u_hu (HM.u_se (HM.u_lm (HM.u_ws (HM.u_rs (HM.u_bi (HM.u_bt (HM.u_gt (HM.u_ph (x) (t) (1)) (t) (i)) (t) (HM.rd (HM.u_gt (HM.u_ph (x) (t) (1)) (t) (i)) (i))) (t) (b)) (t) (HM.ck (HM.u_bi (HM.u_bt (HM.u_gt (HM.u_ph (x) (t) (1)) (t) (i)) (t) (HM.rd (HM.u_gt (HM.u_ph (x) (t) (1)) (t) (i)) (i))) (t) (b)) (i))) (t) (HM.ck (HM.u_rs (HM.u_bi (HM.u_bt (HM.u_gt (HM.u_ph (x) (t) (1)) (t) (i)) (t) (HM.rd (HM.u_gt (HM.u_ph (x) (t) (1)) (t) (i)) (i))) (t) (b)) (t) (HM.ck (HM.u_bi (HM.u_bt (HM.u_gt (HM.u_ph (x) (t) (1)) (t) (i)) (t) (HM.rd (HM.u_gt (HM.u_ph (x) (t) (1)) (t) (i)) (i))) (t) (b)) (i))) (i))) (t) (((((HM.ck (HM.u_ws (HM.u_rs (HM.u_bi (HM.u_bt (HM.u_gt (HM.u_ph (x) (t) (1)) (t) (i)) (t) (HM.rd (HM.u_gt (HM.u_ph (x) (t) (1)) (t) (i)) (i))) (t) (b)) (t) (HM.ck (HM.u_bi (HM.u_bt (HM.u_gt (HM.u_ph (x) (t) (1)) (t) (i)) (t) (HM.rd (HM.u_gt (HM.u_ph (x) (t) (1)) (t) (i)) (i))) (t) (b)) (i))) (t) (HM.ck (HM.u_rs (HM.u_bi (HM.u_bt (HM.u_gt (HM.u_ph (x) (t) (1)) (t) (i)) (t) (HM.rd (HM.u_gt (HM.u_ph (x) (t) (1)) (t) (i)) (i))) (t) (b)) (t) (HM.ck (HM.u_bi (HM.u_bt (HM.u_gt (HM.u_ph (x) (t) (1)) (t) (i)) (t) (HM.rd (HM.u_gt (HM.u_ph (x) (t) (1)) (t) (i)) (i))) (t) (b)) (i))) (i))) (i) / 1048576) + 10) * 1048576) + 1048575))) (t) (fun _ => false)) (t) (0)) (hc_s_hu (v := 0) (ht)) dX2_start_70 (fun H locs hP hS => ?_)
  exact ct_vret hx hb hr hlocks rfl hP hS dX2_start_73
theorem in_X2_codeOfState_X2 : ∀ w ∈ u_ws RX2 TX2 9, w ∈ wsX2_codeOfState := by decide +kernel
set_option maxHeartbeats 4000000 in
set_option maxRecDepth 100000 in
/-- Transaction.codeOfState -/
theorem c_codeOfState (l : Launch) (D : va_G) (cy : Nat → ClassId) (ad : Nat → Nat) (ho : hc_ok ad) (x : HM) {t : Nat} (ht : t < 8) : Ct l yX2_codeOfState wsX2_codeOfState ({ frames := 0, cells := 0, slots := 0, locals := 0 }) D cy (hc_A ad) [.ref (ad (57 + t))] (hc_mem ad cy (x)) (some (.int (x.code t))) (hc_mem ad cy (x)) := by
  refine ct_of (cc := cX2_codeOfState) (maxL := 1) (ret := (some .int)) rfl (by decide) (Nat.le_of_ble_eq_true rfl) ?_
  intro p e s m below meth c ls G hx hb hml hr hlocks hP hS hl
  have hl : lv_has ls 1 [(0, .ref (ad (57 + t)))] := hl
  refine lv_aload_n hx hb dX2_codeOfState_0 rfl (lv_at hl 0 rfl) ?_
  refine hc_g_tx G (in_X2_codeOfState_X2) hP (ht) 0 (by decide) (by decide +kernel) (.int (HM.ph (x) (t))) rfl rfl dX2_codeOfState_1 ?_
  by_cases h1 : HM.ph x t = 1
  · refine lv_tableIn (off := 28) (tgt := 32) hx hb dX2_codeOfState_4 (by rw [h1]; decide) (by rw [h1]; decide) (by rw [h1]; rfl) (by decide) ?_
    refine lv_iconst (v := 0) hx hb dX2_codeOfState_32 (by decide) ?_
    exact ct_iret hx hb hr hlocks (by rw [HM.code, if_pos h1]) hP hS dX2_codeOfState_33
  by_cases h2 : HM.ph x t = 2
  · refine lv_tableIn (off := 30) (tgt := 34) hx hb dX2_codeOfState_4 (by rw [h2]; decide) (by rw [h2]; decide) (by rw [h2]; rfl) (by decide) ?_
    refine lv_bipush (v := (-8)) hx hb dX2_codeOfState_34 (by decide) ?_
    exact ct_iret hx hb hr hlocks (by rw [HM.code, if_neg h1, if_pos h2]) hP hS dX2_codeOfState_36
  by_cases h3 : HM.ph x t = 3
  · refine lv_tableIn (off := 33) (tgt := 37) hx hb dX2_codeOfState_4 (by rw [h3]; decide) (by rw [h3]; decide) (by rw [h3]; rfl) (by decide) ?_
    refine lv_bipush (v := (-6)) hx hb dX2_codeOfState_37 (by decide) ?_
    exact ct_iret hx hb hr hlocks (by rw [HM.code, if_neg h1, if_neg h2, if_pos h3]) hP hS dX2_codeOfState_39
  refine lv_tableOut (tgt := 40) hx hb dX2_codeOfState_4 (hs_out h1 h2 h3) (by decide) ?_
  refine lv_bipush (v := (-4)) hx hb dX2_codeOfState_40 (by decide) ?_
  exact ct_iret hx hb hr hlocks (by rw [HM.code, if_neg h1, if_neg h2, if_neg h3]) hP hS dX2_codeOfState_42
theorem in_X2_takeStoppingCode_X2 : ∀ w ∈ u_ws RX2 TX2 9, w ∈ wsX2_takeStoppingCode := by decide +kernel
set_option maxHeartbeats 4000000 in
set_option maxRecDepth 100000 in
/-- Transaction.takeStoppingCode -/
theorem c_takeStop (l : Launch) (D : va_G) (cy : Nat → ClassId) (ad : Nat → Nat) (ho : hc_ok ad) (x : HM) {t : Nat} (ht : t < 8) : Ct l yX2_takeStoppingCode wsX2_takeStoppingCode ({ frames := 1, cells := 0, slots := 0, locals := 20 }) D cy (hc_A ad) [.ref (ad (57 + t))] (hc_mem ad cy (x)) (some (.int (x.stc t))) (hc_mem ad cy (x.stp t)) := by
  refine ct_of (cc := cX2_takeStoppingCode) (maxL := 2) (ret := (some .int)) rfl (by decide) (Nat.le_of_ble_eq_true rfl) ?_
  intro p e s m below meth c ls G hx hb hml hr hlocks hP hS hl
  have hl : lv_has ls 2 [(0, .ref (ad (57 + t)))] := hl
  refine lv_aload_n hx hb dX2_takeStoppingCode_0 rfl (lv_at hl 0 rfl) ?_
  refine hs_callV (n := 0) (As := []) (rest := []) G hml (c_codeOfState l D cy ad ho (x) (ht)) gX2_takeStoppingCode_X2_codeOfState rfl rfl rfl (by decide +kernel) ⟨Nat.le_of_ble_eq_true rfl, Nat.le_of_ble_eq_true rfl⟩ (ci := 2) rfl rfl (hc_at_tx (ht)) rfl hl.1 (Nat.le_of_ble_eq_true rfl) ⟨Nat.zero_le _, Nat.zero_le _⟩ hP hS (fun _ h => h) rfl dX2_takeStoppingCode_1 (fun H locs hP hS _ _ => ?_)
  refine lv_istore_n (lv' := [(1, .int (HM.code (x) (t))), (0, .ref (ad (57 + t)))]) hx hb dX2_takeStoppingCode_4 rfl hl (by decide) rfl (fun ls hl => ?_)
  refine lv_iload_n hx hb dX2_takeStoppingCode_5 rfl (lv_at hl 0 rfl) ?_
  refine lv_if_ne (tgt := 23) hx hb dX2_takeStoppingCode_6 (by decide) (fun c_1 => ?_) (fun c_1 => ?_)
  · refine lv_iload_n hx hb dX2_takeStoppingCode_23 rfl (lv_at hl 0 rfl) ?_
    exact ct_iret hx hb hr hlocks (by rw [HM.stc, if_neg (fun q => c_1 q.1)]) (by rw [HM.stp, if_neg (fun q => c_1 q.1)]; exact hP) hS dX2_takeStoppingCode_24
  · refine lv_aload_n hx hb dX2_takeStoppingCode_9 rfl (lv_at hl 1 rfl) ?_
    refine hc_g_tx G (in_X2_takeStoppingCode_X2) hP (ht) 8 (by decide) (by decide +kernel) (.int (HM.hu (x) (t))) rfl rfl dX2_takeStoppingCode_10 ?_
    refine lv_if_eq (tgt := 23) hx hb dX2_takeStoppingCode_13 (by decide) (fun c_2 => ?_) (fun c_2 => ?_)
    · refine lv_iload_n hx hb dX2_takeStoppingCode_23 rfl (lv_at hl 0 rfl) ?_
      exact ct_iret hx hb hr hlocks (by rw [HM.stc, if_neg (fun q => q.2 c_2)]) (by rw [HM.stp, if_neg (fun q => q.2 c_2)]; exact hP) hS dX2_takeStoppingCode_24
    · refine lv_aload_n hx hb dX2_takeStoppingCode_16 rfl (lv_at hl 1 rfl) ?_
      refine lv_iconst (v := 0) hx hb dX2_takeStoppingCode_17 (by decide) ?_
      refine hc_p_tx ho G (in_X2_takeStoppingCode_X2) hP hS (ht) 8 (by decide) (by decide +kernel) (.int (0)) rfl rfl (.boolean) (by decide +kernel) (by decide) (by decide) (Nat.le_of_ble_eq_true rfl) (HM.u_hu (x) (t) (0)) (hc_s_hu (v := 0) (ht)) dX2_takeStoppingCode_18 (fun H locs hP hS => ?_)
      refine lv_iconst (v := 1) hx hb dX2_takeStoppingCode_21 (by decide) ?_
      exact ct_iret hx hb hr hlocks (by rw [HM.stc, if_pos ⟨c_1, c_2⟩]) (by rw [HM.stp, if_pos ⟨c_1, c_2⟩]; exact hP) hS dX2_takeStoppingCode_22
theorem in_X2_abortIfSilent_X2 : ∀ w ∈ u_ws RX2 TX2 9, w ∈ wsX2_abortIfSilent := by decide +kernel
theorem in_X2_abortIfSilent_X1 : ∀ w ∈ u_ws RX1 TX1 2, w ∈ wsX2_abortIfSilent := by decide +kernel
set_option maxHeartbeats 4000000 in
set_option maxRecDepth 100000 in
/-- Transaction.abortIfSilent -/
theorem c_silent (l : Launch) (D : va_G) (cy : Nat → ClassId) (ad : Nat → Nat) (ho : hc_ok ad) (x : HM) {t : Nat} (ht : t < 8) (hg : x.gt t < 4) : Ct l yX2_abortIfSilent wsX2_abortIfSilent ({ frames := 0, cells := 0, slots := 0, locals := 0 }) D cy (hc_A ad) [.ref (ad (57 + t))] (hc_mem ad cy (x)) none (hc_mem ad cy (x.sil t)) := by
  refine ct_of (cc := cX2_abortIfSilent) (maxL := 1) (ret := none) rfl (by decide) (Nat.le_of_ble_eq_true rfl) ?_
  intro p e s m below meth c ls G hx hb hml hr hlocks hP hS hl
  have hl : lv_has ls 1 [(0, .ref (ad (57 + t)))] := hl
  refine lv_aload_n hx hb dX2_abortIfSilent_0 rfl (lv_at hl 0 rfl) ?_
  refine hc_g_tx G (in_X2_abortIfSilent_X2) hP (ht) 0 (by decide) (by decide +kernel) (.int (HM.ph (x) (t))) rfl rfl dX2_abortIfSilent_1 ?_
  refine lv_iconst (v := 1) hx hb dX2_abortIfSilent_4 (by decide) ?_
  refine lv_icmp_ne (tgt := 30) hx hb dX2_abortIfSilent_5 (by decide) (fun c_1 => ?_) (fun c_1 => ?_)
  · exact ct_vret hx hb hr hlocks rfl (by rw [HM.sil, if_neg (fun q => c_1 q.1)]; exact hP) hS dX2_abortIfSilent_30
  · refine lv_aload_n hx hb dX2_abortIfSilent_8 rfl (lv_at hl 0 rfl) ?_
    refine hc_g_tx G (in_X2_abortIfSilent_X2) hP (ht) 1 (by decide) (by decide +kernel) (.ref (ad (5 + HM.gt (x) (t)))) rfl rfl dX2_abortIfSilent_9 ?_
    refine hc_g_noden G (in_X2_abortIfSilent_X1) hP (hg) 0 (by decide) (by decide +kernel) (.int (HM.rd (x) (HM.gt (x) (t)))) rfl rfl dX2_abortIfSilent_12 ?_
    refine lv_aload_n hx hb dX2_abortIfSilent_15 rfl (lv_at hl 0 rfl) ?_
    refine hc_g_tx G (in_X2_abortIfSilent_X2) hP (ht) 2 (by decide) (by decide +kernel) (.int (HM.bt (x) (t))) rfl rfl dX2_abortIfSilent_16 ?_
    refine lv_isub hx hb dX2_abortIfSilent_19 ?_
    refine lv_bipush (v := 40) hx hb dX2_abortIfSilent_20 (by decide) ?_
    refine lv_icmp_le (tgt := 30) hx hb dX2_abortIfSilent_22 (by decide) (fun c_2 => ?_) (fun c_2 => ?_)
    · exact ct_vret hx hb hr hlocks rfl (by rw [HM.sil, if_neg (fun q => Int32.not_le.mpr q.2 c_2)]; exact hP) hS dX2_abortIfSilent_30
    · refine lv_aload_n hx hb dX2_abortIfSilent_25 rfl (lv_at hl 0 rfl) ?_
      refine lv_iconst (v := 3) hx hb dX2_abortIfSilent_26 (by decide) ?_
      refine hc_p_tx ho G (in_X2_abortIfSilent_X2) hP hS (ht) 0 (by decide) (by decide +kernel) (.int (3)) rfl rfl (.int) (by decide +kernel) rfl rfl (Nat.le_of_ble_eq_true rfl) (HM.u_ph (x) (t) (3)) (hc_s_ph (v := 3) (ht)) dX2_abortIfSilent_27 (fun H locs hP hS => ?_)
      exact ct_vret hx hb hr hlocks rfl (by rw [HM.sil, if_pos ⟨c_1, Int32.not_le.mp c_2⟩]; exact hP) hS dX2_abortIfSilent_30
theorem in_X2_pushWriteStampAbove_X2 : ∀ w ∈ u_ws RX2 TX2 9, w ∈ wsX2_pushWriteStampAbove := by decide +kernel
set_option maxHeartbeats 4000000 in
set_option maxRecDepth 100000 in
/-- Transaction.pushWriteStampAbove -/
theorem c_push (l : Launch) (D : va_G) (cy : Nat → ClassId) (ad : Nat → Nat) (ho : hc_ok ad) (x : HM) {t : Nat} (ht : t < 8) (s0 : Int64) (hs0 : s0 < 9223372036854775807) : Ct l yX2_pushWriteStampAbove wsX2_pushWriteStampAbove ({ frames := 1, cells := 0, slots := 0, locals := 21 }) D cy (hc_A ad) [.ref (ad (57 + t)), .long (s0)] (hc_mem ad cy (x)) none (hc_mem ad cy (x.pu t s0)) := by
  refine ct_of (cc := cX2_pushWriteStampAbove) (maxL := 3) (ret := none) rfl (by decide) (Nat.le_of_ble_eq_true rfl) ?_
  intro p e s m below meth c ls G hx hb hml hr hlocks hP hS hl
  have hl : lv_has ls 3 [(0, .ref (ad (57 + t))), (1, .long (s0))] := hl
  refine lv_aload_n hx hb dX2_pushWriteStampAbove_0 rfl (lv_at hl 0 rfl) ?_
  refine lv_aload_n hx hb dX2_pushWriteStampAbove_1 rfl (lv_at hl 0 rfl) ?_
  refine hc_g_tx G (in_X2_pushWriteStampAbove_X2) hP (ht) 5 (by decide) (by decide +kernel) (.long (HM.ws (x) (t))) rfl rfl dX2_pushWriteStampAbove_2 ?_
  refine lv_lload_n hx hb dX2_pushWriteStampAbove_5 rfl (lv_at hl 1 rfl) ?_
  refine lv_lconst (v := 1) hx hb dX2_pushWriteStampAbove_6 (by decide) ?_
  refine lv_ladd hx hb dX2_pushWriteStampAbove_7 ?_
  refine va_mmax_long hx hb (hml.trans hl.1.symm) G.2.2.2.1 (G.2.2.1 (.methodLink RX2 60 Lib.MathLoose.max_long.x) (by decide +kernel)) (G.2.2.1 (.static Lib.MathLoose.max_long.x) (by decide +kernel)) (G.2.2.1 (.initialized "java/lang/Math") (by decide +kernel)) (G.2.2.1 (.code Lib.MathLoose.max_long.x Lib.MathLoose.max_long.code 4 (some .long)) (by decide +kernel)) (Nat.le_of_ble_eq_true rfl) (Nat.le_of_ble_eq_true rfl) (Nat.zero_le _) (Nat.zero_le _) dX2_pushWriteStampAbove_8 ?_
  refine hc_p_tx ho G (in_X2_pushWriteStampAbove_X2) hP hS (ht) 5 (by decide) (by decide +kernel) (.long ((if (s0 + 1) < HM.ws (x) (t) then HM.ws (x) (t) else (s0 + 1)))) rfl rfl (.long) (by decide +kernel) rfl rfl (Nat.le_of_ble_eq_true rfl) (HM.u_ws (x) (t) ((if (s0 + 1) < HM.ws (x) (t) then HM.ws (x) (t) else (s0 + 1)))) (hc_s_ws (v := (if (s0 + 1) < HM.ws (x) (t) then HM.ws (x) (t) else (s0 + 1))) (ht)) dX2_pushWriteStampAbove_11 (fun H locs hP hS => ?_)
  exact ct_vret hx hb hr hlocks rfl (by rw [HM.pu, ← hs_pu hs0]; exact hP) hS dX2_pushWriteStampAbove_14
theorem in_X2_moveTo_X2 : ∀ w ∈ u_ws RX2 TX2 9, w ∈ wsX2_moveTo := by decide +kernel
set_option maxHeartbeats 4000000 in
set_option maxRecDepth 100000 in
/-- Transaction.moveTo -/
theorem c_moveTo (l : Launch) (D : va_G) (cy : Nat → ClassId) (ad : Nat → Nat) (ho : hc_ok ad) (x : HM) {t : Nat} (ht : t < 8) (s0 : Int64) : Ct l yX2_moveTo wsX2_moveTo ({ frames := 1, cells := 0, slots := 0, locals := 21 }) D cy (hc_A ad) [.ref (ad (57 + t)), .long (s0)] (hc_mem ad cy (x)) none (hc_mem ad cy (x.mv t s0)) := by
  refine ct_of (cc := cX2_moveTo) (maxL := 3) (ret := none) rfl (by decide) (Nat.le_of_ble_eq_true rfl) ?_
  intro p e s m below meth c ls G hx hb hml hr hlocks hP hS hl
  have hl : lv_has ls 3 [(0, .ref (ad (57 + t))), (1, .long (s0))] := hl
  refine lv_aload_n hx hb dX2_moveTo_0 rfl (lv_at hl 0 rfl) ?_
  refine lv_iconst (v := 0) hx hb dX2_moveTo_1 (by decide) ?_
  refine hc_p_tx ho G (in_X2_moveTo_X2) hP hS (ht) 7 (by decide) (by decide +kernel) (.int (0)) rfl rfl (.int) (by decide +kernel) rfl rfl (Nat.le_of_ble_eq_true rfl) (HM.u_se (x) (t) (fun _ => false)) (hc_s_se0 ht) dX2_moveTo_2 (fun H locs hP hS => ?_)
  refine lv_aload_n hx hb dX2_moveTo_5 rfl (lv_at hl 0 rfl) ?_
  refine lv_aload_n hx hb dX2_moveTo_6 rfl (lv_at hl 0 rfl) ?_
  refine hc_g_tx G (in_X2_moveTo_X2) hP (ht) 5 (by decide) (by decide +kernel) (.long (HM.ws (HM.u_se (x) (t) (fun _ => false)) (t))) rfl rfl dX2_moveTo_7 ?_
  refine lv_lload_n hx hb dX2_moveTo_10 rfl (lv_at hl 1 rfl) ?_
  refine va_mmax_long hx hb (hml.trans hl.1.symm) G.2.2.2.1 (G.2.2.1 (.methodLink RX2 60 Lib.MathLoose.max_long.x) (by decide +kernel)) (G.2.2.1 (.static Lib.MathLoose.max_long.x) (by decide +kernel)) (G.2.2.1 (.initialized "java/lang/Math") (by decide +kernel)) (G.2.2.1 (.code Lib.MathLoose.max_long.x Lib.MathLoose.max_long.code 4 (some .long)) (by decide +kernel)) (Nat.le_of_ble_eq_true rfl) (Nat.le_of_ble_eq_true rfl) (Nat.zero_le _) (Nat.zero_le _) dX2_moveTo_11 ?_
  refine hc_p_tx ho G (in_X2_moveTo_X2) hP hS (ht) 5 (by decide) (by decide +kernel) (.long ((if s0 < HM.ws (HM.u_se (x) (t) (fun _ => false)) (t) then HM.ws (HM.u_se (x) (t) (fun _ => false)) (t) else s0))) rfl rfl (.long) (by decide +kernel) rfl rfl (Nat.le_of_ble_eq_true rfl) (HM.u_ws (HM.u_se (x) (t) (fun _ => false)) (t) ((if s0 < HM.ws (HM.u_se (x) (t) (fun _ => false)) (t) then HM.ws (HM.u_se (x) (t) (fun _ => false)) (t) else s0))) (hc_s_ws (v := (if s0 < HM.ws (HM.u_se (x) (t) (fun _ => false)) (t) then HM.ws (HM.u_se (x) (t) (fun _ => false)) (t) else s0)) (ht)) dX2_moveTo_14 (fun H locs hP hS => ?_)
  refine lv_aload_n hx hb dX2_moveTo_17 rfl (lv_at hl 0 rfl) ?_
  refine lv_aload_n hx hb dX2_moveTo_18 rfl (lv_at hl 0 rfl) ?_
  refine hc_g_tx G (in_X2_moveTo_X2) hP (ht) 5 (by decide) (by decide +kernel) (.long (HM.ws (HM.u_ws (HM.u_se (x) (t) (fun _ => false)) (t) ((if s0 < HM.ws (HM.u_se (x) (t) (fun _ => false)) (t) then HM.ws (HM.u_se (x) (t) (fun _ => false)) (t) else s0))) (t))) rfl rfl dX2_moveTo_19 ?_
  refine hc_p_tx ho G (in_X2_moveTo_X2) hP hS (ht) 4 (by decide) (by decide +kernel) (.long (HM.ws (HM.u_ws (HM.u_se (x) (t) (fun _ => false)) (t) ((if s0 < HM.ws (HM.u_se (x) (t) (fun _ => false)) (t) then HM.ws (HM.u_se (x) (t) (fun _ => false)) (t) else s0))) (t))) rfl rfl (.long) (by decide +kernel) rfl rfl (Nat.le_of_ble_eq_true rfl) (HM.u_rs (HM.u_ws (HM.u_se (x) (t) (fun _ => false)) (t) ((if s0 < HM.ws (HM.u_se (x) (t) (fun _ => false)) (t) then HM.ws (HM.u_se (x) (t) (fun _ => false)) (t) else s0))) (t) (HM.ws (HM.u_ws (HM.u_se (x) (t) (fun _ => false)) (t) ((if s0 < HM.ws (HM.u_se (x) (t) (fun _ => false)) (t) then HM.ws (HM.u_se (x) (t) (fun _ => false)) (t) else s0))) (t))) (hc_s_rs (v := HM.ws (HM.u_ws (HM.u_se (x) (t) (fun _ => false)) (t) ((if s0 < HM.ws (HM.u_se (x) (t) (fun _ => false)) (t) then HM.ws (HM.u_se (x) (t) (fun _ => false)) (t) else s0))) (t)) (ht)) dX2_moveTo_22 (fun H locs hP hS => ?_)
  refine lv_aload_n hx hb dX2_moveTo_25 rfl (lv_at hl 0 rfl) ?_
  refine lv_aload_n hx hb dX2_moveTo_26 rfl (lv_at hl 0 rfl) ?_
  refine hc_g_tx G (in_X2_moveTo_X2) hP (ht) 6 (by decide) (by decide +kernel) (.long (HM.lm (HM.u_rs (HM.u_ws (HM.u_se (x) (t) (fun _ => false)) (t) ((if s0 < HM.ws (HM.u_se (x) (t) (fun _ => false)) (t) then HM.ws (HM.u_se (x) (t) (fun _ => false)) (t) else s0))) (t) (HM.ws (HM.u_ws (HM.u_se (x) (t) (fun _ => false)) (t) ((if s0 < HM.ws (HM.u_se (x) (t) (fun _ => false)) (t) then HM.ws (HM.u_se (x) (t) (fun _ => false)) (t) else s0))) (t))) (t))) rfl rfl dX2_moveTo_27 ?_
  refine lv_aload_n hx hb dX2_moveTo_30 rfl (lv_at hl 0 rfl) ?_
  refine hc_g_tx G (in_X2_moveTo_X2) hP (ht) 4 (by decide) (by decide +kernel) (.long (HM.rs (HM.u_rs (HM.u_ws (HM.u_se (x) (t) (fun _ => false)) (t) ((if s0 < HM.ws (HM.u_se (x) (t) (fun _ => false)) (t) then HM.ws (HM.u_se (x) (t) (fun _ => false)) (t) else s0))) (t) (HM.ws (HM.u_ws (HM.u_se (x) (t) (fun _ => false)) (t) ((if s0 < HM.ws (HM.u_se (x) (t) (fun _ => false)) (t) then HM.ws (HM.u_se (x) (t) (fun _ => false)) (t) else s0))) (t))) (t))) rfl rfl dX2_moveTo_31 ?_
  refine va_mmax_long hx hb (hml.trans hl.1.symm) G.2.2.2.1 (G.2.2.1 (.methodLink RX2 60 Lib.MathLoose.max_long.x) (by decide +kernel)) (G.2.2.1 (.static Lib.MathLoose.max_long.x) (by decide +kernel)) (G.2.2.1 (.initialized "java/lang/Math") (by decide +kernel)) (G.2.2.1 (.code Lib.MathLoose.max_long.x Lib.MathLoose.max_long.code 4 (some .long)) (by decide +kernel)) (Nat.le_of_ble_eq_true rfl) (Nat.le_of_ble_eq_true rfl) (Nat.zero_le _) (Nat.zero_le _) dX2_moveTo_34 ?_
  refine hc_p_tx ho G (in_X2_moveTo_X2) hP hS (ht) 6 (by decide) (by decide +kernel) (.long ((if HM.rs (HM.u_rs (HM.u_ws (HM.u_se (x) (t) (fun _ => false)) (t) ((if s0 < HM.ws (HM.u_se (x) (t) (fun _ => false)) (t) then HM.ws (HM.u_se (x) (t) (fun _ => false)) (t) else s0))) (t) (HM.ws (HM.u_ws (HM.u_se (x) (t) (fun _ => false)) (t) ((if s0 < HM.ws (HM.u_se (x) (t) (fun _ => false)) (t) then HM.ws (HM.u_se (x) (t) (fun _ => false)) (t) else s0))) (t))) (t) < HM.lm (HM.u_rs (HM.u_ws (HM.u_se (x) (t) (fun _ => false)) (t) ((if s0 < HM.ws (HM.u_se (x) (t) (fun _ => false)) (t) then HM.ws (HM.u_se (x) (t) (fun _ => false)) (t) else s0))) (t) (HM.ws (HM.u_ws (HM.u_se (x) (t) (fun _ => false)) (t) ((if s0 < HM.ws (HM.u_se (x) (t) (fun _ => false)) (t) then HM.ws (HM.u_se (x) (t) (fun _ => false)) (t) else s0))) (t))) (t) then HM.lm (HM.u_rs (HM.u_ws (HM.u_se (x) (t) (fun _ => false)) (t) ((if s0 < HM.ws (HM.u_se (x) (t) (fun _ => false)) (t) then HM.ws (HM.u_se (x) (t) (fun _ => false)) (t) else s0))) (t) (HM.ws (HM.u_ws (HM.u_se (x) (t) (fun _ => false)) (t) ((if s0 < HM.ws (HM.u_se (x) (t) (fun _ => false)) (t) then HM.ws (HM.u_se (x) (t) (fun _ => false)) (t) else s0))) (t))) (t) else HM.rs (HM.u_rs (HM.u_ws (HM.u_se (x) (t) (fun _ => false)) (t) ((if s0 < HM.ws (HM.u_se (x) (t) (fun _ => false)) (t) then HM.ws (HM.u_se (x) (t) (fun _ => false)) (t) else s0))) (t) (HM.ws (HM.u_ws (HM.u_se (x) (t) (fun _ => false)) (t) ((if s0 < HM.ws (HM.u_se (x) (t) (fun _ => false)) (t) then HM.ws (HM.u_se (x) (t) (fun _ => false)) (t) else s0))) (t))) (t)))) rfl rfl (.long) (by decide +kernel) rfl rfl (Nat.le_of_ble_eq_true rfl) (HM.u_lm (HM.u_rs (HM.u_ws (HM.u_se (x) (t) (fun _ => false)) (t) ((if s0 < HM.ws (HM.u_se (x) (t) (fun _ => false)) (t) then HM.ws (HM.u_se (x) (t) (fun _ => false)) (t) else s0))) (t) (HM.ws (HM.u_ws (HM.u_se (x) (t) (fun _ => false)) (t) ((if s0 < HM.ws (HM.u_se (x) (t) (fun _ => false)) (t) then HM.ws (HM.u_se (x) (t) (fun _ => false)) (t) else s0))) (t))) (t) ((if HM.rs (HM.u_rs (HM.u_ws (HM.u_se (x) (t) (fun _ => false)) (t) ((if s0 < HM.ws (HM.u_se (x) (t) (fun _ => false)) (t) then HM.ws (HM.u_se (x) (t) (fun _ => false)) (t) else s0))) (t) (HM.ws (HM.u_ws (HM.u_se (x) (t) (fun _ => false)) (t) ((if s0 < HM.ws (HM.u_se (x) (t) (fun _ => false)) (t) then HM.ws (HM.u_se (x) (t) (fun _ => false)) (t) else s0))) (t))) (t) < HM.lm (HM.u_rs (HM.u_ws (HM.u_se (x) (t) (fun _ => false)) (t) ((if s0 < HM.ws (HM.u_se (x) (t) (fun _ => false)) (t) then HM.ws (HM.u_se (x) (t) (fun _ => false)) (t) else s0))) (t) (HM.ws (HM.u_ws (HM.u_se (x) (t) (fun _ => false)) (t) ((if s0 < HM.ws (HM.u_se (x) (t) (fun _ => false)) (t) then HM.ws (HM.u_se (x) (t) (fun _ => false)) (t) else s0))) (t))) (t) then HM.lm (HM.u_rs (HM.u_ws (HM.u_se (x) (t) (fun _ => false)) (t) ((if s0 < HM.ws (HM.u_se (x) (t) (fun _ => false)) (t) then HM.ws (HM.u_se (x) (t) (fun _ => false)) (t) else s0))) (t) (HM.ws (HM.u_ws (HM.u_se (x) (t) (fun _ => false)) (t) ((if s0 < HM.ws (HM.u_se (x) (t) (fun _ => false)) (t) then HM.ws (HM.u_se (x) (t) (fun _ => false)) (t) else s0))) (t))) (t) else HM.rs (HM.u_rs (HM.u_ws (HM.u_se (x) (t) (fun _ => false)) (t) ((if s0 < HM.ws (HM.u_se (x) (t) (fun _ => false)) (t) then HM.ws (HM.u_se (x) (t) (fun _ => false)) (t) else s0))) (t) (HM.ws (HM.u_ws (HM.u_se (x) (t) (fun _ => false)) (t) ((if s0 < HM.ws (HM.u_se (x) (t) (fun _ => false)) (t) then HM.ws (HM.u_se (x) (t) (fun _ => false)) (t) else s0))) (t))) (t)))) (hc_s_lm (v := (if HM.rs (HM.u_rs (HM.u_ws (HM.u_se (x) (t) (fun _ => false)) (t) ((if s0 < HM.ws (HM.u_se (x) (t) (fun _ => false)) (t) then HM.ws (HM.u_se (x) (t) (fun _ => false)) (t) else s0))) (t) (HM.ws (HM.u_ws (HM.u_se (x) (t) (fun _ => false)) (t) ((if s0 < HM.ws (HM.u_se (x) (t) (fun _ => false)) (t) then HM.ws (HM.u_se (x) (t) (fun _ => false)) (t) else s0))) (t))) (t) < HM.lm (HM.u_rs (HM.u_ws (HM.u_se (x) (t) (fun _ => false)) (t) ((if s0 < HM.ws (HM.u_se (x) (t) (fun _ => false)) (t) then HM.ws (HM.u_se (x) (t) (fun _ => false)) (t) else s0))) (t) (HM.ws (HM.u_ws (HM.u_se (x) (t) (fun _ => false)) (t) ((if s0 < HM.ws (HM.u_se (x) (t) (fun _ => false)) (t) then HM.ws (HM.u_se (x) (t) (fun _ => false)) (t) else s0))) (t))) (t) then HM.lm (HM.u_rs (HM.u_ws (HM.u_se (x) (t) (fun _ => false)) (t) ((if s0 < HM.ws (HM.u_se (x) (t) (fun _ => false)) (t) then HM.ws (HM.u_se (x) (t) (fun _ => false)) (t) else s0))) (t) (HM.ws (HM.u_ws (HM.u_se (x) (t) (fun _ => false)) (t) ((if s0 < HM.ws (HM.u_se (x) (t) (fun _ => false)) (t) then HM.ws (HM.u_se (x) (t) (fun _ => false)) (t) else s0))) (t))) (t) else HM.rs (HM.u_rs (HM.u_ws (HM.u_se (x) (t) (fun _ => false)) (t) ((if s0 < HM.ws (HM.u_se (x) (t) (fun _ => false)) (t) then HM.ws (HM.u_se (x) (t) (fun _ => false)) (t) else s0))) (t) (HM.ws (HM.u_ws (HM.u_se (x) (t) (fun _ => false)) (t) ((if s0 < HM.ws (HM.u_se (x) (t) (fun _ => false)) (t) then HM.ws (HM.u_se (x) (t) (fun _ => false)) (t) else s0))) (t))) (t))) (ht)) dX2_moveTo_37 (fun H locs hP hS => ?_)
  exact ct_vret hx hb hr hlocks rfl hP hS dX2_moveTo_40
theorem in_X0_raiseReadMark_X0 : ∀ w ∈ u_ws RX0 TX0 8, w ∈ wsX0_raiseReadMark := by decide +kernel
set_option maxHeartbeats 4000000 in
set_option maxRecDepth 100000 in
/-- Key.raiseReadMark -/
theorem c_raise (l : Launch) (D : va_G) (cy : Nat → ClassId) (ad : Nat → Nat) (ho : hc_ok ad) (x : HM) {k : Nat} (hk : k < 16) (s0 : Int64) : Ct l yX0_raiseReadMark wsX0_raiseReadMark ({ frames := 1, cells := 0, slots := 0, locals := 21 }) D cy (hc_A ad) [.ref (ad (9 + k)), .long (s0)] (hc_mem ad cy (x)) none (hc_mem ad cy (x.u_lr k (if s0 < x.lr k then x.lr k else s0))) := by
  refine ct_of (cc := cX0_raiseReadMark) (maxL := 3) (ret := none) rfl (by decide) (Nat.le_of_ble_eq_true rfl) ?_
  intro p e s m below meth c ls G hx hb hml hr hlocks hP hS hl
  have hl : lv_has ls 3 [(0, .ref (ad (9 + k))), (1, .long (s0))] := hl
  refine lv_aload_n hx hb dX0_raiseReadMark_0 rfl (lv_at hl 0 rfl) ?_
  refine lv_aload_n hx hb dX0_raiseReadMark_1 rfl (lv_at hl 0 rfl) ?_
  refine hc_g_key G (in_X0_raiseReadMark_X0) hP (hk) 5 (by decide) (by decide +kernel) (.long (HM.lr (x) (k))) rfl rfl dX0_raiseReadMark_2 ?_
  refine lv_lload_n hx hb dX0_raiseReadMark_5 rfl (lv_at hl 1 rfl) ?_
  refine va_mmax_long hx hb (hml.trans hl.1.symm) G.2.2.2.1 (G.2.2.1 (.methodLink RX0 31 Lib.MathLoose.max_long.x) (by decide +kernel)) (G.2.2.1 (.static Lib.MathLoose.max_long.x) (by decide +kernel)) (G.2.2.1 (.initialized "java/lang/Math") (by decide +kernel)) (G.2.2.1 (.code Lib.MathLoose.max_long.x Lib.MathLoose.max_long.code 4 (some .long)) (by decide +kernel)) (Nat.le_of_ble_eq_true rfl) (Nat.le_of_ble_eq_true rfl) (Nat.zero_le _) (Nat.zero_le _) dX0_raiseReadMark_6 ?_
  refine hc_p_key ho G (in_X0_raiseReadMark_X0) hP hS (hk) 5 (by decide) (by decide +kernel) (.long ((if s0 < HM.lr (x) (k) then HM.lr (x) (k) else s0))) rfl rfl (.long) (by decide +kernel) rfl rfl (Nat.le_of_ble_eq_true rfl) (HM.u_lr (x) (k) ((if s0 < HM.lr (x) (k) then HM.lr (x) (k) else s0))) (hc_s_lr (v := (if s0 < HM.lr (x) (k) then HM.lr (x) (k) else s0)) (hk)) dX0_raiseReadMark_9 (fun H locs hP hS => ?_)
  exact ct_vret hx hb hr hlocks rfl hP hS dX0_raiseReadMark_12
end
section
/-! ===== the newest version: by index, by list ===== -/
theorem hs_bi_succ (f : Nat → Int64) (a u : Int64) (n : Nat) : hs_bi f a u (n + 1) = if hs_fl f a (hs_bi f a u n) < f n ∧ f n ≤ u then some n else hs_bi f a u n := rfl
theorem hs_bi_lt {f : Nat → Int64} {a u : Int64} : ∀ {n j : Nat}, hs_bi f a u n = some j → j < n := by
  intro n
  induction n with
  | zero => intro j h; cases h
  | succ n ih =>
    intro j h
    rw [hs_bi_succ] at h
    split at h
    · cases h; omega
    · have := ih h; omega
theorem hs_bi_congr {f g : Nat → Int64} {a u : Int64} : ∀ {n : Nat}, (∀ i, i < n → f i = g i) → hs_bi f a u n = hs_bi g a u n := by
  intro n
  induction n with
  | zero => intro _; rfl
  | succ n ih =>
    intro h
    have e := ih (fun i hi => h i (by omega))
    rw [hs_bi_succ, hs_bi_succ, e, h n (by omega)]
    have e2 : hs_fl f a (hs_bi g a u n) = hs_fl g a (hs_bi g a u n) := by
      cases hq : hs_bi g a u n with
      | none => rfl
      | some j => exact h j (by have := hs_bi_lt hq; omega)
    rw [e2]
theorem hs_best_append (a u : Int64) (l : List (Int64 × Int32)) (v : Int64 × Int32) : hs_best a u (l ++ [v]) = hs_fb a u (hs_best a u l) v := by
  simp [hs_best, List.foldl_append]
def hs_lf (l : List (Int64 × Int32)) : Nat → Int64 := fun i => (l.getD i (0, 0)).1
theorem hs_best_bi (a u : Int64) : ∀ (n : Nat) (l : List (Int64 × Int32)), l.length = n → hs_best a u l = (hs_bi (hs_lf l) a u n).map (fun j => l.getD j (0, 0)) := by
  intro n
  induction n with
  | zero => intro l h; rw [List.length_eq_zero_iff.mp h]; rfl
  | succ n ih =>
    intro l h
    have hne : l ≠ [] := fun q => by rw [q] at h; cases h
    obtain ⟨l', v, rfl⟩ : ∃ l' v, l = l' ++ [v] := ⟨l.dropLast, l.getLast hne, (List.dropLast_concat_getLast hne).symm⟩
    have hn : l'.length = n := by simpa using h
    have ev : (l' ++ [v]).getD n (0, 0) = v := by rw [← hn]; simp [List.getD]
    have eo : ∀ j, j < n → (l' ++ [v]).getD j (0, 0) = l'.getD j (0, 0) := fun j hj => by
      simp [List.getD, List.getElem?_append_left (show j < l'.length by omega)]
    have eb : hs_bi (hs_lf (l' ++ [v])) a u n = hs_bi (hs_lf l') a u n := hs_bi_congr (fun i hi => by simp only [hs_lf]; rw [eo i hi])
    rw [hs_best_append, ih l' hn]
    rw [hs_bi_succ, eb]
    have ef : hs_lf (l' ++ [v]) n = v.1 := by simp only [hs_lf]; rw [ev]
    rw [ef]
    cases hq : hs_bi (hs_lf l') a u n with
    | none =>
      show hs_fb a u none v = Option.map _ (if a < v.1 ∧ v.1 ≤ u then some n else none)
      unfold hs_fb
      by_cases c : a < v.1 ∧ v.1 ≤ u
      · rw [if_pos c, if_pos c]; simp only [Option.map_some]; rw [ev]
      · rw [if_neg c, if_neg c]; rfl
    | some j =>
      have hj := hs_bi_lt hq
      have e3 : hs_lf (l' ++ [v]) j = (l'.getD j (0, 0)).1 := by simp only [hs_lf]; rw [eo j hj]
      show hs_fb a u (some (l'.getD j (0, 0))) v = Option.map _ (if hs_lf (l' ++ [v]) j < v.1 ∧ v.1 ≤ u then some n else some j)
      rw [e3]
      unfold hs_fb
      by_cases c : (l'.getD j (0, 0)).1 < v.1 ∧ v.1 ≤ u
      · rw [if_pos c, if_pos c]; simp only [Option.map_some]; rw [ev]
      · rw [if_neg c, if_neg c]; simp only [Option.map_some]; rw [eo j hj]
theorem hs_ix_m1 {f : Nat → Int64} {a u : Int64} {n : Nat} (hn : n < 2 ^ 31) : hs_ix (hs_bi f a u n) = -1 ↔ hs_bi f a u n = none := by
  cases hq : hs_bi f a u n with
  | none => simp [hs_ix]
  | some j =>
    have hj := hs_bi_lt hq
    simp only [hs_ix]
    refine ⟨fun h => ?_, fun h => by cases h⟩
    have := nI_pos (n := j) (by omega)
    rw [h] at this
    exact absurd (by decide) this
end
section
theorem in_X0_newestIn_X0 : ∀ w ∈ u_ws RX0 TX0 8, w ∈ wsX0_newestIn := by decide +kernel
set_option maxHeartbeats 4000000 in
set_option maxRecDepth 100000 in
/-- Key.newestIn -/
theorem c_newestIn (l : Launch) (D : va_G) (cy : Nat → ClassId) (ad : Nat → Nat) (ho : hc_ok ad) (x : HM) {k : Nat} (hk : k < 16) (hn16 : (x.vk k).length ≤ 16) (a u : Int64) : Ct l yX0_newestIn wsX0_newestIn ({ frames := 0, cells := 0, slots := 0, locals := 0 }) D cy (hc_A ad) [.ref (ad (9 + k)), .long (a), .long (u)] (hc_mem ad cy (x)) (some (.int (hs_ix (hs_bi (hc_stA x k) a u (x.vk k).length)))) (hc_mem ad cy (x)) := by
  refine ct_of (cc := cX0_newestIn) (maxL := 9) (ret := (some .int)) rfl (by decide) (Nat.le_of_ble_eq_true rfl) ?_
  intro p e s m below meth c ls G hx hb hml hr hlocks hP hS hl
  have hl : lv_has ls 9 [(0, .ref (ad (9 + k))), (1, .long (a)), (3, .long (u))] := hl
  have loop : ∀ (n i : Nat), i ≤ (x.vk k).length → (x.vk k).length + 1 ≤ i + n → ∀ ls : Array Slot, lv_has ls 9 [(8, .int (nI (i))), (6, .long (hs_fl (hc_stA x k) a (hs_bi (hc_stA x k) a u (i)))), (5, .int (hs_ix (hs_bi (hc_stA x k) a u (i)))), (0, .ref (ad (9 + k))), (1, .long (a)), (3, .long (u))] → W p l e ({ frames := 0, cells := 0, slots := 0, locals := 0 }) s m [.ref (ad (9 + k)), .long a, .long u].toArray below meth c s.heap [] 0 0 (MQ below (hs_Post D (some (.int (hs_ix (hs_bi (hc_stA x k) a u (x.vk k).length)))) (hc_mem ad cy x) (hc_A ad)) [.ref (ad (9 + k)), .long a, .long u].toArray s 0 0 (hc_A ad)) (F0 m 9 ls []) := by
    intro n
    induction n with
    | zero => intro i h1 h2; exact absurd h2 (by omega)
    | succ n ih =>
      intro i hi hin ls hl
      refine lv_iload hx hb dX0_newestIn_9 (lv_at hl 0 rfl) ?_
      refine lv_aload_n hx hb dX0_newestIn_11 rfl (lv_at hl 3 rfl) ?_
      refine hc_g_key G (in_X0_newestIn_X0) hP (hk) 4 (by decide) (by decide +kernel) (.int (nI (HM.vk (x) (k)).length)) rfl rfl dX0_newestIn_12 ?_
      refine lv_icmp_ge (tgt := 62) hx hb dX0_newestIn_15 (by decide) (fun c_1 => ?_) (fun c_1 => ?_)
      · have hie : i = (x.vk k).length := Nat.le_antisymm hi ((nI_leI (by omega) (by omega)).mp c_1)
        refine lv_iload hx hb dX0_newestIn_62 (lv_at hl 2 rfl) ?_
        exact ct_iret hx hb hr hlocks (by rw [hie]) hP hS dX0_newestIn_64
      · have hlt : i < (x.vk k).length := Nat.lt_of_not_le (fun q => c_1 (nI_le q (by omega)))
        refine lv_aload_n hx hb dX0_newestIn_18 rfl (lv_at hl 3 rfl) ?_
        refine hc_g_key G (in_X0_newestIn_X0) hP (hk) 2 (by decide) (by decide +kernel) (.ref (ad (25 + k))) rfl rfl dX0_newestIn_19 ?_
        refine lv_iload hx hb dX0_newestIn_22 (lv_at hl 0 rfl) ?_
        refine va_lald hx hb G.2.2.2.2.1 hP (25 + k) 1 (hc_at_st (hk)) rfl (hs_in (k := i) (n := 16) (nI_clamp (by omega)) (hs_inN (by omega) (by decide))) dX0_newestIn_24 ?_
        rw [show Int32.toNatClampNeg (nI (i)) = i from nI_clamp (by omega)]
        refine lv_lload hx hb dX0_newestIn_25 (lv_at hl 1 rfl) ?_
        refine hs_lle (x := hc_stA (x) (k) (i)) (y := hs_fl (hc_stA x k) a (hs_bi (hc_stA x k) a u (i))) (tgt := 56) hx hb dX0_newestIn_27 dX0_newestIn_28 (by decide) (fun c_2 => ?_) (fun c_2 => ?_)
        · refine lv_iinc (v := nI (i + 1)) (lv' := [(8, .int (nI (i + 1))), (6, .long (hs_fl (hc_stA x k) a (hs_bi (hc_stA x k) a u (i)))), (5, .int (hs_ix (hs_bi (hc_stA x k) a u (i)))), (0, .ref (ad (9 + k))), (1, .long (a)), (3, .long (u))]) hx hb dX0_newestIn_56 hl (k := 0) rfl (nI_1 i) (by decide) rfl (fun ls hl => ?_)
          refine lv_goto (tgt := 9) hx hb dX0_newestIn_59 (by decide) ?_
          have e1 : hs_bi (hc_stA x k) a u (i + 1) = hs_bi (hc_stA x k) a u i := if_neg (fun q => c_2 q.1)
          refine ih (i + 1) (by omega) (by omega) ls ?_
          rw [e1]; exact lv_sub hl [0, 1, 2, 3, 4, 5] rfl
        · refine lv_aload_n hx hb dX0_newestIn_31 rfl (lv_at hl 3 rfl) ?_
          refine hc_g_key G (in_X0_newestIn_X0) hP (hk) 2 (by decide) (by decide +kernel) (.ref (ad (25 + k))) rfl rfl dX0_newestIn_32 ?_
          refine lv_iload hx hb dX0_newestIn_35 (lv_at hl 0 rfl) ?_
          refine va_lald hx hb G.2.2.2.2.1 hP (25 + k) 1 (hc_at_st (hk)) rfl (hs_in (k := i) (n := 16) (nI_clamp (by omega)) (hs_inN (by omega) (by decide))) dX0_newestIn_37 ?_
          rw [show Int32.toNatClampNeg (nI (i)) = i from nI_clamp (by omega)]
          refine lv_lload_n hx hb dX0_newestIn_38 rfl (lv_at hl 5 rfl) ?_
          refine hs_lgt (x := hc_stA (x) (k) (i)) (y := u) (tgt := 56) hx hb dX0_newestIn_39 dX0_newestIn_40 (by decide) (fun c_3 => ?_) (fun c_3 => ?_)
          · refine lv_iinc (v := nI (i + 1)) (lv' := [(8, .int (nI (i + 1))), (6, .long (hs_fl (hc_stA x k) a (hs_bi (hc_stA x k) a u (i)))), (5, .int (hs_ix (hs_bi (hc_stA x k) a u (i)))), (0, .ref (ad (9 + k))), (1, .long (a)), (3, .long (u))]) hx hb dX0_newestIn_56 hl (k := 0) rfl (nI_1 i) (by decide) rfl (fun ls hl => ?_)
            refine lv_goto (tgt := 9) hx hb dX0_newestIn_59 (by decide) ?_
            have e1 : hs_bi (hc_stA x k) a u (i + 1) = hs_bi (hc_stA x k) a u i := if_neg (fun q => Int64.not_le.mpr c_3 q.2)
            refine ih (i + 1) (by omega) (by omega) ls ?_
            rw [e1]; exact lv_sub hl [0, 1, 2, 3, 4, 5] rfl
          · refine lv_aload_n hx hb dX0_newestIn_43 rfl (lv_at hl 3 rfl) ?_
            refine hc_g_key G (in_X0_newestIn_X0) hP (hk) 2 (by decide) (by decide +kernel) (.ref (ad (25 + k))) rfl rfl dX0_newestIn_44 ?_
            refine lv_iload hx hb dX0_newestIn_47 (lv_at hl 0 rfl) ?_
            refine va_lald hx hb G.2.2.2.2.1 hP (25 + k) 1 (hc_at_st (hk)) rfl (hs_in (k := i) (n := 16) (nI_clamp (by omega)) (hs_inN (by omega) (by decide))) dX0_newestIn_49 ?_
            rw [show Int32.toNatClampNeg (nI (i)) = i from nI_clamp (by omega)]
            refine lv_lstore (lv' := [(6, .long (hc_stA (x) (k) (i))), (8, .int (nI (i))), (5, .int (hs_ix (hs_bi (hc_stA x k) a u (i)))), (0, .ref (ad (9 + k))), (1, .long (a)), (3, .long (u))]) hx hb dX0_newestIn_50 hl (by decide) rfl (fun ls hl => ?_)
            refine lv_iload hx hb dX0_newestIn_52 (lv_at hl 1 rfl) ?_
            refine lv_istore (lv' := [(5, .int (nI (i))), (6, .long (hc_stA (x) (k) (i))), (8, .int (nI (i))), (0, .ref (ad (9 + k))), (1, .long (a)), (3, .long (u))]) hx hb dX0_newestIn_54 hl (by decide) rfl (fun ls hl => ?_)
            refine lv_iinc (v := nI (i + 1)) (lv' := [(8, .int (nI (i + 1))), (5, .int (nI (i))), (6, .long (hc_stA (x) (k) (i))), (0, .ref (ad (9 + k))), (1, .long (a)), (3, .long (u))]) hx hb dX0_newestIn_56 hl (k := 2) rfl (nI_1 i) (by decide) rfl (fun ls hl => ?_)
            refine lv_goto (tgt := 9) hx hb dX0_newestIn_59 (by decide) ?_
            have e1 : hs_bi (hc_stA x k) a u (i + 1) = some i := if_pos ⟨c_2, Int64.not_lt.mp c_3⟩
            refine ih (i + 1) (by omega) (by omega) ls ?_
            rw [e1]; exact lv_sub hl [0, 2, 1, 3, 4, 5] rfl
  refine lv_iconst (v := (-1)) hx hb dX0_newestIn_0 (by decide) ?_
  refine lv_istore (lv' := [(5, .int ((-1))), (0, .ref (ad (9 + k))), (1, .long (a)), (3, .long (u))]) hx hb dX0_newestIn_1 hl (by decide) rfl (fun ls hl => ?_)
  refine lv_lload_n hx hb dX0_newestIn_3 rfl (lv_at hl 2 rfl) ?_
  refine lv_lstore (lv' := [(6, .long (a)), (5, .int ((-1))), (0, .ref (ad (9 + k))), (1, .long (a)), (3, .long (u))]) hx hb dX0_newestIn_4 hl (by decide) rfl (fun ls hl => ?_)
  refine lv_iconst (v := 0) hx hb dX0_newestIn_6 (by decide) ?_
  refine lv_istore (lv' := [(8, .int (0)), (6, .long (a)), (5, .int ((-1))), (0, .ref (ad (9 + k))), (1, .long (a)), (3, .long (u))]) hx hb dX0_newestIn_7 hl (by decide) rfl (fun ls hl => ?_)
  exact loop ((x.vk k).length + 1) 0 (Nat.zero_le _) (by omega) ls (lv_sub hl [0, 1, 2, 3, 4, 5] rfl)
theorem in_X0_greatestStampIn_X0 : ∀ w ∈ u_ws RX0 TX0 8, w ∈ wsX0_greatestStampIn := by decide +kernel
set_option maxHeartbeats 4000000 in
set_option maxRecDepth 100000 in
/-- Key.greatestStampIn -/
theorem c_greatest (l : Launch) (D : va_G) (cy : Nat → ClassId) (ad : Nat → Nat) (ho : hc_ok ad) (x : HM) {k : Nat} (hk : k < 16) (hn16 : (x.vk k).length ≤ 16) (a u : Int64) : Ct l yX0_greatestStampIn wsX0_greatestStampIn ({ frames := 1, cells := 0, slots := 0, locals := 28 }) D cy (hc_A ad) [.ref (ad (9 + k)), .long (a), .long (u)] (hc_mem ad cy (x)) (some (.long (hs_gs (hs_best a u (x.vk k))))) (hc_mem ad cy (x)) := by
  refine ct_of (cc := cX0_greatestStampIn) (maxL := 6) (ret := (some .long)) rfl (by decide) (Nat.le_of_ble_eq_true rfl) ?_
  intro p e s m below meth c ls G hx hb hml hr hlocks hP hS hl
  have hl : lv_has ls 6 [(0, .ref (ad (9 + k))), (1, .long (a)), (3, .long (u))] := hl
  have hbi := hs_best_bi a u _ (x.vk k) rfl
  refine lv_aload_n hx hb dX0_greatestStampIn_0 rfl (lv_at hl 0 rfl) ?_
  refine lv_lload_n hx hb dX0_greatestStampIn_1 rfl (lv_at hl 1 rfl) ?_
  refine lv_lload_n hx hb dX0_greatestStampIn_2 rfl (lv_at hl 2 rfl) ?_
  refine hs_callV (n := 2) (As := [.long (a), .long (u)]) (rest := []) G hml (c_newestIn l D cy ad ho (x) (hk) hn16 (a) (u)) gX0_greatestStampIn_X0_newestIn rfl rfl rfl (by decide +kernel) ⟨Nat.le_of_ble_eq_true rfl, Nat.le_of_ble_eq_true rfl⟩ (ci := 0) rfl rfl (hc_at_key (hk)) rfl hl.1 (Nat.le_of_ble_eq_true rfl) ⟨Nat.zero_le _, Nat.zero_le _⟩ hP hS (fun _ h => h) rfl dX0_greatestStampIn_3 (fun H locs hP hS _ _ => ?_)
  refine lv_istore (lv' := [(5, .int (hs_ix (hs_bi (hc_stA (x) (k)) (a) (u) (HM.vk (x) (k)).length))), (0, .ref (ad (9 + k))), (1, .long (a)), (3, .long (u))]) hx hb dX0_greatestStampIn_6 hl (by decide) rfl (fun ls hl => ?_)
  refine lv_iload hx hb dX0_greatestStampIn_8 (lv_at hl 0 rfl) ?_
  refine lv_iconst (v := (-1)) hx hb dX0_greatestStampIn_10 (by decide) ?_
  refine lv_icmp_ne (tgt := 20) hx hb dX0_greatestStampIn_11 (by decide) (fun c_1 => ?_) (fun c_1 => ?_)
  · obtain ⟨j, hj⟩ : ∃ j, hs_bi (hc_stA x k) a u (x.vk k).length = some j := Option.ne_none_iff_exists'.mp (fun q => c_1 ((hs_ix_m1 (by omega)).mpr q))
    have hjl := hs_bi_lt hj
    have hjx : hs_ix (hs_bi (hc_stA (x) (k)) (a) (u) (HM.vk (x) (k)).length) = nI j := by rw [hj]; rfl
    refine lv_aload_n hx hb dX0_greatestStampIn_20 rfl (lv_at hl 1 rfl) ?_
    refine hc_g_key G (in_X0_greatestStampIn_X0) hP (hk) 2 (by decide) (by decide +kernel) (.ref (ad (25 + k))) rfl rfl dX0_greatestStampIn_21 ?_
    refine lv_iload hx hb dX0_greatestStampIn_24 (lv_at hl 0 rfl) ?_
    refine va_lald hx hb G.2.2.2.2.1 hP (25 + k) 1 (hc_at_st (hk)) rfl (hs_in (k := j) (n := 16) (by rw [hjx]; exact nI_clamp (by omega)) (by rw [hjx]; exact hs_inN (by omega) (by decide))) dX0_greatestStampIn_26 ?_
    rw [show Int32.toNatClampNeg (hs_ix (hs_bi (hc_stA (x) (k)) (a) (u) (HM.vk (x) (k)).length)) = j from by rw [hjx]; exact nI_clamp (by omega)]
    exact ct_lret hx hb hr hlocks (by rw [hbi]; show _ = some (Value.long (hs_gs (Option.map _ (hs_bi (hc_stA x k) a u (x.vk k).length)))); rw [hj]; rfl) hP hS dX0_greatestStampIn_27
  · have hj : hs_bi (hc_stA x k) a u (x.vk k).length = none := (hs_ix_m1 (by omega)).mp c_1
    refine lv_ldc2 (v := (-1)) hx hb G.2.2.2.1 (G.2.2.1 (.constantLong RX0 41 (-1)) (by decide +kernel)) dX0_greatestStampIn_14 ?_
    refine lv_goto (tgt := 27) hx hb dX0_greatestStampIn_17 (by decide) ?_
    exact ct_lret hx hb hr hlocks (by rw [hbi]; show _ = some (Value.long (hs_gs (Option.map _ (hs_bi (hc_stA x k) a u (x.vk k).length)))); rw [hj]; rfl) hP hS dX0_greatestStampIn_27
theorem in_X0_valueAt_X0 : ∀ w ∈ u_ws RX0 TX0 8, w ∈ wsX0_valueAt := by decide +kernel
set_option maxHeartbeats 4000000 in
set_option maxRecDepth 100000 in
/-- Key.valueAt -/
theorem c_valueAt (l : Launch) (D : va_G) (cy : Nat → ClassId) (ad : Nat → Nat) (ho : hc_ok ad) (x : HM) {k : Nat} (hk : k < 16) (hn16 : (x.vk k).length ≤ 16) (u : Int64) : Ct l yX0_valueAt wsX0_valueAt ({ frames := 1, cells := 0, slots := 0, locals := 28 }) D cy (hc_A ad) [.ref (ad (9 + k)), .long (u)] (hc_mem ad cy (x)) (some (.int (hs_gv (hs_best (-1) u (x.vk k))))) (hc_mem ad cy (x)) := by
  refine ct_of (cc := cX0_valueAt) (maxL := 4) (ret := (some .int)) rfl (by decide) (Nat.le_of_ble_eq_true rfl) ?_
  intro p e s m below meth c ls G hx hb hml hr hlocks hP hS hl
  have hl : lv_has ls 4 [(0, .ref (ad (9 + k))), (1, .long (u))] := hl
  have hbi := hs_best_bi (-1) u _ (x.vk k) rfl
  refine lv_aload_n hx hb dX0_valueAt_0 rfl (lv_at hl 0 rfl) ?_
  refine lv_ldc2 (v := (-1)) hx hb G.2.2.2.1 (G.2.2.1 (.constantLong RX0 41 (-1)) (by decide +kernel)) dX0_valueAt_1 ?_
  refine lv_lload_n hx hb dX0_valueAt_4 rfl (lv_at hl 1 rfl) ?_
  refine hs_callV (n := 2) (As := [.long ((-1)), .long (u)]) (rest := []) G hml (c_newestIn l D cy ad ho (x) (hk) hn16 ((-1)) (u)) gX0_valueAt_X0_newestIn rfl rfl rfl (by decide +kernel) ⟨Nat.le_of_ble_eq_true rfl, Nat.le_of_ble_eq_true rfl⟩ (ci := 0) rfl rfl (hc_at_key (hk)) rfl hl.1 (Nat.le_of_ble_eq_true rfl) ⟨Nat.zero_le _, Nat.zero_le _⟩ hP hS (fun _ h => h) rfl dX0_valueAt_5 (fun H locs hP hS _ _ => ?_)
  refine lv_istore_n (lv' := [(3, .int (hs_ix (hs_bi (hc_stA (x) (k)) ((-1)) (u) (HM.vk (x) (k)).length))), (0, .ref (ad (9 + k))), (1, .long (u))]) hx hb dX0_valueAt_8 rfl hl (by decide) rfl (fun ls hl => ?_)
  refine lv_iload_n hx hb dX0_valueAt_9 rfl (lv_at hl 0 rfl) ?_
  refine lv_iconst (v := (-1)) hx hb dX0_valueAt_10 (by decide) ?_
  refine lv_icmp_ne (tgt := 18) hx hb dX0_valueAt_11 (by decide) (fun c_1 => ?_) (fun c_1 => ?_)
  · obtain ⟨j, hj⟩ : ∃ j, hs_bi (hc_stA x k) (-1) u (x.vk k).length = some j := Option.ne_none_iff_exists'.mp (fun q => c_1 ((hs_ix_m1 (by omega)).mpr q))
    have hjl := hs_bi_lt hj
    have hjx : hs_ix (hs_bi (hc_stA (x) (k)) ((-1)) (u) (HM.vk (x) (k)).length) = nI j := by rw [hj]; rfl
    refine lv_aload_n hx hb dX0_valueAt_18 rfl (lv_at hl 1 rfl) ?_
    refine hc_g_key G (in_X0_valueAt_X0) hP (hk) 3 (by decide) (by decide +kernel) (.ref (ad (41 + k))) rfl rfl dX0_valueAt_19 ?_
    refine lv_iload_n hx hb dX0_valueAt_22 rfl (lv_at hl 0 rfl) ?_
    refine va_iald hx hb G.2.2.2.2.1 hP (41 + k) 0 (hc_at_va (hk)) rfl (hs_in (k := j) (n := 16) (by rw [hjx]; exact nI_clamp (by omega)) (by rw [hjx]; exact hs_inN (by omega) (by decide))) dX0_valueAt_23 ?_
    rw [show Int32.toNatClampNeg (hs_ix (hs_bi (hc_stA (x) (k)) ((-1)) (u) (HM.vk (x) (k)).length)) = j from by rw [hjx]; exact nI_clamp (by omega)]
    exact ct_iret hx hb hr hlocks (by rw [hbi]; show _ = some (Value.int (hs_gv (Option.map _ (hs_bi (hc_stA x k) (-1) u (x.vk k).length)))); rw [hj]; rfl) hP hS dX0_valueAt_24
  · have hj : hs_bi (hc_stA x k) (-1) u (x.vk k).length = none := (hs_ix_m1 (by omega)).mp c_1
    refine lv_iconst (v := 0) hx hb dX0_valueAt_14 (by decide) ?_
    refine lv_goto (tgt := 24) hx hb dX0_valueAt_15 (by decide) ?_
    exact ct_iret hx hb hr hlocks (by rw [hbi]; show _ = some (Value.int (hs_gv (Option.map _ (hs_bi (hc_stA x k) (-1) u (x.vk k).length)))); rw [hj]; rfl) hP hS dX0_valueAt_24
end
section
/-! ===== versions added, commits logged, intents cleared ===== -/
theorem hs_rset1 {ad : Nat → Nat} {f : Nat → va_E} {n j0 : Nat} {e : va_E} : ((List.range n).map (fun j => (ad j, f j))).set j0 (ad j0, e) = (List.range n).map (fun j => (ad j, va_up f j0 e j)) := by
  have h := hs_rset (f := fun j => (ad j, f j)) (g := fun j => (ad j, va_up f j0 e j)) (n := n) (j0 := j0) (fun j _ hne => by rw [va_up_ne _ _ hne])
  rw [va_up_self] at h
  exact h
theorem hs_vk_add (x : HM) (k : Nat) (s : Int64) (v : Int32) : (x.add k s v).vk k = x.vk k ++ [(s, v)] := by
  show ((x.vs ++ [(k, s, v)]).filter (fun v => v.1 == k)).map (fun v => v.2) = _
  rw [List.filter_append, List.map_append]
  simp [HM.vk]
theorem hs_vk_add_ne (x : HM) {k j : Nat} (h : j ≠ k) (s : Int64) (v : Int32) : (x.add k s v).vk j = x.vk j := by
  show ((x.vs ++ [(k, s, v)]).filter (fun v => v.1 == j)).map (fun v => v.2) = _
  rw [List.filter_append, List.map_append]
  have : (k == j) = false := by simp [Ne.symm h]
  simp [HM.vk, this]
theorem hs_getD_app {α : Type} (l : List α) (v d : α) (i : Nat) : (l ++ [v]).getD i d = if i = l.length then v else l.getD i d := by
  by_cases h : i = l.length
  · subst h; simp [List.getD]
  · rw [if_neg h]
    by_cases h2 : i < l.length
    · simp [List.getD, List.getElem?_append_left h2]
    · simp [List.getD, List.getElem?_append_right (show l.length ≤ i by omega), show ¬ i < l.length by omega, List.getElem?_eq_none (show [v].length ≤ i - l.length by simp; omega), List.getElem?_eq_none (show l.length ≤ i by omega)]
theorem hc_addV {ad : Nat → Nat} {cy : Nat → ClassId} {x : HM} {k : Nat} (hk : k < 16) (s : Int64) (v : Int32) :
    (((hc_mem ad cy x).set (25 + k) (ad (25 + k), .inl (cy 1, 16, .inr (.inl (vp_updL (hc_stA x k) (x.vk k).length s))))).set (41 + k) (ad (41 + k), .inl (cy 0, 16, .inl (upd (hc_vaA x k) (x.vk k).length v)))).set (9 + k) (ad (9 + k), .inr (0, (hc_keyL ad x k).set 4 (.int (nI ((x.vk k).length + 1))))) = hc_mem ad cy (x.add k s v) := by
  unfold hc_mem
  rw [hs_rset1, hs_rset1, hs_rset1]
  apply List.map_congr_left
  intro j hj
  have hj : j < 65 := List.mem_range.mp hj
  congr 1
  by_cases c1 : j = 9 + k
  · subst c1
    rw [va_up_self, hc_c_key hk]
    show _ = Sum.inr (0, [Value.int (hs_bit k), .ref (ad (5 + k % 4)), .ref (ad (25 + k)), .ref (ad (41 + k)), .int (nI ((x.add k s v).vk k).length), .long (x.lr k), va_rf (Option.map (fun t => ad (57 + t)) (x.hd k)), .int (x.pl k)])
    rw [hs_vk_add, List.length_append]
    rfl
  · rw [va_up_ne _ _ c1]
    by_cases c2 : j = 41 + k
    · subst c2
      rw [va_up_self]
      have e : hc_cell ad cy (x.add k s v) (41 + k) = .inl (cy 0, 16, .inl (hc_vaA (x.add k s v) k)) := by
        simp [hc_cell, show ¬ 41 + k < 5 by omega, show ¬ 41 + k < 9 by omega, show ¬ 41 + k < 25 by omega, show ¬ 41 + k < 41 by omega, show 41 + k < 57 by omega]
      rw [e]
      congr 4
      funext i
      unfold hc_vaA upd
      rw [hs_vk_add, hs_getD_app]
      split <;> rfl
    · rw [va_up_ne _ _ c2]
      by_cases c3 : j = 25 + k
      · subst c3
        rw [va_up_self]
        have e : hc_cell ad cy (x.add k s v) (25 + k) = .inl (cy 1, 16, .inr (.inl (hc_stA (x.add k s v) k))) := by
          simp [hc_cell, show ¬ 25 + k < 5 by omega, show ¬ 25 + k < 9 by omega, show ¬ 25 + k < 25 by omega, show 25 + k < 41 by omega]
        rw [e]
        congr 5
        funext i
        unfold hc_stA vp_updL
        rw [hs_vk_add, hs_getD_app]
        split <;> rfl
      · rw [va_up_ne _ _ c3]
        unfold hc_cell
        by_cases a1 : j < 5
        · simp only [a1, if_true]; rfl
        · by_cases a2 : j < 9
          · simp only [a1, a2, if_true, if_false]; rfl
          · by_cases a3 : j < 25
            · simp only [a1, a2, a3, if_true, if_false]
              congr 2
              unfold hc_keyL
              rw [hs_vk_add_ne x (show j - 9 ≠ k by omega)]
              rfl
            · by_cases a4 : j < 41
              · simp only [a1, a2, a3, a4, if_true, if_false]
                unfold hc_stA
                rw [hs_vk_add_ne x (show j - 25 ≠ k by omega)]
              · by_cases a5 : j < 57
                · simp only [a1, a2, a3, a4, a5, if_true, if_false]
                  unfold hc_vaA
                  rw [hs_vk_add_ne x (show j - 41 ≠ k by omega)]
                · simp only [a1, a2, a3, a4, a5, if_false]; rfl
theorem hc_logC {ad : Nat → Nat} {cy : Nat → ClassId} {x : HM} (s : Int64) :
    ((hc_mem ad cy x).set 4 (ad 4, .inl (cy 1, 256, .inr (.inl (vp_updL (hc_cmA x) x.cm.length s))))).set 0 (ad 0, .inr (3, (hc_storeL ad x).set 4 (.int (nI (x.cm.length + 1))))) = hc_mem ad cy (x.s_cm (x.cm ++ [s])) := by
  unfold hc_mem
  rw [hs_rset1, hs_rset1]
  apply List.map_congr_left
  intro j hj
  have hj : j < 65 := List.mem_range.mp hj
  congr 1
  by_cases c1 : j = 0
  · subst c1
    rw [va_up_self]
    show _ = Sum.inr (3, [Value.ref (ad 1), .ref (ad 2), .ref (ad 3), .ref (ad 4), .int (nI (x.cm ++ [s]).length), .int (nI x.bs)])
    rw [List.length_append]
    rfl
  · rw [va_up_ne _ _ c1]
    by_cases c2 : j = 4
    · subst c2
      rw [va_up_self]
      show _ = Sum.inl (cy 1, 256, Sum.inr (Sum.inl (fun i => (x.cm ++ [s]).getD i 0)))
      congr 5
      funext i
      unfold vp_updL hc_cmA
      rw [hs_getD_app]
    · rw [va_up_ne _ _ c2]
      unfold hc_cell
      by_cases a1 : j < 5
      · simp only [a1, if_true]
        have : j = 1 ∨ j = 2 ∨ j = 3 := by omega
        rcases this with rfl | rfl | rfl <;> rfl
      · simp only [a1, if_false]; rfl
/-- the least free slot -/
def hs_fr (f : Nat → Int32) : Nat → Nat → Option Nat
  | 0, _ => none
  | n + 1, i => if f i = 0 then some i else hs_fr f n (i + 1)
/-- a reading that runs ahead of another node's -/
def hs_ra (f : Nat → Int32) (i : Nat) (r : Int32) : Nat → Nat → Bool
  | 0, _ => false
  | n + 1, j => if j ≠ i ∧ 10 < r - f j then true else hs_ra f i r n (j + 1)
theorem hs_fr_succ (f : Nat → Int32) (n i : Nat) : hs_fr f (n + 1) i = if f i = 0 then some i else hs_fr f n (i + 1) := rfl
theorem hs_ra_succ (f : Nat → Int32) (i : Nat) (r : Int32) (n j : Nat) : hs_ra f i r (n + 1) j = if j ≠ i ∧ 10 < r - f j then true else hs_ra f i r n (j + 1) := rfl
theorem hs_clr_hd (x : HM) (t n k : Nat) : (x.clr t n).hd k = if k < n ∧ x.hd k = some t then none else x.hd k := rfl
theorem hs_clr_self (x : HM) (t n : Nat) : (x.clr t n).hd n = x.hd n := by rw [hs_clr_hd, if_neg (by omega)]
theorem hs_s_hd2 (x : HM) (f g : Nat → Option Nat) : (x.s_hd f).s_hd g = x.s_hd g := rfl
theorem hs_clr_eq (x : HM) {t n : Nat} (h : x.hd n = some t) : (x.clr t n).u_hd n none = x.clr t (n + 1) := by
  show (x.clr t n).s_hd (va_up (x.clr t n).hd n none) = _
  unfold HM.clr
  rw [hs_s_hd2]
  congr 1
  funext k
  by_cases e : k = n
  · subst e; rw [va_up_self, if_pos ⟨by omega, h⟩]
  · rw [va_up_ne _ _ e]
    show (if k < n ∧ x.hd k = some t then none else x.hd k) = _
    by_cases q : k < n
    · simp [q, show k < n + 1 by omega]
    · simp [q, show ¬ k < n + 1 by omega]
theorem hs_clr_ne (x : HM) {t n : Nat} (h : ¬ x.hd n = some t) : x.clr t n = x.clr t (n + 1) := by
  unfold HM.clr
  congr 1
  funext k
  by_cases e : k = n
  · subst e; simp [h]
  · by_cases q : k < n
    · simp [q, show k < n + 1 by omega]
    · simp [q, show ¬ k < n + 1 by omega]
theorem hs_clr_0 (x : HM) (t : Nat) : x.clr t 0 = x := by
  have : (fun k => if k < 0 ∧ x.hd k = some t then none else x.hd k) = x.hd := by funext k; simp
  unfold HM.clr; rw [this]; rfl
/-- an object is known by its address -/
theorem hc_txI {ad : Nat → Nat} (ho : hc_ok ad) {o : Option Nat} {t : Nat} (ht : t < 8) (hu : ∀ u, o = some u → u < 8) : o.map (fun t => ad (57 + t)) = some (ad (57 + t)) ↔ o = some t := by
  cases o with
  | none => simp
  | some u =>
    have hu8 := hu u rfl
    simp only [Option.map_some, Option.some.injEq]
    exact ⟨fun h => by have := ho _ (by omega) _ (by omega) h; omega, fun h => by rw [h]⟩
theorem hc_nodeI {ad : Nat → Nat} (ho : hc_ok ad) {i j : Nat} (hi : i < 4) (hj : j < 4) : some (ad (5 + i)) = some (ad (5 + j)) ↔ i = j := by
  simp only [Option.some.injEq]
  exact ⟨fun h => by have := ho _ (by omega) _ (by omega) h; omega, fun h => by rw [h]⟩
theorem hs_sil_hd (x : HM) (u k : Nat) : (x.sil u).hd k = x.hd k := by unfold HM.sil; split <;> rfl
theorem hs_sil_vk (x : HM) (u k : Nat) : (x.sil u).vk k = x.vk k := by unfold HM.sil; split <;> rfl
theorem hs_lk3_hd (x : HM) (k u j : Nat) : (x.lk3 k u).hd j = x.hd j := hs_sil_hd _ _ _
theorem hs_lk3_vk (x : HM) (k u j : Nat) : (x.lk3 k u).vk j = x.vk j := hs_sil_vk _ _ _
end
section
theorem in_X0_addVersion_X0 : ∀ w ∈ u_ws RX0 TX0 8, w ∈ wsX0_addVersion := by decide +kernel
set_option maxHeartbeats 4000000 in
set_option maxRecDepth 100000 in
/-- Key.addVersion -/
theorem c_addVersion (l : Launch) (D : va_G) (cy : Nat → ClassId) (ad : Nat → Nat) (ho : hc_ok ad) (x : HM) {k : Nat} (hk : k < 16) (hlt : (x.vk k).length < 16) (s0 : Int64) (v0 : Int32) : Ct l yX0_addVersion wsX0_addVersion ({ frames := 0, cells := 0, slots := 0, locals := 0 }) D cy (hc_A ad) [.ref (ad (9 + k)), .long (s0), .int (v0)] (hc_mem ad cy (x)) none (hc_mem ad cy (x.add k s0 v0)) := by
  refine ct_of (cc := cX0_addVersion) (maxL := 4) (ret := none) rfl (by decide) (Nat.le_of_ble_eq_true rfl) ?_
  intro p e s m below meth c ls G hx hb hml hr hlocks hP hS hl
  have hl : lv_has ls 4 [(0, .ref (ad (9 + k))), (1, .long (s0)), (3, .int (v0))] := hl
  refine lv_aload_n hx hb dX0_addVersion_0 rfl (lv_at hl 0 rfl) ?_
  refine hc_g_key G (in_X0_addVersion_X0) hP (hk) 4 (by decide) (by decide +kernel) (.int (nI (HM.vk (x) (k)).length)) rfl rfl dX0_addVersion_1 ?_
  refine lv_bipush (v := 16) hx hb dX0_addVersion_4 (by decide) ?_
  refine lv_icmp_ge (tgt := 39) hx hb dX0_addVersion_6 (by decide) (fun c_1 => ?_) (fun c_1 => ?_)
  · exact absurd c_1 (nI_ge (b := 16) hlt (by decide))
  · refine lv_aload_n hx hb dX0_addVersion_9 rfl (lv_at hl 0 rfl) ?_
    refine hc_g_key G (in_X0_addVersion_X0) hP (hk) 2 (by decide) (by decide +kernel) (.ref (ad (25 + k))) rfl rfl dX0_addVersion_10 ?_
    refine lv_aload_n hx hb dX0_addVersion_13 rfl (lv_at hl 0 rfl) ?_
    refine hc_g_key G (in_X0_addVersion_X0) hP (hk) 4 (by decide) (by decide +kernel) (.int (nI (HM.vk (x) (k)).length)) rfl rfl dX0_addVersion_14 ?_
    refine lv_lload_n hx hb dX0_addVersion_17 rfl (lv_at hl 1 rfl) ?_
    refine va_last hx hb G.2.2.2.2.1 hP (hc_D ho cy x) hS (25 + k) 1 (hc_at_st hk) rfl (hs_in (k := (x.vk k).length) (n := 16) (nI_clamp (by omega)) (hs_inN hlt (by decide))) dX0_addVersion_18 (fun H locs hP hD hS => ?_)
    rw [show Int32.toNatClampNeg (nI (x.vk k).length) = (x.vk k).length from nI_clamp (by omega)] at hP hD
    refine lv_aload_n hx hb dX0_addVersion_19 rfl (lv_at hl 0 rfl) ?_
    refine va_get (D := D) (ci := 0) (v := .ref (ad (41 + k))) (C := RX0) (T := TX0) (N := 8) hx hb G.2.2.1 in_X0_addVersion_X0 G.2.2.2.1 G.2.2.2.2.1 hP (9 + k) (by rw [List.getElem?_set_ne (by omega)]; exact hc_at_key hk) rfl 3 (by decide) (G.2.2.1 (.fieldLink RX0 23 "HlcStore$Key" (TX0 3).2.1 (TX0 3).2.2.1) (by decide +kernel)) (fun _ h9 => h9) rfl dX0_addVersion_20 ?_
    refine lv_aload_n hx hb dX0_addVersion_23 rfl (lv_at hl 0 rfl) ?_
    refine va_get (D := D) (ci := 0) (v := .int (nI (HM.vk (x) (k)).length)) (C := RX0) (T := TX0) (N := 8) hx hb G.2.2.1 in_X0_addVersion_X0 G.2.2.2.1 G.2.2.2.2.1 hP (9 + k) (by rw [List.getElem?_set_ne (by omega)]; exact hc_at_key hk) rfl 4 (by decide) (G.2.2.1 (.fieldLink RX0 43 "HlcStore$Key" (TX0 4).2.1 (TX0 4).2.2.1) (by decide +kernel)) (fun _ h9 => h9) rfl dX0_addVersion_24 ?_
    refine lv_iload_n hx hb dX0_addVersion_27 rfl (lv_at hl 2 rfl) ?_
    refine va_iast hx hb G.2.2.2.2.1 hP hD hS (41 + k) 0 (by rw [List.getElem?_set_ne (by omega)]; exact hc_at_va hk) rfl (hs_in (k := (x.vk k).length) (n := 16) (nI_clamp (by omega)) (hs_inN hlt (by decide))) dX0_addVersion_28 (fun H locs hP hD hS => ?_)
    rw [show Int32.toNatClampNeg (nI (x.vk k).length) = (x.vk k).length from nI_clamp (by omega)] at hP hD
    refine lv_aload_n hx hb dX0_addVersion_29 rfl (lv_at hl 0 rfl) ?_
    refine lv_dup hx hb dX0_addVersion_30 rfl ?_
    refine va_get (D := D) (ci := 0) (v := .int (nI (HM.vk (x) (k)).length)) (C := RX0) (T := TX0) (N := 8) hx hb G.2.2.1 in_X0_addVersion_X0 G.2.2.2.1 G.2.2.2.2.1 hP (9 + k) (by rw [List.getElem?_set_ne (by omega), List.getElem?_set_ne (by omega)]; exact hc_at_key hk) rfl 4 (by decide) (G.2.2.1 (.fieldLink RX0 43 "HlcStore$Key" (TX0 4).2.1 (TX0 4).2.2.1) (by decide +kernel)) (fun _ h9 => h9) rfl dX0_addVersion_31 ?_
    refine lv_iconst (v := 1) hx hb dX0_addVersion_34 (by decide) ?_
    refine lv_iadd hx hb dX0_addVersion_35 ?_
    rw [nI_1]
    refine va_put (D := D) (ci := 0) (v := .int (nI ((x.vk k).length + 1))) (ty := .int) (C := RX0) (T := TX0) (N := 8) hx hb G.2.2.1 in_X0_addVersion_X0 tyX0 tyX0_ok nmX0 G.2.2.2.1 G.2.2.2.2.1 hP hD hS (9 + k) (by rw [List.getElem?_set_ne (by omega), List.getElem?_set_ne (by omega)]; exact hc_at_key hk) rfl 4 (by decide) (G.2.2.1 (.fieldLink RX0 43 "HlcStore$Key" (TX0 4).2.1 (TX0 4).2.2.1) (by decide +kernel)) (fun _ h9 => h9) rfl (by decide +kernel) rfl rfl (Nat.le_of_ble_eq_true rfl) dX0_addVersion_36 (fun H locs hP _ hS => ?_)
    rw [hc_addV hk] at hP
    exact ct_vret hx hb hr hlocks rfl hP hS dX0_addVersion_39
theorem in_X0_settleIntent_X0 : ∀ w ∈ u_ws RX0 TX0 8, w ∈ wsX0_settleIntent := by decide +kernel
theorem in_X0_settleIntent_X2 : ∀ w ∈ u_ws RX2 TX2 9, w ∈ wsX0_settleIntent := by decide +kernel
set_option maxHeartbeats 4000000 in
set_option maxRecDepth 100000 in
/-- Key.settleIntent -/
theorem c_settle (l : Launch) (D : va_G) (cy : Nat → ClassId) (ad : Nat → Nat) (ho : hc_ok ad) (x : HM) {k : Nat} (hk : k < 16) {u : Nat} (hu8 : u < 8) (hh : x.hd k = some u) (hlt : (x.vk k).length < 16) : Ct l yX0_settleIntent wsX0_settleIntent ({ frames := 1, cells := 0, slots := 0, locals := 23 }) D cy (hc_A ad) [.ref (ad (9 + k))] (hc_mem ad cy (x)) none (hc_mem ad cy (x.stl k u)) := by
  refine ct_of (cc := cX0_settleIntent) (maxL := 1) (ret := none) rfl (by decide) (Nat.le_of_ble_eq_true rfl) ?_
  intro p e s m below meth c ls G hx hb hml hr hlocks hP hS hl
  have hl : lv_has ls 1 [(0, .ref (ad (9 + k)))] := hl
  refine lv_aload_n hx hb dX0_settleIntent_0 rfl (lv_at hl 0 rfl) ?_
  refine hc_g_key G (in_X0_settleIntent_X0) hP (hk) 6 (by decide) (by decide +kernel) (.ref (ad (57 + u))) rfl (hc_hdS hh) dX0_settleIntent_1 ?_
  refine lv_ifnull hx hb dX0_settleIntent_4 ?_
  refine lv_aload_n hx hb dX0_settleIntent_7 rfl (lv_at hl 0 rfl) ?_
  refine hc_g_key G (in_X0_settleIntent_X0) hP (hk) 6 (by decide) (by decide +kernel) (.ref (ad (57 + u))) rfl (hc_hdS hh) dX0_settleIntent_8 ?_
  refine hc_g_txn G (in_X0_settleIntent_X2) hP (hu8) 0 (by decide) (by decide +kernel) (.int (HM.ph (x) (u))) rfl rfl dX0_settleIntent_11 ?_
  refine lv_iconst (v := 2) hx hb dX0_settleIntent_14 (by decide) ?_
  refine lv_icmp_ne (tgt := 33) hx hb dX0_settleIntent_15 (by decide) (fun c_1 => ?_) (fun c_1 => ?_)
  · refine lv_aload_n hx hb dX0_settleIntent_33 rfl (lv_at hl 0 rfl) ?_
    refine lv_null hx hb dX0_settleIntent_34 ?_
    refine hc_p_key ho G (in_X0_settleIntent_X0) hP hS (hk) 6 (by decide) (by decide +kernel) (.null) rfl rfl (.object "HlcStore$Transaction") (by decide +kernel) rfl rfl (Nat.le_of_ble_eq_true rfl) (HM.u_hd (x) (k) (none)) (hc_s_hd (v := none) (hk)) dX0_settleIntent_35 (fun H locs hP hS => ?_)
    exact ct_vret hx hb hr hlocks rfl (by rw [HM.stl, if_neg c_1]; exact hP) hS dX0_settleIntent_38
  · refine lv_aload_n hx hb dX0_settleIntent_18 rfl (lv_at hl 0 rfl) ?_
    refine lv_aload_n hx hb dX0_settleIntent_19 rfl (lv_at hl 0 rfl) ?_
    refine hc_g_key G (in_X0_settleIntent_X0) hP (hk) 6 (by decide) (by decide +kernel) (.ref (ad (57 + u))) rfl (hc_hdS hh) dX0_settleIntent_20 ?_
    refine hc_g_txn G (in_X0_settleIntent_X2) hP (hu8) 5 (by decide) (by decide +kernel) (.long (HM.ws (x) (u))) rfl rfl dX0_settleIntent_23 ?_
    refine lv_aload_n hx hb dX0_settleIntent_26 rfl (lv_at hl 0 rfl) ?_
    refine hc_g_key G (in_X0_settleIntent_X0) hP (hk) 7 (by decide) (by decide +kernel) (.int (HM.pl (x) (k))) rfl rfl dX0_settleIntent_27 ?_
    refine hs_callV (n := 2) (As := [.long (HM.ws (x) (u)), .int (HM.pl (x) (k))]) (rest := []) G hml (c_addVersion l D cy ad ho (x) (hk) (hlt) (HM.ws (x) (u)) (HM.pl (x) (k))) gX0_settleIntent_X0_addVersion rfl rfl rfl (by decide +kernel) ⟨Nat.le_of_ble_eq_true rfl, Nat.le_of_ble_eq_true rfl⟩ (ci := 0) rfl rfl (hc_at_key (hk)) rfl hl.1 (Nat.le_of_ble_eq_true rfl) ⟨Nat.zero_le _, Nat.zero_le _⟩ hP hS (fun _ h => h) rfl dX0_settleIntent_30 (fun H locs hP hS _ _ => ?_)
    refine lv_aload_n hx hb dX0_settleIntent_33 rfl (lv_at hl 0 rfl) ?_
    refine lv_null hx hb dX0_settleIntent_34 ?_
    refine hc_p_key ho G (in_X0_settleIntent_X0) hP hS (hk) 6 (by decide) (by decide +kernel) (.null) rfl rfl (.object "HlcStore$Transaction") (by decide +kernel) rfl rfl (Nat.le_of_ble_eq_true rfl) (HM.u_hd (HM.add (x) (k) (HM.ws (x) (u)) (HM.pl (x) (k))) (k) (none)) (hc_s_hd (v := none) (hk)) dX0_settleIntent_35 (fun H locs hP hS => ?_)
    exact ct_vret hx hb hr hlocks rfl (by rw [HM.stl, if_pos c_1]; exact hP) hS dX0_settleIntent_38
theorem in_X3_nodeAt_X3 : ∀ w ∈ u_ws RX3 TX3 6, w ∈ wsX3_nodeAt := by decide +kernel
set_option maxHeartbeats 4000000 in
set_option maxRecDepth 100000 in
/-- nodeAt, in range -/
theorem c_nodeAt (l : Launch) (D : va_G) (cy : Nat → ClassId) (ad : Nat → Nat) (ho : hc_ok ad) (x : HM) {i : Nat} (hi : i < 4) : Ct l yX3_nodeAt wsX3_nodeAt ({ frames := 0, cells := 0, slots := 0, locals := 0 }) D cy (hc_A ad) [.ref (ad 0), .int (nI i)] (hc_mem ad cy (x)) (some (.ref (ad (5 + i)))) (hc_mem ad cy (x)) := by
  refine ct_of (cc := cX3_nodeAt) (maxL := 2) (ret := (some (.object "HlcStore$Node"))) rfl (by decide) (Nat.le_of_ble_eq_true rfl) ?_
  intro p e s m below meth c ls G hx hb hml hr hlocks hP hS hl
  have hl : lv_has ls 2 [(0, .ref (ad 0)), (1, .int (nI i))] := hl
  refine lv_iload_n hx hb dX3_nodeAt_0 rfl (lv_at hl 1 rfl) ?_
  refine lv_if_lt (tgt := 9) hx hb dX3_nodeAt_1 (by decide) (fun c_1 => ?_) (fun c_1 => ?_)
  · exact absurd c_1 (nI_pos (by omega))
  · refine lv_iload_n hx hb dX3_nodeAt_4 rfl (lv_at hl 1 rfl) ?_
    refine lv_iconst (v := 4) hx hb dX3_nodeAt_5 (by decide) ?_
    refine lv_icmp_lt (tgt := 13) hx hb dX3_nodeAt_6 (by decide) (fun c_2 => ?_) (fun c_2 => ?_)
    · refine lv_aload_n hx hb dX3_nodeAt_13 rfl (lv_at hl 0 rfl) ?_
      refine hc_g_store G (in_X3_nodeAt_X3) hP 0 (by decide) (by decide +kernel) (.ref (ad 1)) rfl rfl dX3_nodeAt_14 ?_
      refine lv_iload_n hx hb dX3_nodeAt_17 rfl (lv_at hl 1 rfl) ?_
      refine va_aldq hx hb G.2.2.2.2.1 hP 1 3 (hc_at_top (by decide)) rfl (hs_in (k := i) (n := 4) (nI_clamp (by omega)) (hs_inN hi (by decide))) dX3_nodeAt_18 ?_
      rw [show Int32.toNatClampNeg (nI i) = i from nI_clamp (by omega)]
      show W _ _ _ _ _ _ _ _ _ _ _ _ _ _ _ (F0 m (18 + 1) ls (.ref (ad (5 + i)) :: []))
      exact ct_aret hx hb hr hlocks (Or.inr ⟨_, rfl⟩) rfl hP hS dX3_nodeAt_19
    · exact absurd (show nI i < 4 from nI_lt (b := 4) hi (by decide)) c_2
set_option maxHeartbeats 4000000 in
set_option maxRecDepth 100000 in
/-- nodeAt, out of range -/
theorem c_nodeAt_no (l : Launch) (D : va_G) (cy : Nat → ClassId) (ad : Nat → Nat) (ho : hc_ok ad) (x : HM) (z : Int32) (hz : z < 0 ∨ 4 ≤ z) : Ct l yX3_nodeAt wsX3_nodeAt ({ frames := 0, cells := 0, slots := 0, locals := 0 }) D cy (hc_A ad) [.ref (ad 0), .int (z)] (hc_mem ad cy (x)) (some .null) (hc_mem ad cy (x)) := by
  refine ct_of (cc := cX3_nodeAt) (maxL := 2) (ret := (some (.object "HlcStore$Node"))) rfl (by decide) (Nat.le_of_ble_eq_true rfl) ?_
  intro p e s m below meth c ls G hx hb hml hr hlocks hP hS hl
  have hl : lv_has ls 2 [(0, .ref (ad 0)), (1, .int (z))] := hl
  refine lv_iload_n hx hb dX3_nodeAt_0 rfl (lv_at hl 1 rfl) ?_
  refine lv_if_lt (tgt := 9) hx hb dX3_nodeAt_1 (by decide) (fun c_1 => ?_) (fun c_1 => ?_)
  · refine lv_null hx hb dX3_nodeAt_9 ?_
    refine lv_goto (tgt := 19) hx hb dX3_nodeAt_10 (by decide) ?_
    exact ct_aret hx hb hr hlocks (Or.inl rfl) rfl hP hS dX3_nodeAt_19
  · refine lv_iload_n hx hb dX3_nodeAt_4 rfl (lv_at hl 1 rfl) ?_
    refine lv_iconst (v := 4) hx hb dX3_nodeAt_5 (by decide) ?_
    refine lv_icmp_lt (tgt := 13) hx hb dX3_nodeAt_6 (by decide) (fun c_2 => ?_) (fun c_2 => ?_)
    · exact absurd (hz.resolve_left c_1) (Int32.not_le.mpr c_2)
    · refine lv_null hx hb dX3_nodeAt_9 ?_
      refine lv_goto (tgt := 19) hx hb dX3_nodeAt_10 (by decide) ?_
      exact ct_aret hx hb hr hlocks (Or.inl rfl) rfl hP hS dX3_nodeAt_19
theorem in_X3_keyAt_X3 : ∀ w ∈ u_ws RX3 TX3 6, w ∈ wsX3_keyAt := by decide +kernel
set_option maxHeartbeats 4000000 in
set_option maxRecDepth 100000 in
/-- keyAt, in range -/
theorem c_keyAt (l : Launch) (D : va_G) (cy : Nat → ClassId) (ad : Nat → Nat) (ho : hc_ok ad) (x : HM) {k : Nat} (hk : k < 16) : Ct l yX3_keyAt wsX3_keyAt ({ frames := 0, cells := 0, slots := 0, locals := 0 }) D cy (hc_A ad) [.ref (ad 0), .int (nI k)] (hc_mem ad cy (x)) (some (.ref (ad (9 + k)))) (hc_mem ad cy (x)) := by
  refine ct_of (cc := cX3_keyAt) (maxL := 2) (ret := (some (.object "HlcStore$Key"))) rfl (by decide) (Nat.le_of_ble_eq_true rfl) ?_
  intro p e s m below meth c ls G hx hb hml hr hlocks hP hS hl
  have hl : lv_has ls 2 [(0, .ref (ad 0)), (1, .int (nI k))] := hl
  refine lv_iload_n hx hb dX3_keyAt_0 rfl (lv_at hl 1 rfl) ?_
  refine lv_if_lt (tgt := 10) hx hb dX3_keyAt_1 (by decide) (fun c_1 => ?_) (fun c_1 => ?_)
  · exact absurd c_1 (nI_pos (by omega))
  · refine lv_iload_n hx hb dX3_keyAt_4 rfl (lv_at hl 1 rfl) ?_
    refine lv_bipush (v := 16) hx hb dX3_keyAt_5 (by decide) ?_
    refine lv_icmp_lt (tgt := 14) hx hb dX3_keyAt_7 (by decide) (fun c_2 => ?_) (fun c_2 => ?_)
    · refine lv_aload_n hx hb dX3_keyAt_14 rfl (lv_at hl 0 rfl) ?_
      refine hc_g_store G (in_X3_keyAt_X3) hP 1 (by decide) (by decide +kernel) (.ref (ad 2)) rfl rfl dX3_keyAt_15 ?_
      refine lv_iload_n hx hb dX3_keyAt_18 rfl (lv_at hl 1 rfl) ?_
      refine va_aldq hx hb G.2.2.2.2.1 hP 2 4 (hc_at_top (by decide)) rfl (hs_in (k := k) (n := 16) (nI_clamp (by omega)) (hs_inN hk (by decide))) dX3_keyAt_19 ?_
      rw [show Int32.toNatClampNeg (nI k) = k from nI_clamp (by omega)]
      show W _ _ _ _ _ _ _ _ _ _ _ _ _ _ _ (F0 m (19 + 1) ls (.ref (ad (9 + k)) :: []))
      exact ct_aret hx hb hr hlocks (Or.inr ⟨_, rfl⟩) rfl hP hS dX3_keyAt_20
    · exact absurd (show nI k < 16 from nI_lt (b := 16) hk (by decide)) c_2
set_option maxHeartbeats 4000000 in
set_option maxRecDepth 100000 in
/-- keyAt, out of range -/
theorem c_keyAt_no (l : Launch) (D : va_G) (cy : Nat → ClassId) (ad : Nat → Nat) (ho : hc_ok ad) (x : HM) (z : Int32) (hz : z < 0 ∨ 16 ≤ z) : Ct l yX3_keyAt wsX3_keyAt ({ frames := 0, cells := 0, slots := 0, locals := 0 }) D cy (hc_A ad) [.ref (ad 0), .int (z)] (hc_mem ad cy (x)) (some .null) (hc_mem ad cy (x)) := by
  refine ct_of (cc := cX3_keyAt) (maxL := 2) (ret := (some (.object "HlcStore$Key"))) rfl (by decide) (Nat.le_of_ble_eq_true rfl) ?_
  intro p e s m below meth c ls G hx hb hml hr hlocks hP hS hl
  have hl : lv_has ls 2 [(0, .ref (ad 0)), (1, .int (z))] := hl
  refine lv_iload_n hx hb dX3_keyAt_0 rfl (lv_at hl 1 rfl) ?_
  refine lv_if_lt (tgt := 10) hx hb dX3_keyAt_1 (by decide) (fun c_1 => ?_) (fun c_1 => ?_)
  · refine lv_null hx hb dX3_keyAt_10 ?_
    refine lv_goto (tgt := 20) hx hb dX3_keyAt_11 (by decide) ?_
    exact ct_aret hx hb hr hlocks (Or.inl rfl) rfl hP hS dX3_keyAt_20
  · refine lv_iload_n hx hb dX3_keyAt_4 rfl (lv_at hl 1 rfl) ?_
    refine lv_bipush (v := 16) hx hb dX3_keyAt_5 (by decide) ?_
    refine lv_icmp_lt (tgt := 14) hx hb dX3_keyAt_7 (by decide) (fun c_2 => ?_) (fun c_2 => ?_)
    · exact absurd (hz.resolve_left c_1) (Int32.not_le.mpr c_2)
    · refine lv_null hx hb dX3_keyAt_10 ?_
      refine lv_goto (tgt := 20) hx hb dX3_keyAt_11 (by decide) ?_
      exact ct_aret hx hb hr hlocks (Or.inl rfl) rfl hP hS dX3_keyAt_20
theorem in_X3_transactionAt_X3 : ∀ w ∈ u_ws RX3 TX3 6, w ∈ wsX3_transactionAt := by decide +kernel
set_option maxHeartbeats 4000000 in
set_option maxRecDepth 100000 in
/-- transactionAt, in range -/
theorem c_transactionAt (l : Launch) (D : va_G) (cy : Nat → ClassId) (ad : Nat → Nat) (ho : hc_ok ad) (x : HM) {t : Nat} (ht : t < 8) : Ct l yX3_transactionAt wsX3_transactionAt ({ frames := 0, cells := 0, slots := 0, locals := 0 }) D cy (hc_A ad) [.ref (ad 0), .int (nI t)] (hc_mem ad cy (x)) (some (.ref (ad (57 + t)))) (hc_mem ad cy (x)) := by
  refine ct_of (cc := cX3_transactionAt) (maxL := 2) (ret := (some (.object "HlcStore$Transaction"))) rfl (by decide) (Nat.le_of_ble_eq_true rfl) ?_
  intro p e s m below meth c ls G hx hb hml hr hlocks hP hS hl
  have hl : lv_has ls 2 [(0, .ref (ad 0)), (1, .int (nI t))] := hl
  refine lv_iload_n hx hb dX3_transactionAt_0 rfl (lv_at hl 1 rfl) ?_
  refine lv_if_lt (tgt := 10) hx hb dX3_transactionAt_1 (by decide) (fun c_1 => ?_) (fun c_1 => ?_)
  · exact absurd c_1 (nI_pos (by omega))
  · refine lv_iload_n hx hb dX3_transactionAt_4 rfl (lv_at hl 1 rfl) ?_
    refine lv_bipush (v := 8) hx hb dX3_transactionAt_5 (by decide) ?_
    refine lv_icmp_lt (tgt := 14) hx hb dX3_transactionAt_7 (by decide) (fun c_2 => ?_) (fun c_2 => ?_)
    · refine lv_aload_n hx hb dX3_transactionAt_14 rfl (lv_at hl 0 rfl) ?_
      refine hc_g_store G (in_X3_transactionAt_X3) hP 2 (by decide) (by decide +kernel) (.ref (ad 3)) rfl rfl dX3_transactionAt_15 ?_
      refine lv_iload_n hx hb dX3_transactionAt_18 rfl (lv_at hl 1 rfl) ?_
      refine va_aldq hx hb G.2.2.2.2.1 hP 3 5 (hc_at_top (by decide)) rfl (hs_in (k := t) (n := 8) (nI_clamp (by omega)) (hs_inN ht (by decide))) dX3_transactionAt_19 ?_
      rw [show Int32.toNatClampNeg (nI t) = t from nI_clamp (by omega)]
      show W _ _ _ _ _ _ _ _ _ _ _ _ _ _ _ (F0 m (19 + 1) ls (.ref (ad (57 + t)) :: []))
      exact ct_aret hx hb hr hlocks (Or.inr ⟨_, rfl⟩) rfl hP hS dX3_transactionAt_20
    · exact absurd (show nI t < 8 from nI_lt (b := 8) ht (by decide)) c_2
set_option maxHeartbeats 4000000 in
set_option maxRecDepth 100000 in
/-- transactionAt, out of range -/
theorem c_transactionAt_no (l : Launch) (D : va_G) (cy : Nat → ClassId) (ad : Nat → Nat) (ho : hc_ok ad) (x : HM) (z : Int32) (hz : z < 0 ∨ 8 ≤ z) : Ct l yX3_transactionAt wsX3_transactionAt ({ frames := 0, cells := 0, slots := 0, locals := 0 }) D cy (hc_A ad) [.ref (ad 0), .int (z)] (hc_mem ad cy (x)) (some .null) (hc_mem ad cy (x)) := by
  refine ct_of (cc := cX3_transactionAt) (maxL := 2) (ret := (some (.object "HlcStore$Transaction"))) rfl (by decide) (Nat.le_of_ble_eq_true rfl) ?_
  intro p e s m below meth c ls G hx hb hml hr hlocks hP hS hl
  have hl : lv_has ls 2 [(0, .ref (ad 0)), (1, .int (z))] := hl
  refine lv_iload_n hx hb dX3_transactionAt_0 rfl (lv_at hl 1 rfl) ?_
  refine lv_if_lt (tgt := 10) hx hb dX3_transactionAt_1 (by decide) (fun c_1 => ?_) (fun c_1 => ?_)
  · refine lv_null hx hb dX3_transactionAt_10 ?_
    refine lv_goto (tgt := 20) hx hb dX3_transactionAt_11 (by decide) ?_
    exact ct_aret hx hb hr hlocks (Or.inl rfl) rfl hP hS dX3_transactionAt_20
  · refine lv_iload_n hx hb dX3_transactionAt_4 rfl (lv_at hl 1 rfl) ?_
    refine lv_bipush (v := 8) hx hb dX3_transactionAt_5 (by decide) ?_
    refine lv_icmp_lt (tgt := 14) hx hb dX3_transactionAt_7 (by decide) (fun c_2 => ?_) (fun c_2 => ?_)
    · exact absurd (hz.resolve_left c_1) (Int32.not_le.mpr c_2)
    · refine lv_null hx hb dX3_transactionAt_10 ?_
      refine lv_goto (tgt := 20) hx hb dX3_transactionAt_11 (by decide) ?_
      exact ct_aret hx hb hr hlocks (Or.inl rfl) rfl hP hS dX3_transactionAt_20
theorem in_X3_leastFreeSlot_X3 : ∀ w ∈ u_ws RX3 TX3 6, w ∈ wsX3_leastFreeSlot := by decide +kernel
theorem in_X3_leastFreeSlot_X2 : ∀ w ∈ u_ws RX2 TX2 9, w ∈ wsX3_leastFreeSlot := by decide +kernel
set_option maxHeartbeats 4000000 in
set_option maxRecDepth 100000 in
/-- leastFreeSlot -/
theorem c_leastFree (l : Launch) (D : va_G) (cy : Nat → ClassId) (ad : Nat → Nat) (ho : hc_ok ad) (x : HM) : Ct l yX3_leastFreeSlot wsX3_leastFreeSlot ({ frames := 0, cells := 0, slots := 0, locals := 0 }) D cy (hc_A ad) [.ref (ad 0)] (hc_mem ad cy (x)) (some (.int (hs_ix (hs_fr x.ph 8 0)))) (hc_mem ad cy (x)) := by
  refine ct_of (cc := cX3_leastFreeSlot) (maxL := 2) (ret := (some .int)) rfl (by decide) (Nat.le_of_ble_eq_true rfl) ?_
  intro p e s m below meth c ls G hx hb hml hr hlocks hP hS hl
  have hl : lv_has ls 2 [(0, .ref (ad 0))] := hl
  have loop : ∀ (n i : Nat), i + n = 8 → hs_fr x.ph n i = hs_fr x.ph 8 0 → ∀ ls : Array Slot, lv_has ls 2 [(1, .int (nI i)), (0, .ref (ad 0))] → W p l e ({ frames := 0, cells := 0, slots := 0, locals := 0 }) s m [.ref (ad 0)].toArray below meth c s.heap [] 0 0 (MQ below (hs_Post D (some (.int (hs_ix (hs_fr x.ph 8 0)))) (hc_mem ad cy x) (hc_A ad)) [.ref (ad 0)].toArray s 0 0 (hc_A ad)) (F0 m 2 ls []) := by
    intro n
    induction n with
    | zero =>
      intro i hi he ls hl
      refine lv_iload_n hx hb dX3_leastFreeSlot_2 rfl (lv_at hl 0 rfl) ?_
      refine lv_bipush (v := 8) hx hb dX3_leastFreeSlot_3 (by decide) ?_
      refine lv_icmp_ge (tgt := 28) hx hb dX3_leastFreeSlot_5 (by decide) (fun c_1 => ?_) (fun c_1 => ?_)
      · refine lv_iconst (v := (-1)) hx hb dX3_leastFreeSlot_28 (by decide) ?_
        exact ct_iret hx hb hr hlocks (by rw [← he]; rfl) hP hS dX3_leastFreeSlot_29
      · exact absurd (show (8 : Int32) ≤ nI i from nI_le (a := 8) (by omega) (by omega)) c_1
    | succ n ih =>
      intro i hi he ls hl
      refine lv_iload_n hx hb dX3_leastFreeSlot_2 rfl (lv_at hl 0 rfl) ?_
      refine lv_bipush (v := 8) hx hb dX3_leastFreeSlot_3 (by decide) ?_
      refine lv_icmp_ge (tgt := 28) hx hb dX3_leastFreeSlot_5 (by decide) (fun c_1 => ?_) (fun c_1 => ?_)
      · exact absurd c_1 (nI_ge (b := 8) (by omega) (by decide))
      · refine lv_aload_n hx hb dX3_leastFreeSlot_8 rfl (lv_at hl 1 rfl) ?_
        refine hc_g_store G (in_X3_leastFreeSlot_X3) hP 2 (by decide) (by decide +kernel) (.ref (ad 3)) rfl rfl dX3_leastFreeSlot_9 ?_
        refine lv_iload_n hx hb dX3_leastFreeSlot_12 rfl (lv_at hl 0 rfl) ?_
        refine va_aldq hx hb G.2.2.2.2.1 hP 3 5 (hc_at_top (by decide)) rfl (hs_in (k := i) (n := 8) (nI_clamp (by omega)) (hs_inN (by omega) (by decide))) dX3_leastFreeSlot_13 ?_
        rw [show Int32.toNatClampNeg (nI i) = i from nI_clamp (by omega)]
        show W _ _ _ _ _ _ _ _ _ _ _ _ _ _ _ (F0 m (13 + 1) ls (.ref (ad (57 + i)) :: []))
        refine hc_g_txn G (in_X3_leastFreeSlot_X2) hP (show i < 8 by omega) 0 (by decide) (by decide +kernel) (.int (HM.ph (x) (i))) rfl rfl dX3_leastFreeSlot_14 ?_
        refine lv_if_ne (tgt := 22) hx hb dX3_leastFreeSlot_17 (by decide) (fun c_2 => ?_) (fun c_2 => ?_)
        · refine lv_iinc (v := nI (i + 1)) (lv' := [(1, .int (nI (i + 1))), (0, .ref (ad 0))]) hx hb dX3_leastFreeSlot_22 hl (k := 0) rfl (nI_1 i) (by decide) rfl (fun ls hl => ?_)
          refine lv_goto (tgt := 2) hx hb dX3_leastFreeSlot_25 (by decide) ?_
          exact ih (i + 1) (by omega) (by rw [← he, hs_fr_succ, if_neg c_2]) ls (lv_sub hl [0, 1] rfl)
        · refine lv_iload_n hx hb dX3_leastFreeSlot_20 rfl (lv_at hl 0 rfl) ?_
          exact ct_iret hx hb hr hlocks (by rw [← he, hs_fr_succ, if_pos c_2]; rfl) hP hS dX3_leastFreeSlot_21
  refine lv_iconst (v := 0) hx hb dX3_leastFreeSlot_0 (by decide) ?_
  refine lv_istore_n (lv' := [(1, .int (0)), (0, .ref (ad 0))]) hx hb dX3_leastFreeSlot_1 rfl hl (by decide) rfl (fun ls hl => ?_)
  exact loop 8 0 rfl rfl ls (lv_sub hl [0, 1] rfl)
theorem in_X3_runsAhead_X3 : ∀ w ∈ u_ws RX3 TX3 6, w ∈ wsX3_runsAhead := by decide +kernel
theorem in_X3_runsAhead_X1 : ∀ w ∈ u_ws RX1 TX1 2, w ∈ wsX3_runsAhead := by decide +kernel
set_option maxHeartbeats 4000000 in
set_option maxRecDepth 100000 in
/-- runsAhead -/
theorem c_runsAhead (l : Launch) (D : va_G) (cy : Nat → ClassId) (ad : Nat → Nat) (ho : hc_ok ad) (x : HM) {i : Nat} (hi : i < 4) (r0 : Int32) : Ct l yX3_runsAhead wsX3_runsAhead ({ frames := 0, cells := 0, slots := 0, locals := 0 }) D cy (hc_A ad) [.ref (ad 0), .ref (ad (5 + i)), .int (r0)] (hc_mem ad cy (x)) (some (.int (if hs_ra x.rd i r0 4 0 then 1 else 0))) (hc_mem ad cy (x)) := by
  refine ct_of (cc := cX3_runsAhead) (maxL := 7) (ret := (some .boolean)) rfl (by decide) (Nat.le_of_ble_eq_true rfl) ?_
  intro p e s m below meth c ls G hx hb hml hr hlocks hP hS hl
  have hl : lv_has ls 7 [(0, .ref (ad 0)), (1, .ref (ad (5 + i))), (2, .int (r0))] := hl
  have loop : ∀ (n j : Nat), j + n = 4 → hs_ra x.rd i r0 n j = hs_ra x.rd i r0 4 0 → ∀ ls : Array Slot, lv_has ls 7 [(5, .int (nI j)), (4, .int (4)), (3, .ref (ad 1)), (0, .ref (ad 0)), (1, .ref (ad (5 + i))), (2, .int (r0))] → W p l e ({ frames := 0, cells := 0, slots := 0, locals := 0 }) s m [.ref (ad 0), .ref (ad (5 + i)), .int r0].toArray below meth c s.heap [] 0 0 (MQ below (hs_Post D (some (.int (if hs_ra x.rd i r0 4 0 then 1 else 0))) (hc_mem ad cy x) (hc_A ad)) [.ref (ad 0), .ref (ad (5 + i)), .int r0].toArray s 0 0 (hc_A ad)) (F0 m 12 ls []) := by
    intro n
    induction n with
    | zero =>
      intro j hj he ls hl
      refine lv_iload hx hb dX3_runsAhead_12 (lv_at hl 0 rfl) ?_
      refine lv_iload hx hb dX3_runsAhead_14 (lv_at hl 1 rfl) ?_
      refine lv_icmp_ge (tgt := 51) hx hb dX3_runsAhead_16 (by decide) (fun c_1 => ?_) (fun c_1 => ?_)
      · refine lv_iconst (v := 0) hx hb dX3_runsAhead_51 (by decide) ?_
        exact ct_zret hx hb hr hlocks (by decide) (by rw [← he]; rfl) hP hS dX3_runsAhead_52
      · exact absurd (show (4 : Int32) ≤ nI j from nI_le (a := 4) (by omega) (by omega)) c_1
    | succ n ih =>
      intro j hj he ls hl
      refine lv_iload hx hb dX3_runsAhead_12 (lv_at hl 0 rfl) ?_
      refine lv_iload hx hb dX3_runsAhead_14 (lv_at hl 1 rfl) ?_
      refine lv_icmp_ge (tgt := 51) hx hb dX3_runsAhead_16 (by decide) (fun c_1 => ?_) (fun c_1 => ?_)
      · exact absurd c_1 (nI_ge (b := 4) (by omega) (by decide))
      · refine lv_aload_n hx hb dX3_runsAhead_19 rfl (lv_at hl 2 rfl) ?_
        refine lv_iload hx hb dX3_runsAhead_20 (lv_at hl 0 rfl) ?_
        refine va_aldq hx hb G.2.2.2.2.1 hP 1 3 (hc_at_top (by decide)) rfl (hs_in (k := j) (n := 4) (nI_clamp (by omega)) (hs_inN (by omega) (by decide))) dX3_runsAhead_22 ?_
        rw [show Int32.toNatClampNeg (nI j) = j from nI_clamp (by omega)]
        show W _ _ _ _ _ _ _ _ _ _ _ _ _ _ _ (F0 m (22 + 1) ls (.ref (ad (5 + j)) :: []))
        refine lv_astore (lv' := [(6, .ref (ad (5 + j))), (5, .int (nI j)), (4, .int (4)), (3, .ref (ad 1)), (0, .ref (ad 0)), (1, .ref (ad (5 + i))), (2, .int (r0))]) hx hb dX3_runsAhead_23 hl (by decide) rfl (fun ls hl => ?_)
        refine lv_aload hx hb dX3_runsAhead_25 (lv_at hl 0 rfl) ?_
        refine lv_aload_n hx hb dX3_runsAhead_27 rfl (lv_at hl 5 rfl) ?_
        refine lv_acmp_eq (rx := some (ad (5 + j))) (ry := some (ad (5 + i))) (tgt := 45) hx hb dX3_runsAhead_28 (by decide) (fun c_2 => ?_) (fun c_2 => ?_)
        · refine lv_iinc (v := nI (j + 1)) (lv' := [(5, .int (nI (j + 1))), (6, .ref (ad (5 + j))), (4, .int (4)), (3, .ref (ad 1)), (0, .ref (ad 0)), (1, .ref (ad (5 + i))), (2, .int (r0))]) hx hb dX3_runsAhead_45 hl (k := 1) rfl (nI_1 j) (by decide) rfl (fun ls hl => ?_)
          refine lv_goto (tgt := 12) hx hb dX3_runsAhead_48 (by decide) ?_
          exact ih (j + 1) (by omega) (by rw [← he, hs_ra_succ, if_neg (fun q => q.1 ((hc_nodeI ho (by omega) hi).mp c_2))]) ls (lv_sub hl [0, 2, 3, 4, 5, 6] rfl)
        · refine lv_iload_n hx hb dX3_runsAhead_31 rfl (lv_at hl 6 rfl) ?_
          refine lv_aload hx hb dX3_runsAhead_32 (lv_at hl 0 rfl) ?_
          refine hc_g_noden G (in_X3_runsAhead_X1) hP (show j < 4 by omega) 0 (by decide) (by decide +kernel) (.int (HM.rd (x) (j))) rfl rfl dX3_runsAhead_34 ?_
          refine lv_isub hx hb dX3_runsAhead_37 ?_
          refine lv_bipush (v := 10) hx hb dX3_runsAhead_38 (by decide) ?_
          refine lv_icmp_le (tgt := 45) hx hb dX3_runsAhead_40 (by decide) (fun c_3 => ?_) (fun c_3 => ?_)
          · refine lv_iinc (v := nI (j + 1)) (lv' := [(5, .int (nI (j + 1))), (6, .ref (ad (5 + j))), (4, .int (4)), (3, .ref (ad 1)), (0, .ref (ad 0)), (1, .ref (ad (5 + i))), (2, .int (r0))]) hx hb dX3_runsAhead_45 hl (k := 1) rfl (nI_1 j) (by decide) rfl (fun ls hl => ?_)
            refine lv_goto (tgt := 12) hx hb dX3_runsAhead_48 (by decide) ?_
            exact ih (j + 1) (by omega) (by rw [← he, hs_ra_succ, if_neg (fun q => Int32.not_le.mpr q.2 c_3)]) ls (lv_sub hl [0, 2, 3, 4, 5, 6] rfl)
          · refine lv_iconst (v := 1) hx hb dX3_runsAhead_43 (by decide) ?_
            exact ct_zret hx hb hr hlocks (by decide) (by rw [show hs_ra x.rd i r0 4 0 = true from by rw [← he, hs_ra_succ]; exact if_pos ⟨fun q => c_2 ((hc_nodeI ho (by omega) hi).mpr q), Int32.not_le.mp c_3⟩]; rfl) hP hS dX3_runsAhead_44
  refine lv_aload_n hx hb dX3_runsAhead_0 rfl (lv_at hl 0 rfl) ?_
  refine hc_g_store G (in_X3_runsAhead_X3) hP 0 (by decide) (by decide +kernel) (.ref (ad 1)) rfl rfl dX3_runsAhead_1 ?_
  refine lv_astore_n (lv' := [(3, .ref (ad 1)), (0, .ref (ad 0)), (1, .ref (ad (5 + i))), (2, .int (r0))]) hx hb dX3_runsAhead_4 rfl hl (by decide) rfl (fun ls hl => ?_)
  refine lv_aload_n hx hb dX3_runsAhead_5 rfl (lv_at hl 0 rfl) ?_
  refine va_alen hx hb G.2.2.2.2.1 hP 1 3 (hc_at_top (by decide)) rfl (v := 4) rfl dX3_runsAhead_6 ?_
  refine lv_istore (lv' := [(4, .int (4)), (3, .ref (ad 1)), (0, .ref (ad 0)), (1, .ref (ad (5 + i))), (2, .int (r0))]) hx hb dX3_runsAhead_7 hl (by decide) rfl (fun ls hl => ?_)
  refine lv_iconst (v := 0) hx hb dX3_runsAhead_9 (by decide) ?_
  refine lv_istore (lv' := [(5, .int (0)), (4, .int (4)), (3, .ref (ad 1)), (0, .ref (ad 0)), (1, .ref (ad (5 + i))), (2, .int (r0))]) hx hb dX3_runsAhead_10 hl (by decide) rfl (fun ls hl => ?_)
  exact loop 4 0 rfl rfl ls (lv_sub hl [0, 1, 2, 3, 4, 5] rfl)
theorem in_X3_logCommit_X3 : ∀ w ∈ u_ws RX3 TX3 6, w ∈ wsX3_logCommit := by decide +kernel
set_option maxHeartbeats 4000000 in
set_option maxRecDepth 100000 in
/-- logCommit -/
theorem c_logCommit (l : Launch) (D : va_G) (cy : Nat → ClassId) (ad : Nat → Nat) (ho : hc_ok ad) (x : HM) (hlt : x.cm.length < 256) (s0 : Int64) : Ct l yX3_logCommit wsX3_logCommit ({ frames := 0, cells := 0, slots := 0, locals := 0 }) D cy (hc_A ad) [.ref (ad 0), .long (s0)] (hc_mem ad cy (x)) none (hc_mem ad cy (x.s_cm (x.cm ++ [s0]))) := by
  refine ct_of (cc := cX3_logCommit) (maxL := 3) (ret := none) rfl (by decide) (Nat.le_of_ble_eq_true rfl) ?_
  intro p e s m below meth c ls G hx hb hml hr hlocks hP hS hl
  have hl : lv_has ls 3 [(0, .ref (ad 0)), (1, .long (s0))] := hl
  refine lv_aload_n hx hb dX3_logCommit_0 rfl (lv_at hl 0 rfl) ?_
  refine hc_g_store G (in_X3_logCommit_X3) hP 4 (by decide) (by decide +kernel) (.int (nI (HM.cm (x)).length)) rfl rfl dX3_logCommit_1 ?_
  refine lv_sipush (v := 256) hx hb dX3_logCommit_4 (by decide) ?_
  refine lv_icmp_ge (tgt := 30) hx hb dX3_logCommit_7 (by decide) (fun c_1 => ?_) (fun c_1 => ?_)
  · exact absurd c_1 (nI_ge (b := 256) hlt (by decide))
  · refine lv_aload_n hx hb dX3_logCommit_10 rfl (lv_at hl 0 rfl) ?_
    refine hc_g_store G (in_X3_logCommit_X3) hP 3 (by decide) (by decide +kernel) (.ref (ad 4)) rfl rfl dX3_logCommit_11 ?_
    refine lv_aload_n hx hb dX3_logCommit_14 rfl (lv_at hl 0 rfl) ?_
    refine hc_g_store G (in_X3_logCommit_X3) hP 4 (by decide) (by decide +kernel) (.int (nI (HM.cm (x)).length)) rfl rfl dX3_logCommit_15 ?_
    refine lv_lload_n hx hb dX3_logCommit_18 rfl (lv_at hl 1 rfl) ?_
    refine va_last hx hb G.2.2.2.2.1 hP (hc_D ho cy x) hS 4 1 (hc_at_top (by decide)) rfl (hs_in (k := x.cm.length) (n := 256) (nI_clamp (by omega)) (hs_inN hlt (by decide))) dX3_logCommit_19 (fun H locs hP hD hS => ?_)
    rw [show Int32.toNatClampNeg (nI (HM.cm x).length) = x.cm.length from nI_clamp (by omega)] at hP hD
    refine lv_aload_n hx hb dX3_logCommit_20 rfl (lv_at hl 0 rfl) ?_
    refine lv_dup hx hb dX3_logCommit_21 rfl ?_
    refine va_get (D := D) (ci := 3) (v := .int (nI (HM.cm (x)).length)) (C := RX3) (T := TX3) (N := 6) hx hb G.2.2.1 in_X3_logCommit_X3 G.2.2.2.1 G.2.2.2.2.1 hP 0 (by rw [List.getElem?_set_ne (by omega)]; exact hc_at_top (by decide)) rfl 4 (by decide) (G.2.2.1 (.fieldLink RX3 140 "HlcStore" (TX3 4).2.1 (TX3 4).2.2.1) (by decide +kernel)) (fun _ h9 => h9) rfl dX3_logCommit_22 ?_
    refine lv_iconst (v := 1) hx hb dX3_logCommit_25 (by decide) ?_
    refine lv_iadd hx hb dX3_logCommit_26 ?_
    rw [nI_1]
    refine va_put (D := D) (ci := 3) (v := .int (nI (x.cm.length + 1))) (ty := .int) (C := RX3) (T := TX3) (N := 6) hx hb G.2.2.1 in_X3_logCommit_X3 tyX3 tyX3_ok nmX3 G.2.2.2.1 G.2.2.2.2.1 hP hD hS 0 (by rw [List.getElem?_set_ne (by omega)]; exact hc_at_top (by decide)) rfl 4 (by decide) (G.2.2.1 (.fieldLink RX3 140 "HlcStore" (TX3 4).2.1 (TX3 4).2.2.1) (by decide +kernel)) (fun _ h9 => h9) rfl (by decide +kernel) rfl rfl (Nat.le_of_ble_eq_true rfl) dX3_logCommit_27 (fun H locs hP _ hS => ?_)
    rw [hc_logC] at hP
    exact ct_vret hx hb hr hlocks rfl hP hS dX3_logCommit_30
theorem in_X3_restart_X3 : ∀ w ∈ u_ws RX3 TX3 6, w ∈ wsX3_restart := by decide +kernel
theorem in_X3_restart_X0 : ∀ w ∈ u_ws RX0 TX0 8, w ∈ wsX3_restart := by decide +kernel
set_option maxHeartbeats 4000000 in
set_option maxRecDepth 100000 in
/-- restart -/
theorem c_restart (l : Launch) (D : va_G) (cy : Nat → ClassId) (ad : Nat → Nat) (ho : hc_ok ad) (x : HM) (hhd : ∀ k, k < 16 → ∀ u, x.hd k = some u → u < 8) {t : Nat} (ht : t < 8) (a : Int64) : Ct l yX3_restart wsX3_restart ({ frames := 2, cells := 0, slots := 0, locals := 43 }) D cy (hc_A ad) [.ref (ad 0), .ref (ad (57 + t)), .long (a)] (hc_mem ad cy (x)) none (hc_mem ad cy (x.re t a)) := by
  refine ct_of (cc := cX3_restart) (maxL := 8) (ret := none) rfl (by decide) (Nat.le_of_ble_eq_true rfl) ?_
  intro p e s m below meth c ls G hx hb hml hr hlocks hP hS hl
  have hl : lv_has ls 8 [(0, .ref (ad 0)), (1, .ref (ad (57 + t))), (2, .long (a))] := hl
  have loop : ∀ (n i : Nat), i + n = 16 → ∀ (H : Heap) (locs : List Loc), va_P D vwCl (hc_mem ad cy (x.clr t i)) H → va_S (hc_A ad) s.heap H locs → ∀ ls : Array Slot, lv_has ls 8 [(6, .int (nI i)), (5, .int (16)), (4, .ref (ad 2)), (0, .ref (ad 0)), (1, .ref (ad (57 + t))), (2, .long (a))] → W p l e ({ frames := 2, cells := 0, slots := 0, locals := 43 }) s m [.ref (ad 0), .ref (ad (57 + t)), .long a].toArray below meth c H locs 0 0 (MQ below (hs_Post D none (hc_mem ad cy (x.re t a)) (hc_A ad)) [.ref (ad 0), .ref (ad (57 + t)), .long a].toArray s 0 0 (hc_A ad)) (F0 m 14 ls []) := by
    intro n
    induction n with
    | zero =>
      intro i hi H locs hP hS ls hl
      have hi16 : i = 16 := by omega
      subst hi16
      refine lv_iload hx hb dX3_restart_14 (lv_at hl 0 rfl) ?_
      refine lv_iload hx hb dX3_restart_16 (lv_at hl 1 rfl) ?_
      refine lv_icmp_ge (tgt := 49) hx hb dX3_restart_18 (by decide) (fun c_1 => ?_) (fun c_1 => ?_)
      · refine lv_aload_n hx hb dX3_restart_49 rfl (lv_at hl 4 rfl) ?_
        refine lv_lload_n hx hb dX3_restart_50 rfl (lv_at hl 5 rfl) ?_
        refine hs_callN (n := 1) (As := [.long (a)]) (rest := []) G hml (c_moveTo l D cy ad ho (HM.clr x t 16) (ht) (a)) gX3_restart_X2_moveTo_n196 rfl rfl rfl (by decide +kernel) (by decide +kernel) (by decide +kernel) (C := RX2) (by decide +kernel) (by decide +kernel) ⟨Nat.le_of_ble_eq_true rfl, Nat.le_of_ble_eq_true rfl⟩ (ci := 2) rfl rfl (hc_at_tx (ht)) rfl hl.1 (Nat.le_of_ble_eq_true rfl) ⟨Nat.zero_le _, Nat.zero_le _⟩ hP hS (fun _ h => h) rfl dX3_restart_51 (fun H locs hP hS _ _ => ?_)
        exact ct_vret hx hb hr hlocks rfl hP hS dX3_restart_54
      · exact absurd (show (16 : Int32) ≤ nI 16 by decide) c_1
    | succ n ih =>
      intro i hi H locs hP hS ls hl
      refine lv_iload hx hb dX3_restart_14 (lv_at hl 0 rfl) ?_
      refine lv_iload hx hb dX3_restart_16 (lv_at hl 1 rfl) ?_
      refine lv_icmp_ge (tgt := 49) hx hb dX3_restart_18 (by decide) (fun c_1 => ?_) (fun c_1 => ?_)
      · exact absurd c_1 (nI_ge (b := 16) (by omega) (by decide))
      · refine lv_aload hx hb dX3_restart_21 (lv_at hl 2 rfl) ?_
        refine lv_iload hx hb dX3_restart_23 (lv_at hl 0 rfl) ?_
        refine va_aldq hx hb G.2.2.2.2.1 hP 2 4 (hc_at_top (by decide)) rfl (hs_in (k := i) (n := 16) (nI_clamp (by omega)) (hs_inN (by omega) (by decide))) dX3_restart_25 ?_
        rw [show Int32.toNatClampNeg (nI i) = i from nI_clamp (by omega)]
        show W _ _ _ _ _ _ _ _ _ _ _ _ _ _ _ (F0 m (25 + 1) ls (.ref (ad (9 + i)) :: []))
        refine lv_astore (lv' := [(7, .ref (ad (9 + i))), (6, .int (nI i)), (5, .int (16)), (4, .ref (ad 2)), (0, .ref (ad 0)), (1, .ref (ad (57 + t))), (2, .long (a))]) hx hb dX3_restart_26 hl (by decide) rfl (fun ls hl => ?_)
        refine lv_aload hx hb dX3_restart_28 (lv_at hl 0 rfl) ?_
        refine hc_g_keyn G (in_X3_restart_X0) hP (show i < 16 by omega) 6 (by decide) (by decide +kernel) (va_rf ((HM.hd (HM.clr x t i) (i)).map (fun t => ad (57 + t)))) rfl rfl dX3_restart_30 ?_
        refine lv_aload_n hx hb dX3_restart_33 rfl (lv_at hl 5 rfl) ?_
        refine lv_acmp_ne (rx := (HM.hd (HM.clr x t i) (i)).map (fun t => ad (57 + t))) (ry := some (ad (57 + t))) (tgt := 43) hx hb dX3_restart_34 (by decide) (fun c_2 => ?_) (fun c_2 => ?_)
        · have he : ¬ x.hd i = some t := by
            intro q; apply c_2; rw [hs_clr_self]; exact (hc_txI ho ht (hhd i (by omega))).mpr q
          refine lv_iinc (v := nI (i + 1)) (lv' := [(6, .int (nI (i + 1))), (7, .ref (ad (9 + i))), (5, .int (16)), (4, .ref (ad 2)), (0, .ref (ad 0)), (1, .ref (ad (57 + t))), (2, .long (a))]) hx hb dX3_restart_43 hl (k := 1) rfl (nI_1 i) (by decide) rfl (fun ls hl => ?_)
          refine lv_goto (tgt := 14) hx hb dX3_restart_46 (by decide) ?_
          exact ih (i + 1) (by omega) H locs (by rw [← hs_clr_ne x he]; exact hP) hS ls (lv_sub hl [0, 2, 3, 4, 5, 6] rfl)
        · have he : x.hd i = some t := by
            have q := c_2; rw [hs_clr_self] at q; exact (hc_txI ho ht (hhd i (by omega))).mp q
          refine lv_aload hx hb dX3_restart_37 (lv_at hl 0 rfl) ?_
          refine lv_null hx hb dX3_restart_39 ?_
          refine hc_p_keyn ho G (in_X3_restart_X0) hP hS (show i < 16 by omega) 6 (by decide) (by decide +kernel) (.null) rfl rfl (.object "HlcStore$Transaction") (by decide +kernel) rfl rfl (Nat.le_of_ble_eq_true rfl) (HM.u_hd (HM.clr x t i) (i) (none)) (hc_s_hd (v := none) (show i < 16 by omega)) dX3_restart_40 (fun H locs hP hS => ?_)
          refine lv_iinc (v := nI (i + 1)) (lv' := [(6, .int (nI (i + 1))), (7, .ref (ad (9 + i))), (5, .int (16)), (4, .ref (ad 2)), (0, .ref (ad 0)), (1, .ref (ad (57 + t))), (2, .long (a))]) hx hb dX3_restart_43 hl (k := 1) rfl (nI_1 i) (by decide) rfl (fun ls hl => ?_)
          refine lv_goto (tgt := 14) hx hb dX3_restart_46 (by decide) ?_
          exact ih (i + 1) (by omega) H locs (by rw [← hs_clr_eq x he]; exact hP) hS ls (lv_sub hl [0, 2, 3, 4, 5, 6] rfl)
  refine lv_aload_n hx hb dX3_restart_0 rfl (lv_at hl 0 rfl) ?_
  refine hc_g_store G (in_X3_restart_X3) hP 1 (by decide) (by decide +kernel) (.ref (ad 2)) rfl rfl dX3_restart_1 ?_
  refine lv_astore (lv' := [(4, .ref (ad 2)), (0, .ref (ad 0)), (1, .ref (ad (57 + t))), (2, .long (a))]) hx hb dX3_restart_4 hl (by decide) rfl (fun ls hl => ?_)
  refine lv_aload hx hb dX3_restart_6 (lv_at hl 0 rfl) ?_
  refine va_alen hx hb G.2.2.2.2.1 hP 2 4 (hc_at_top (by decide)) rfl (v := 16) rfl dX3_restart_8 ?_
  refine lv_istore (lv' := [(5, .int (16)), (4, .ref (ad 2)), (0, .ref (ad 0)), (1, .ref (ad (57 + t))), (2, .long (a))]) hx hb dX3_restart_9 hl (by decide) rfl (fun ls hl => ?_)
  refine lv_iconst (v := 0) hx hb dX3_restart_11 (by decide) ?_
  refine lv_istore (lv' := [(6, .int (0)), (5, .int (16)), (4, .ref (ad 2)), (0, .ref (ad 0)), (1, .ref (ad (57 + t))), (2, .long (a))]) hx hb dX3_restart_12 hl (by decide) rfl (fun ls hl => ?_)
  exact loop 16 0 rfl s.heap [] (by rw [hs_clr_0]; exact hP) hS ls (lv_sub hl [0, 1, 2, 3, 4, 5] rfl)
theorem in_X3_lookUp_X0 : ∀ w ∈ u_ws RX0 TX0 8, w ∈ wsX3_lookUp := by decide +kernel
theorem in_X3_lookUp_X2 : ∀ w ∈ u_ws RX2 TX2 9, w ∈ wsX3_lookUp := by decide +kernel
theorem in_X3_lookUp_X1 : ∀ w ∈ u_ws RX1 TX1 2, w ∈ wsX3_lookUp := by decide +kernel
set_option maxHeartbeats 4000000 in
set_option maxRecDepth 100000 in
/-- lookUp -/
theorem c_lookUp (l : Launch) (D : va_G) (cy : Nat → ClassId) (ad : Nat → Nat) (ho : hc_ok ad) (x : HM) {k : Nat} (hk : k < 16) (hhd : ∀ u, x.hd k = some u → u < 8) (hgt : ∀ t, t < 8 → x.gt t < 4) (hlt : (x.hd k).isSome → (x.vk k).length < 16) {t : Nat} (ht : t < 8) : Ct l yX3_lookUp wsX3_lookUp ({ frames := 2, cells := 0, slots := 0, locals := 43 }) D cy (hc_A ad) [.ref (ad (9 + k)), .ref (ad (57 + t))] (hc_mem ad cy (x)) (some (va_rf ((x.lkU t k).map (fun u => ad (57 + u))))) (hc_mem ad cy (x.look t k)) := by
  refine ct_of (cc := cX3_lookUp) (maxL := 3) (ret := (some (.object "HlcStore$Transaction"))) rfl (by decide) (Nat.le_of_ble_eq_true rfl) ?_
  intro p e s m below meth c ls G hx hb hml hr hlocks hP hS hl
  have hl : lv_has ls 3 [(0, .ref (ad (9 + k))), (1, .ref (ad (57 + t)))] := hl
  cases hh : x.hd k with
  | none =>
    refine lv_aload_n hx hb dX3_lookUp_0 rfl (lv_at hl 0 rfl) ?_
    refine hc_g_keyn G (in_X3_lookUp_X0) hP (hk) 6 (by decide) (by decide +kernel) (.null) rfl (hc_hdN hh) dX3_lookUp_1 ?_
    refine lv_astore_nN (lv' := [(2, .null), (0, .ref (ad (9 + k))), (1, .ref (ad (57 + t)))]) hx hb dX3_lookUp_4 rfl hl (by decide) rfl (fun ls hl => ?_)
    refine lv_aload_nN hx hb dX3_lookUp_5 rfl (lv_at hl 0 rfl) ?_
    refine lv_ifnullN (tgt := 14) hx hb dX3_lookUp_6 (by decide) ?_
    refine lv_null hx hb dX3_lookUp_14 ?_
    exact ct_aret hx hb hr hlocks (Or.inl rfl) (by rw [HM.lkU, hh]; rfl) (by rw [HM.look, hh]; exact hP) hS dX3_lookUp_15
  | some u =>
    have hu8 := hhd u hh
    have hlt := hlt (by rw [hh]; rfl)
    have hgu := hgt u hu8
    refine lv_aload_n hx hb dX3_lookUp_0 rfl (lv_at hl 0 rfl) ?_
    refine hc_g_keyn G (in_X3_lookUp_X0) hP (hk) 6 (by decide) (by decide +kernel) (.ref (ad (57 + u))) rfl (hc_hdS hh) dX3_lookUp_1 ?_
    refine lv_astore_n (lv' := [(2, .ref (ad (57 + u))), (0, .ref (ad (9 + k))), (1, .ref (ad (57 + t)))]) hx hb dX3_lookUp_4 rfl hl (by decide) rfl (fun ls hl => ?_)
    refine lv_aload_n hx hb dX3_lookUp_5 rfl (lv_at hl 0 rfl) ?_
    refine lv_ifnull hx hb dX3_lookUp_6 ?_
    refine lv_aload_n hx hb dX3_lookUp_9 rfl (lv_at hl 0 rfl) ?_
    refine lv_aload_n hx hb dX3_lookUp_10 rfl (lv_at hl 2 rfl) ?_
    refine lv_acmp_ne (rx := some (ad (57 + u))) (ry := some (ad (57 + t))) (tgt := 16) hx hb dX3_lookUp_11 (by decide) (fun c_1 => ?_) (fun c_1 => ?_)
    · have hut : ¬ u = t := fun q => c_1 (by rw [q])
      refine lv_aload_n hx hb dX3_lookUp_16 rfl (lv_at hl 0 rfl) ?_
      refine hc_g_txn G (in_X3_lookUp_X2) hP (hu8) 1 (by decide) (by decide +kernel) (.ref (ad (5 + HM.gt (x) (u)))) rfl rfl dX3_lookUp_17 ?_
      refine lv_aload_n hx hb dX3_lookUp_20 rfl (lv_at hl 1 rfl) ?_
      refine hc_g_keyn G (in_X3_lookUp_X0) hP (hk) 1 (by decide) (by decide +kernel) (.ref (ad (5 + (k) % 4))) rfl rfl dX3_lookUp_21 ?_
      refine hc_g_noden G (in_X3_lookUp_X1) hP ((Nat.mod_lt _ (by decide))) 1 (by decide) (by decide +kernel) (.long (HM.ck (x) ((k) % 4))) rfl rfl dX3_lookUp_24 ?_
      refine hs_callN (n := 1) (As := [.long (HM.ck (x) ((k) % 4))]) (rest := []) G hml (c_takeIn l D cy ad ho (x) (hgu) (HM.ck (x) ((k) % 4))) gX3_lookUp_X1_takeIn_n92 rfl rfl rfl (by decide +kernel) (by decide +kernel) (by decide +kernel) (C := RX1) (by decide +kernel) (by decide +kernel) ⟨Nat.le_of_ble_eq_true rfl, Nat.le_of_ble_eq_true rfl⟩ (ci := 1) rfl rfl (hc_at_node (hgu)) rfl hl.1 (Nat.le_of_ble_eq_true rfl) ⟨Nat.zero_le _, Nat.zero_le _⟩ hP hS (fun _ h => h) rfl dX3_lookUp_27 (fun H locs hP hS _ _ => ?_)
      refine lv_aload_n hx hb dX3_lookUp_30 rfl (lv_at hl 1 rfl) ?_
      refine hc_g_keyn G (in_X3_lookUp_X0) hP (hk) 1 (by decide) (by decide +kernel) (.ref (ad (5 + (k) % 4))) rfl rfl dX3_lookUp_31 ?_
      refine lv_aload_n hx hb dX3_lookUp_34 rfl (lv_at hl 0 rfl) ?_
      refine hc_g_txn G (in_X3_lookUp_X2) hP (hu8) 1 (by decide) (by decide +kernel) (.ref (ad (5 + HM.gt (HM.tk (x) (HM.gt (x) (u)) (HM.ck (x) ((k) % 4))) (u)))) rfl rfl dX3_lookUp_35 ?_
      refine hc_g_noden G (in_X3_lookUp_X1) hP (hgu) 1 (by decide) (by decide +kernel) (.long (HM.ck (HM.tk (x) (HM.gt (x) (u)) (HM.ck (x) ((k) % 4))) (HM.gt (HM.tk (x) (HM.gt (x) (u)) (HM.ck (x) ((k) % 4))) (u)))) rfl rfl dX3_lookUp_38 ?_
      refine hs_callN (n := 1) (As := [.long (HM.ck (HM.tk (x) (HM.gt (x) (u)) (HM.ck (x) ((k) % 4))) (HM.gt (HM.tk (x) (HM.gt (x) (u)) (HM.ck (x) ((k) % 4))) (u)))]) (rest := []) G hml (c_takeIn l D cy ad ho (HM.tk (x) (HM.gt (x) (u)) (HM.ck (x) ((k) % 4))) ((Nat.mod_lt _ (by decide))) (HM.ck (HM.tk (x) (HM.gt (x) (u)) (HM.ck (x) ((k) % 4))) (HM.gt (HM.tk (x) (HM.gt (x) (u)) (HM.ck (x) ((k) % 4))) (u)))) gX3_lookUp_X1_takeIn_n92 rfl rfl rfl (by decide +kernel) (by decide +kernel) (by decide +kernel) (C := RX1) (by decide +kernel) (by decide +kernel) ⟨Nat.le_of_ble_eq_true rfl, Nat.le_of_ble_eq_true rfl⟩ (ci := 1) rfl rfl (hc_at_node ((Nat.mod_lt _ (by decide)))) rfl hl.1 (Nat.le_of_ble_eq_true rfl) ⟨Nat.zero_le _, Nat.zero_le _⟩ hP hS (fun _ h => h) rfl dX3_lookUp_41 (fun H locs hP hS _ _ => ?_)
      refine lv_aload_n hx hb dX3_lookUp_44 rfl (lv_at hl 0 rfl) ?_
      refine hs_callN (n := 0) (As := []) (rest := []) G hml (c_silent l D cy ad ho (HM.tk (HM.tk (x) (HM.gt (x) (u)) (HM.ck (x) ((k) % 4))) ((k) % 4) (HM.ck (HM.tk (x) (HM.gt (x) (u)) (HM.ck (x) ((k) % 4))) (HM.gt (HM.tk (x) (HM.gt (x) (u)) (HM.ck (x) ((k) % 4))) (u)))) (hu8) hgu) gX3_lookUp_X2_abortIfSilent_n193 rfl rfl rfl (by decide +kernel) (by decide +kernel) (by decide +kernel) (C := RX2) (by decide +kernel) (by decide +kernel) ⟨Nat.le_of_ble_eq_true rfl, Nat.le_of_ble_eq_true rfl⟩ (ci := 2) rfl rfl (hc_at_tx (hu8)) rfl hl.1 (Nat.le_of_ble_eq_true rfl) ⟨Nat.zero_le _, Nat.zero_le _⟩ hP hS (fun _ h => h) rfl dX3_lookUp_45 (fun H locs hP hS _ _ => ?_)
      have hP : va_P D vwCl (hc_mem ad cy (HM.lk3 x k u)) H := hP
      refine lv_aload_n hx hb dX3_lookUp_48 rfl (lv_at hl 0 rfl) ?_
      refine hc_g_txn G (in_X3_lookUp_X2) hP (hu8) 0 (by decide) (by decide +kernel) (.int (HM.ph (HM.lk3 x k u) (u))) rfl rfl dX3_lookUp_49 ?_
      refine lv_iconst (v := 1) hx hb dX3_lookUp_52 (by decide) ?_
      refine lv_icmp_ne (tgt := 58) hx hb dX3_lookUp_53 (by decide) (fun c_2 => ?_) (fun c_2 => ?_)
      · refine lv_aload_n hx hb dX3_lookUp_58 rfl (lv_at hl 1 rfl) ?_
        refine hs_callN (n := 0) (As := []) (rest := []) G hml (c_settle l D cy ad ho (HM.lk3 x k u) (hk) (hu8) ((by rw [hs_lk3_hd]; exact hh)) (by rw [hs_lk3_vk]; exact hlt)) gX3_lookUp_X0_settleIntent_n134 rfl rfl rfl (by decide +kernel) (by decide +kernel) (by decide +kernel) (C := RX0) (by decide +kernel) (by decide +kernel) ⟨Nat.le_of_ble_eq_true rfl, Nat.le_of_ble_eq_true rfl⟩ (ci := 0) rfl rfl (hc_at_key (hk)) rfl hl.1 (Nat.le_of_ble_eq_true rfl) ⟨Nat.zero_le _, Nat.zero_le _⟩ hP hS (fun _ h => h) rfl dX3_lookUp_59 (fun H locs hP hS _ _ => ?_)
        refine lv_null hx hb dX3_lookUp_62 ?_
        exact ct_aret hx hb hr hlocks (Or.inl rfl) (by rw [HM.lkU, hh]; dsimp only; rw [if_neg hut, if_neg (show ¬ (x.lk3 k u).ph u = 1 from c_2)]; rfl) (by rw [HM.look, hh]; dsimp only; rw [if_neg hut, HM.lk, if_neg (show ¬ (x.lk3 k u).ph u = 1 from c_2)]; exact hP) hS dX3_lookUp_63
      · refine lv_aload_n hx hb dX3_lookUp_56 rfl (lv_at hl 0 rfl) ?_
        exact ct_aret hx hb hr hlocks (Or.inr ⟨_, rfl⟩) (by rw [HM.lkU, hh]; dsimp only; rw [if_neg hut, if_pos (show (x.lk3 k u).ph u = 1 from c_2)]; rfl) (by rw [HM.look, hh]; dsimp only; rw [if_neg hut, HM.lk, if_pos (show (x.lk3 k u).ph u = 1 from c_2)]; exact hP) hS dX3_lookUp_57
    · have hut : u = t := by have := ho _ (by omega) _ (by omega) (Option.some.inj c_1); omega
      refine lv_null hx hb dX3_lookUp_14 ?_
      exact ct_aret hx hb hr hlocks (Or.inl rfl) (by rw [HM.lkU, hh]; dsimp only; rw [if_pos hut]; rfl) (by rw [HM.look, hh]; dsimp only; rw [if_pos hut]; exact hP) hS dX3_lookUp_15
end
section
/-! ===== what holds of every state that a run of calls reaches: shape, counts, bounds of stamps ===== -/
def hs_P2 (hd : Nat → Option Nat) (vk : Nat → List (Int64 × Int32)) : Prop := ∀ k, k < 16 → (∀ u, hd k = some u → u < 8) ∧ (vk k).length ≤ 16 ∧ ((hd k).isSome → (vk k).length < 16)
def hs_PL (f : Nat → Int64) (n : Nat) (B : Int) : Prop := ∀ i, i < n → 0 ≤ (f i).toInt ∧ (f i).toInt ≤ B
def hs_P6 (ws : Nat → Int64) (ph : Nat → Int32) : Prop := ∀ t, t < 8 → ¬ ph t = 0 → 1 ≤ (ws t).toInt
def hs_P8 (vs : List (Nat × Int64 × Int32)) (B : Int) : Prop := ∀ v ∈ vs, v.1 < 16 ∧ 1 ≤ v.2.1.toInt ∧ v.2.1.toInt ≤ B
def HM.In (x : HM) (B : Int) : Prop := (∀ t, t < 8 → x.gt t < 4) ∧ hs_P2 x.hd x.vk ∧ hs_PL x.ck 4 B ∧ (∀ i, i < 4 → 0 ≤ (x.rd i).toInt) ∧ hs_PL x.rs 8 B ∧ hs_PL x.ws 8 B ∧ hs_P6 x.ws x.ph ∧ hs_PL x.lr 16 B ∧ hs_P8 x.vs B ∧ 2251799813685248 ≤ B
theorem hs_PL.mono {f : Nat → Int64} {n : Nat} {B C : Int} (h : hs_PL f n B) (hBC : B ≤ C) : hs_PL f n C := fun i hi => ⟨(h i hi).1, Int.le_trans (h i hi).2 hBC⟩
theorem hs_P8.mono {vs : List (Nat × Int64 × Int32)} {B C : Int} (h : hs_P8 vs B) (hBC : B ≤ C) : hs_P8 vs C := fun v hv => ⟨(h v hv).1, (h v hv).2.1, Int.le_trans (h v hv).2.2 hBC⟩
theorem HM.In.mono {x : HM} {B C : Int} (h : x.In B) (hBC : B ≤ C) : x.In C := ⟨h.1, h.2.1, h.2.2.1.mono hBC, h.2.2.2.1, h.2.2.2.2.1.mono hBC, h.2.2.2.2.2.1.mono hBC, h.2.2.2.2.2.2.1, h.2.2.2.2.2.2.2.1.mono hBC, h.2.2.2.2.2.2.2.2.1.mono hBC, Int.le_trans h.2.2.2.2.2.2.2.2.2 hBC⟩
theorem hs_PL.up {f : Nat → Int64} {n : Nat} {B : Int} (h : hs_PL f n B) (i : Nat) {v : Int64} (h0 : 0 ≤ v.toInt) (h1 : v.toInt ≤ B) : hs_PL (va_up f i v) n B := fun j hj => by
  by_cases e : j = i
  · subst e; rw [va_up_self]; exact ⟨h0, h1⟩
  · rw [va_up_ne _ _ e]; exact h j hj
theorem hs_toInt1 {s : Int64} (h : s.toInt < 4611686018427387904) : (s + 1).toInt = s.toInt + 1 := by
  have h4 := Int64.le_toInt s
  have h5 : (1 : Int64).toInt = 1 := by decide
  rw [Int64.toInt_add, h5]
  exact Int.bmod_eq_of_le (by omega) (by omega)
theorem hs_wall (r : Int32) : (Int32.toInt64 r * 1048576).toInt = r.toInt * 1048576 := by
  have h1 := Int32.le_toInt r
  have h2 := Int32.toInt_lt r
  have h5 : (1048576 : Int64).toInt = 1048576 := by decide
  rw [Int64.toInt_mul, h5, Int32.toInt_toInt64]
  exact Int.bmod_eq_of_le (by omega) (by omega)
theorem hs_tk_in {r : Int32} {c s : Int64} {B : Int} (hB : 2251799813685248 ≤ B) (hB2 : B < 4611686018427387904) (hr : 0 ≤ r.toInt) (hc : 0 ≤ c.toInt ∧ c.toInt ≤ B) (hs : 0 ≤ s.toInt ∧ s.toInt ≤ B) : 1 ≤ (hs_tk r c s).toInt ∧ (hs_tk r c s).toInt ≤ B + 1 := by
  unfold hs_tk
  have h2 := Int32.toInt_lt r
  have e : ∃ q : Int64, (if s < c then c else s) = q ∧ 0 ≤ q.toInt ∧ q.toInt ≤ B := by
    by_cases z : s < c
    · exact ⟨c, if_pos z, hc⟩
    · exact ⟨s, if_neg z, hs⟩
  obtain ⟨q, e, hq⟩ := e
  rw [e]
  have e1 := hs_toInt1 (s := q) (by omega)
  by_cases z : Int32.toInt64 r * 1048576 < q + 1
  · rw [if_pos z, e1]; omega
  · rw [if_neg z]
    have z := Int64.not_lt.mp z
    rw [Int64.le_iff_toInt_le, e1] at z
    rw [hs_wall] at z ⊢
    omega
theorem HM.In.tk {x : HM} {B : Int} (h : x.In B) (hB2 : B < 4611686018427387904) {i : Nat} (hi : i < 4) {s : Int64} (hs : 0 ≤ s.toInt ∧ s.toInt ≤ B) : (x.tk i s).In (B + 1) := by
  have h' := h.mono (C := B + 1) (by omega)
  have q := hs_tk_in h.2.2.2.2.2.2.2.2.2 hB2 (h.2.2.2.1 i hi) (h.2.2.1 i hi) hs
  exact ⟨h'.1, h'.2.1, h'.2.2.1.up i (by omega) q.2, h'.2.2.2⟩
theorem HM.In.ck {x : HM} {B : Int} (h : x.In B) {i : Nat} (hi : i < 4) : 0 ≤ (x.ck i).toInt ∧ (x.ck i).toInt ≤ B := h.2.2.1 i hi
theorem HM.In.gt {x : HM} {B : Int} (h : x.In B) {t : Nat} (ht : t < 8) : x.gt t < 4 := h.1 t ht
theorem HM.In.rs {x : HM} {B : Int} (h : x.In B) {t : Nat} (ht : t < 8) : 0 ≤ (x.rs t).toInt ∧ (x.rs t).toInt ≤ B := h.2.2.2.2.1 t ht
theorem HM.In.ws {x : HM} {B : Int} (h : x.In B) {t : Nat} (ht : t < 8) : 0 ≤ (x.ws t).toInt ∧ (x.ws t).toInt ≤ B := h.2.2.2.2.2.1 t ht
theorem HM.In.lr {x : HM} {B : Int} (h : x.In B) {k : Nat} (hk : k < 16) : 0 ≤ (x.lr k).toInt ∧ (x.lr k).toInt ≤ B := h.2.2.2.2.2.2.2.1 k hk
theorem HM.In.hd {x : HM} {B : Int} (h : x.In B) {k : Nat} (hk : k < 16) : ∀ u, x.hd k = some u → u < 8 := (h.2.1 k hk).1
theorem HM.In.le16 {x : HM} {B : Int} (h : x.In B) {k : Nat} (hk : k < 16) : (x.vk k).length ≤ 16 := (h.2.1 k hk).2.1
theorem HM.In.lt16 {x : HM} {B : Int} (h : x.In B) {k : Nat} (hk : k < 16) : (x.hd k).isSome → (x.vk k).length < 16 := (h.2.1 k hk).2.2
theorem HM.In.ev {x : HM} {B : Int} (h : x.In B) (hB2 : B < 4611686018427387904) {i : Nat} (hi : i < 4) : (x.ev i).In (B + 1) := h.tk hB2 hi (h.ck hi)
theorem HM.In.pu {x : HM} {B : Int} (h : x.In B) (hB2 : B < 4611686018427387904) {t : Nat} (ht : t < 8) {s : Int64} (hs : -1 ≤ s.toInt ∧ s.toInt ≤ B) : (x.pu t s).In (B + 1) := by
  have h' := h.mono (C := B + 1) (by omega)
  have hw := h.ws ht
  have e1 := hs_toInt1 (s := s) (by omega)
  have q : 0 ≤ (if x.ws t ≤ s then s + 1 else x.ws t).toInt ∧ (if x.ws t ≤ s then s + 1 else x.ws t).toInt ≤ B + 1 := by
    by_cases z : x.ws t ≤ s
    · rw [if_pos z, e1]; omega
    · rw [if_neg z]; omega
  refine ⟨h'.1, h'.2.1, h'.2.2.1, h'.2.2.2.1, h'.2.2.2.2.1, h'.2.2.2.2.2.1.up t q.1 q.2, fun j hj hp => ?_, h'.2.2.2.2.2.2.2⟩
  have h6 := h.2.2.2.2.2.2.1 j hj hp
  show 1 ≤ (va_up x.ws t _ j).toInt
  by_cases e : j = t
  · subst e
    rw [va_up_self]
    by_cases z : x.ws j ≤ s
    · rw [if_pos z, e1]; have := Int64.le_iff_toInt_le.mp z; omega
    · rw [if_neg z]; exact h6
  · rw [va_up_ne _ _ e]; exact h6
theorem HM.In.sil {x : HM} {B : Int} (h : x.In B) (u : Nat) : (x.sil u).In B := by
  unfold HM.sil
  split
  · rename_i c
    refine ⟨h.1, h.2.1, h.2.2.1, h.2.2.2.1, h.2.2.2.2.1, h.2.2.2.2.2.1, fun j hj hp => ?_, h.2.2.2.2.2.2.2⟩
    by_cases e : j = u
    · subst e; exact h.2.2.2.2.2.2.1 j hj (by rw [c.1]; decide)
    · refine h.2.2.2.2.2.2.1 j hj (fun q => hp ?_)
      show va_up x.ph u 3 j = 0
      rw [va_up_ne _ _ e]; exact q
  · exact h
theorem HM.In.u_hdN {x : HM} {B : Int} (h : x.In B) (k : Nat) : (x.u_hd k none).In B := by
  refine ⟨h.1, fun j hj => ?_, h.2.2⟩
  have := h.2.1 j hj
  show (∀ u, va_up x.hd k none j = some u → u < 8) ∧ (x.vk j).length ≤ 16 ∧ ((va_up x.hd k none j).isSome → (x.vk j).length < 16)
  by_cases e : j = k
  · subst e; rw [va_up_self]; exact ⟨fun u q => (by cases q), this.2.1, fun q => (by cases q)⟩
  · rw [va_up_ne _ _ e]; exact this
theorem HM.In.u_hdS {x : HM} {B : Int} (h : x.In B) {k t : Nat} (ht : t < 8) (hl : (x.vk k).length < 16) : (x.u_hd k (some t)).In B := by
  refine ⟨h.1, fun j hj => ?_, h.2.2⟩
  have := h.2.1 j hj
  show (∀ u, va_up x.hd k (some t) j = some u → u < 8) ∧ (x.vk j).length ≤ 16 ∧ ((va_up x.hd k (some t) j).isSome → (x.vk j).length < 16)
  by_cases e : j = k
  · subst e; rw [va_up_self]; exact ⟨fun u q => (by cases q; exact ht), this.2.1, fun _ => hl⟩
  · rw [va_up_ne _ _ e]; exact this
theorem HM.In.add {x : HM} {B : Int} (h : x.In B) {k : Nat} (hk : k < 16) (hn : x.hd k = none) (hl : (x.vk k).length < 16) {s : Int64} (hs : 1 ≤ s.toInt ∧ s.toInt ≤ B) (v : Int32) : (x.add k s v).In B := by
  have h2 : hs_P2 x.hd (x.add k s v).vk := by
    intro j hj
    have h3 := h.2.1 j hj
    by_cases e : j = k
    · subst e
      rw [hs_vk_add, List.length_append, hn]
      exact ⟨fun u q => (by cases q), (by simp; omega), fun q => (by cases q)⟩
    · rw [hs_vk_add_ne x e]; exact h3
  have h8 : hs_P8 (x.vs ++ [(k, s, v)]) B := by
    intro w hw
    rcases List.mem_append.mp hw with q | q
    · exact h.2.2.2.2.2.2.2.2.1 w q
    · rw [List.mem_singleton.mp q]; exact ⟨hk, hs⟩
  exact ⟨h.1, h2, h.2.2.1, h.2.2.2.1, h.2.2.2.2.1, h.2.2.2.2.2.1, h.2.2.2.2.2.2.1, h.2.2.2.2.2.2.2.1, h8, h.2.2.2.2.2.2.2.2.2⟩
theorem HM.In.stl {x : HM} {B : Int} (h : x.In B) {k u : Nat} (hk : k < 16) (hu : u < 8) (hl : (x.vk k).length < 16) : (x.stl k u).In B := by
  unfold HM.stl
  split
  · rename_i c
    have h1 := h.2.2.2.2.2.2.1 u hu (by rw [c]; decide)
    have h2 := (h.u_hdN k).add hk (show (x.u_hd k none).hd k = none from va_up_self _ _ _) hl ⟨h1, (h.ws hu).2⟩ (x.pl k)
    exact h2
  · exact h.u_hdN k
theorem HM.In.lk3 {x : HM} {B : Int} (h : x.In B) (hB2 : B + 1 < 4611686018427387904) {k u : Nat} (hu : u < 8) : (x.lk3 k u).In (B + 2) := by
  have hg := h.gt hu
  have hm : k % 4 < 4 := Nat.mod_lt _ (by decide)
  have h1 : (x.lk1 k u).In (B + 1) := h.tk (by omega) hg (h.ck hm)
  have h2 : (x.lk2 k u).In (B + 1 + 1) := h1.tk (by omega) hm (h1.ck hg)
  have h3 := h2.sil u
  rw [show B + 1 + 1 = B + 2 by omega] at h3
  exact h3
theorem HM.In.lk {x : HM} {B : Int} (h : x.In B) (hB2 : B + 1 < 4611686018427387904) {k u : Nat} (hk : k < 16) (hu : u < 8) (hl : (x.vk k).length < 16) : (x.lk k u).In (B + 2) := by
  unfold HM.lk
  split
  · exact h.lk3 hB2 hu
  · exact (h.lk3 hB2 hu).stl hk hu (by rw [hs_lk3_vk]; exact hl)
theorem HM.In.look {x : HM} {B : Int} (h : x.In B) (hB2 : B + 1 < 4611686018427387904) {t k : Nat} (hk : k < 16) : (x.look t k).In (B + 2) := by
  unfold HM.look
  cases hh : x.hd k with
  | none => exact h.mono (by omega)
  | some u =>
    dsimp only
    split
    · exact h.mono (by omega)
    · exact h.lk hB2 hk (h.hd hk u hh) (h.lt16 hk (by rw [hh]; rfl))
theorem HM.In.lkU {x : HM} {B : Int} (h : x.In B) {t k u : Nat} (hk : k < 16) (hl : x.lkU t k = some u) : u < 8 := by
  unfold HM.lkU at hl
  cases hh : x.hd k with
  | none => rw [hh] at hl; cases hl
  | some w =>
    rw [hh] at hl
    dsimp only at hl
    split at hl
    · cases hl
    · split at hl
      · cases hl; exact h.hd hk _ hh
      · cases hl
theorem HM.In.clr {x : HM} {B : Int} (h : x.In B) (t n : Nat) : (x.clr t n).In B := by
  refine ⟨h.1, fun j hj => ?_, h.2.2⟩
  have := h.2.1 j hj
  show (∀ u, (if j < n ∧ x.hd j = some t then none else x.hd j) = some u → u < 8) ∧ (x.vk j).length ≤ 16 ∧ ((if j < n ∧ x.hd j = some t then none else x.hd j).isSome → (x.vk j).length < 16)
  split
  · exact ⟨fun u q => (by cases q), this.2.1, fun q => (by cases q)⟩
  · exact this
theorem hs_mv_ws (x : HM) (t : Nat) (a : Int64) : (x.mv t a).ws = va_up x.ws t (if a < x.ws t then x.ws t else a) := rfl
theorem hs_mv_rs (x : HM) (t : Nat) (a : Int64) : (x.mv t a).rs = va_up x.rs t (if a < x.ws t then x.ws t else a) := by
  show va_up x.rs t ((va_up x.ws t (if a < x.ws t then x.ws t else a)) t) = _
  rw [va_up_self]
theorem HM.In.mv {x : HM} {B : Int} (h : x.In B) {t : Nat} (ht : t < 8) {a : Int64} (ha : a.toInt ≤ B) : (x.mv t a).In B := by
  have hw := h.ws ht
  have q : 0 ≤ (if a < x.ws t then x.ws t else a).toInt ∧ (if a < x.ws t then x.ws t else a).toInt ≤ B ∧ (x.ws t).toInt ≤ (if a < x.ws t then x.ws t else a).toInt := by
    by_cases z : a < x.ws t
    · rw [if_pos z]; omega
    · rw [if_neg z]
      have z := Int64.le_iff_toInt_le.mp (Int64.not_lt.mp z)
      omega
  refine ⟨h.1, h.2.1, h.2.2.1, h.2.2.2.1, ?_, ?_, ?_, h.2.2.2.2.2.2.2⟩
  · rw [hs_mv_rs]; exact h.2.2.2.2.1.up t q.1 q.2.1
  · rw [hs_mv_ws]; exact h.2.2.2.2.2.1.up t q.1 q.2.1
  · intro j hj hp
    have h6 := h.2.2.2.2.2.2.1 j hj hp
    rw [hs_mv_ws]
    by_cases e : j = t
    · subst e; rw [va_up_self]; omega
    · rw [va_up_ne _ _ e]; exact h6
theorem HM.In.re {x : HM} {B : Int} (h : x.In B) {t : Nat} (ht : t < 8) {a : Int64} (ha : a.toInt ≤ B) : (x.re t a).In B := (h.clr t 16).mv ht ha
theorem HM.In.u_lr {x : HM} {B : Int} (h : x.In B) (k : Nat) {s : Int64} (hs : 0 ≤ s.toInt ∧ s.toInt ≤ B) : (x.u_lr k s).In B := ⟨h.1, h.2.1, h.2.2.1, h.2.2.2.1, h.2.2.2.2.1, h.2.2.2.2.2.1, h.2.2.2.2.2.2.1, h.2.2.2.2.2.2.2.1.up k hs.1 hs.2, h.2.2.2.2.2.2.2.2⟩
theorem HM.In.u_se {x : HM} {B : Int} (h : x.In B) (t : Nat) (f : Nat → Bool) : (x.u_se t f).In B := h
theorem HM.In.u_pl {x : HM} {B : Int} (h : x.In B) (k : Nat) (v : Int32) : (x.u_pl k v).In B := h
theorem HM.In.u_hu {x : HM} {B : Int} (h : x.In B) (k : Nat) (v : Int32) : (x.u_hu k v).In B := h
/-- what the best version is -/
theorem hs_fb_or (a u : Int64) (acc : Option (Int64 × Int32)) (w : Int64 × Int32) : (hs_fb a u acc w = some w ∧ (match acc with | none => a | some y => y.1) < w.1 ∧ w.1 ≤ u) ∨ hs_fb a u acc w = acc := by
  by_cases c : (match acc with | none => a | some y => y.1) < w.1 ∧ w.1 ≤ u
  · exact Or.inl ⟨if_pos c, c⟩
  · exact Or.inr (if_neg c)
theorem hs_best_mem {a u : Int64} {l : List (Int64 × Int32)} {v : Int64 × Int32} (h : hs_best a u l = some v) : v ∈ l ∧ a < v.1 ∧ v.1 ≤ u := by
  have key : ∀ (l : List (Int64 × Int32)) (acc : Option (Int64 × Int32)), (∀ w, acc = some w → a < w.1 ∧ w.1 ≤ u) → ∀ v, l.foldl (hs_fb a u) acc = some v → (v ∈ l ∨ acc = some v) ∧ a < v.1 ∧ v.1 ≤ u := by
    intro l
    induction l with
    | nil => intro acc hacc v h; exact ⟨Or.inr h, hacc v h⟩
    | cons w l ih =>
      intro acc hacc v h
      have hn : ∀ z, hs_fb a u acc w = some z → a < z.1 ∧ z.1 ≤ u := by
        intro z hz
        rcases hs_fb_or a u acc w with ⟨c0, c1, c2⟩ | c0
        · rw [c0] at hz
          cases hz
          refine ⟨?_, c2⟩
          cases acc with
          | none => exact c1
          | some y => exact Int64.lt_trans (hacc y rfl).1 c1
        · rw [c0] at hz; exact hacc z hz
      obtain ⟨h1, h2⟩ := ih _ hn v h
      refine ⟨?_, h2⟩
      rcases h1 with h1 | h1
      · exact Or.inl (List.mem_cons_of_mem _ h1)
      · rcases hs_fb_or a u acc w with ⟨c0, -⟩ | c0
        · rw [c0] at h1; cases h1; exact Or.inl List.mem_cons_self
        · rw [c0] at h1; exact Or.inr h1
  obtain ⟨h1, h2⟩ := key l none (fun w q => by cases q) v h
  exact ⟨h1.resolve_right (fun q => by cases q), h2⟩
theorem HM.In.vk {x : HM} {B : Int} (h : x.In B) {k : Nat} {v : Int64 × Int32} (hv : v ∈ x.vk k) : 1 ≤ v.1.toInt ∧ v.1.toInt ≤ B := by
  obtain ⟨w, hw, rfl⟩ := List.mem_map.mp hv
  exact (h.2.2.2.2.2.2.2.2.1 w (List.mem_filter.mp hw).1).2
theorem HM.In.gs {x : HM} {B : Int} (h : x.In B) (a u : Int64) (k : Nat) : -1 ≤ (hs_gs (hs_best a u (x.vk k))).toInt ∧ (hs_gs (hs_best a u (x.vk k))).toInt ≤ B := by
  cases hq : hs_best a u (x.vk k) with
  | none => have := h.2.2.2.2.2.2.2.2.2; have e : (hs_gs none).toInt = -1 := by decide
            rw [e]; omega
  | some v => have := h.vk (hs_best_mem hq).1; show -1 ≤ v.1.toInt ∧ v.1.toInt ≤ B; omega
theorem HM.In.gs_m1 {x : HM} {B : Int} (h : x.In B) (a u : Int64) (k : Nat) : hs_gs (hs_best a u (x.vk k)) = -1 ↔ hs_best a u (x.vk k) = none := by
  cases hq : hs_best a u (x.vk k) with
  | none => simp [hs_gs]
  | some v =>
    have := h.vk (hs_best_mem hq).1
    simp only [hs_gs]
    refine ⟨fun q => ?_, fun q => by cases q⟩
    rw [q] at this
    exact absurd this.1 (by decide)
theorem hs_lt_max {s : Int64} {B : Int} (hB : B < 4611686018427387904) (h : s.toInt ≤ B) : s < 9223372036854775807 := by
  rw [Int64.lt_iff_toInt_lt]
  have e : (9223372036854775807 : Int64).toInt = 9223372036854775807 := by decide
  rw [e]; omega
end
section
/-! ===== read, write, commit as functions of the state ===== -/
/-- the key is looked up for t, and who stands in the way is pushed above t's read stamp (write stamp) -/
def HM.lpR (x : HM) (t k : Nat) : HM := match x.lkU t k with
  | none => x.look t k
  | some u => (x.look t k).pu u ((x.look t k).rs t)
def HM.lpW (x : HM) (t k : Nat) : HM := match x.lkU t k with
  | none => x.look t k
  | some u => (x.look t k).pu u ((x.look t k).ws t)
/-- t has read the key: its mark, the set of keys read -/
def HM.mk (x : HM) (k : Nat) (s : Int64) : HM := x.u_lr k (if s < x.lr k then x.lr k else s)
def HM.rdN (z : HM) (t k : Nat) : HM := (z.mk k (z.rs t)).u_se t (va_up ((z.mk k (z.rs t)).se t) k true)
def HM.rdX (z : HM) (t k : Nat) : HM := match hs_best (z.rs t) (z.lm t) (z.vk k) with
  | some v => z.re t v.1
  | none => z.rdN t k
def HM.rdY (z : HM) (t k : Nat) : Int64 := match hs_best (z.rs t) (z.lm t) (z.vk k) with
  | some _ => 4294967297
  | none => Int32.toInt64 (hs_gv (hs_best (-1) (z.rs t) (z.vk k)))
def HM.rdM (x : HM) (t k : Nat) : HM := if x.hd k = some t then x else (x.lpR t k).rdX t k
def HM.rdA (x : HM) (t k : Nat) : Int64 := if x.hd k = some t then Int32.toInt64 (x.pl k) else (x.lpR t k).rdY t k
/-- write at the owner -/
def HM.wrB (x : HM) (t k : Nat) : Bool := match x.lkU t k with
  | none => false
  | some u => decide ((x.look t k).bi u < (x.look t k).bi t)
def HM.wr1 (x : HM) (t k : Nat) : HM := match x.lkU t k with
  | none => x.look t k
  | some u => ((x.look t k).re u 0).u_hu u 1
def HM.wr2 (y : HM) (t k : Nat) : HM := (y.pu t (y.lr k)).pu t (hs_gs (hs_best (-1) 9223372036854775807 ((y.pu t (y.lr k)).vk k)))
def HM.wr3 (y : HM) (t k : Nat) (v : Int32) : HM := ((y.wr2 t k).u_hd k (some t)).u_pl k v
def HM.wrM (x : HM) (t k : Nat) (v : Int32) : HM := if x.hd k = some t then x.u_pl k v else if x.wrB t k then x.look t k else if 16 ≤ ((x.wr1 t k).vk k).length then x.wr1 t k else (x.wr1 t k).wr3 t k v
def HM.wrA (x : HM) (t k : Nat) : Int32 := if x.hd k = some t then 0 else if x.wrB t k then -5 else if 16 ≤ ((x.wr1 t k).vk k).length then -7 else 0
/-- a key that t has read, at its commit -/
def HM.mr1 (x : HM) (t k : Nat) : HM := (x.tk (k % 4) (x.ck (x.gt t))).lpW t k
def HM.mrC (x : HM) (t k : Nat) : Bool := (hs_best ((x.mr1 t k).rs t) ((x.mr1 t k).ws t) ((x.mr1 t k).vk k)).isSome
def HM.mr2 (x : HM) (t k : Nat) : HM := if x.mrC t k then x.mr1 t k else (x.mr1 t k).mk k ((x.mr1 t k).ws t)
def HM.mrM (x : HM) (t k : Nat) : HM := (x.mr2 t k).tk ((x.mr2 t k).gt t) ((x.mr2 t k).ck (k % 4))
def hs_mrs (t : Nat) : Nat → Nat → HM → HM × Bool
  | 0, _, x => (x, true)
  | n + 1, k, x => if x.se t k then (if x.mrC t k then (x.mrM t k, false) else hs_mrs t n (k + 1) (x.mrM t k)) else hs_mrs t n (k + 1) x
theorem hs_mrs_succ (t n k : Nat) (x : HM) : hs_mrs t (n + 1) k x = if x.se t k then (if x.mrC t k then (x.mrM t k, false) else hs_mrs t n (k + 1) (x.mrM t k)) else hs_mrs t n (k + 1) x := rfl
/-! laws -/
theorem HM.In.lpR {x : HM} {B : Int} (h : x.In B) (hB2 : B + 2 < 4611686018427387904) {t k : Nat} (ht : t < 8) (hk : k < 16) : (x.lpR t k).In (B + 3) := by
  have h1 := h.look (t := t) (by omega) hk
  unfold HM.lpR
  cases hq : x.lkU t k with
  | none => exact h1.mono (by omega)
  | some u =>
    have h2 := h1.pu (by omega) (h.lkU hk hq) (s := (x.look t k).rs t) ⟨by have := (h1.rs ht).1; omega, (h1.rs ht).2⟩
    rw [show B + 2 + 1 = B + 3 by omega] at h2
    exact h2
theorem HM.In.lpW {x : HM} {B : Int} (h : x.In B) (hB2 : B + 2 < 4611686018427387904) {t k : Nat} (ht : t < 8) (hk : k < 16) : (x.lpW t k).In (B + 3) := by
  have h1 := h.look (t := t) (by omega) hk
  unfold HM.lpW
  cases hq : x.lkU t k with
  | none => exact h1.mono (by omega)
  | some u =>
    have h2 := h1.pu (by omega) (h.lkU hk hq) (s := (x.look t k).ws t) ⟨by have := (h1.ws ht).1; omega, (h1.ws ht).2⟩
    rw [show B + 2 + 1 = B + 3 by omega] at h2
    exact h2
theorem HM.In.mk {x : HM} {B : Int} (h : x.In B) {k : Nat} (hk : k < 16) {s : Int64} (hs : 0 ≤ s.toInt ∧ s.toInt ≤ B) : (x.mk k s).In B := by
  refine h.u_lr k ?_
  split
  · exact h.lr hk
  · exact hs
theorem HM.In.rdX {z : HM} {B : Int} (h : z.In B) {t k : Nat} (ht : t < 8) (hk : k < 16) : (z.rdX t k).In B := by
  unfold HM.rdX
  cases hq : hs_best (z.rs t) (z.lm t) (z.vk k) with
  | none => exact (h.mk hk (h.rs ht)).u_se t _
  | some v => exact h.re ht (h.vk (hs_best_mem hq).1).2
theorem HM.In.rdM {x : HM} {B : Int} (h : x.In B) (hB2 : B + 2 < 4611686018427387904) {t k : Nat} (ht : t < 8) (hk : k < 16) : (x.rdM t k).In (B + 3) := by
  unfold HM.rdM
  split
  · exact h.mono (by omega)
  · exact (h.lpR hB2 ht hk).rdX ht hk
theorem HM.In.wr1 {x : HM} {B : Int} (h : x.In B) (hB2 : B + 2 < 4611686018427387904) {t k : Nat} (hk : k < 16) : (x.wr1 t k).In (B + 2) := by
  have h1 := h.look (t := t) (by omega) hk
  unfold HM.wr1
  cases hq : x.lkU t k with
  | none => exact h1
  | some u => exact (h1.re (h.lkU hk hq) (by have := h.2.2.2.2.2.2.2.2.2; have e : (0 : Int64).toInt = 0 := by decide
                                             rw [e]; omega)).u_hu u 1
theorem HM.In.wr2 {y : HM} {B : Int} (h : y.In B) (hB2 : B + 1 < 4611686018427387904) {t k : Nat} (ht : t < 8) (hk : k < 16) : (y.wr2 t k).In (B + 2) := by
  have h1 := h.pu (by omega) ht (s := y.lr k) ⟨by have := (h.lr hk).1; omega, (h.lr hk).2⟩
  have h2 := h1.pu (by omega) ht (h1.gs (-1) 9223372036854775807 k)
  rw [show B + 1 + 1 = B + 2 by omega] at h2
  exact h2
theorem hs_wr2_vk (y : HM) (t k j : Nat) : (y.wr2 t k).vk j = y.vk j := rfl
theorem HM.In.wrM {x : HM} {B : Int} (h : x.In B) (hB2 : B + 4 < 4611686018427387904) {t k : Nat} (ht : t < 8) (hk : k < 16) (v : Int32) : (x.wrM t k v).In (B + 4) := by
  unfold HM.wrM
  split
  · exact (h.mono (by omega)).u_pl k v
  · split
    · exact (h.look (by omega) hk).mono (by omega)
    · split
      · exact (h.wr1 (by omega) hk).mono (by omega)
      · rename_i c
        have h2 := (h.wr1 (t := t) (by omega) hk).wr2 (by omega) ht hk
        have h3 := (h2.u_hdS ht (k := k) (by rw [hs_wr2_vk]; omega)).u_pl k v
        rw [show B + 2 + 2 = B + 4 by omega] at h3
        exact h3
theorem HM.In.mr1 {x : HM} {B : Int} (h : x.In B) (hB2 : B + 3 < 4611686018427387904) {t k : Nat} (ht : t < 8) (hk : k < 16) : (x.mr1 t k).In (B + 4) := by
  have hm : k % 4 < 4 := Nat.mod_lt _ (by decide)
  have h1 := h.tk (by omega) hm (h.ck (h.gt ht))
  have h2 := h1.lpW (by omega) ht hk
  rw [show B + 1 + 3 = B + 4 by omega] at h2
  exact h2
theorem HM.In.mr2 {x : HM} {B : Int} (h : x.In B) (hB2 : B + 3 < 4611686018427387904) {t k : Nat} (ht : t < 8) (hk : k < 16) : (x.mr2 t k).In (B + 4) := by
  have h1 := h.mr1 hB2 ht hk
  unfold HM.mr2
  split
  · exact h1
  · exact h1.mk hk (h1.ws ht)
theorem HM.In.mrM {x : HM} {B : Int} (h : x.In B) (hB2 : B + 4 < 4611686018427387904) {t k : Nat} (ht : t < 8) (hk : k < 16) : (x.mrM t k).In (B + 5) := by
  have hm : k % 4 < 4 := Nat.mod_lt _ (by decide)
  have h1 := h.mr2 (by omega) ht hk
  have h2 := h1.tk (by omega) (h1.gt ht) (h1.ck hm)
  rw [show B + 4 + 1 = B + 5 by omega] at h2
  exact h2
theorem HM.In.mrs {t : Nat} (ht : t < 8) : ∀ (n k : Nat) (x : HM) (B : Int), k + n = 16 → x.In B → B + 5 * n < 4611686018427387904 → (hs_mrs t n k x).1.In (B + 5 * n) := by
  intro n
  induction n with
  | zero => intro k x B _ h _; exact h.mono (by omega)
  | succ n ih =>
    intro k x B hk h hB
    have h1 := h.mrM (k := k) (by omega) ht (by omega)
    rw [hs_mrs_succ]
    split
    · split
      · exact h1.mono (by omega)
      · exact (ih (k + 1) _ (B + 5) (by omega) h1 (by omega)).mono (by omega)
    · exact (ih (k + 1) x B (by omega) h (by omega)).mono (by omega)
/-! the set of keys read as bits -/
theorem hs_mn_lt (f : Nat → Bool) : ∀ n, hs_mn f n < 2 ^ n := by
  intro n
  induction n with
  | zero => exact Nat.one_pos
  | succ n ih => rw [hs_mn, Nat.pow_succ]; split <;> omega
theorem hs_mn_bit (f : Nat → Bool) : ∀ n j, (hs_mn f n).testBit j = (decide (j < n) && f j) := by
  intro n
  induction n with
  | zero => intro j; simp [hs_mn]
  | succ n ih =>
    intro j
    have hlt := hs_mn_lt f n
    rw [hs_mn]
    by_cases hf : f n = true
    · rw [if_pos hf]
      by_cases e : j = n
      · subst e; rw [Nat.testBit_two_pow_add_eq, Nat.testBit_lt_two_pow hlt]; simp [hf]
      · by_cases q : j < n
        · rw [Nat.testBit_two_pow_add_gt q, ih]; simp [q, show j < n + 1 by omega]
        · have : 2 ^ n + hs_mn f n < 2 ^ j := by
            have h1 : 2 ^ (n + 1) ≤ 2 ^ j := Nat.pow_le_pow_right (by decide) (by omega)
            rw [Nat.pow_succ] at h1; omega
          rw [Nat.testBit_lt_two_pow this]; simp [show ¬ j < n + 1 by omega]
    · rw [if_neg hf, Nat.zero_add, ih]
      by_cases e : j = n
      · subst e; simp [hf]
      · by_cases q : j < n
        · simp [q, show j < n + 1 by omega]
        · simp [q, show ¬ j < n + 1 by omega]
theorem hs_bit_eq : ∀ k, k < 16 → hs_bit k = nI (2 ^ k) := by decide
theorem hs_nIor (a b : Nat) : nI a ||| nI b = nI (a ||| b) := by
  apply Int32.toBitVec_inj.mp
  show BitVec.ofNat 32 a ||| BitVec.ofNat 32 b = BitVec.ofNat 32 (a ||| b)
  simp
theorem hs_nIand (a b : Nat) : nI a &&& nI b = nI (a &&& b) := by
  apply Int32.toBitVec_inj.mp
  show BitVec.ofNat 32 a &&& BitVec.ofNat 32 b = BitVec.ofNat 32 (a &&& b)
  simp
theorem hs_mask_or (f : Nat → Bool) {k : Nat} (hk : k < 16) : hs_mask f ||| hs_bit k = hs_mask (va_up f k true) := by
  rw [hs_bit_eq k hk, hs_mask, hs_mask, hs_nIor]
  congr 1
  apply Nat.eq_of_testBit_eq
  intro j
  rw [Nat.testBit_or, hs_mn_bit, hs_mn_bit, Nat.testBit_two_pow]
  by_cases e : j = k
  · subst e; simp [va_up_self, hk]
  · rw [va_up_ne _ _ e]; simp [Ne.symm e]
theorem hs_mask_and (f : Nat → Bool) {k : Nat} (hk : k < 16) : (hs_mask f &&& hs_bit k) = 0 ↔ f k = false := by
  rw [hs_bit_eq k hk, hs_mask, hs_nIand]
  have e : hs_mn f 16 &&& 2 ^ k = if f k then 2 ^ k else 0 := by
    apply Nat.eq_of_testBit_eq
    intro j
    rw [Nat.testBit_and, hs_mn_bit, Nat.testBit_two_pow]
    by_cases e : k = j
    · subst e; cases hf : f k <;> simp [hk, hf, Nat.testBit_two_pow]
    · cases hf : f k <;> simp [e, hf, Nat.testBit_two_pow]
  rw [e]
  have h2 : 2 ^ k ≤ 2 ^ 15 := Nat.pow_le_pow_right (by decide) (by omega)
  have h3 : 0 < 2 ^ k := Nat.two_pow_pos k
  cases hf : f k with
  | false => simp; rfl
  | true =>
    simp only [if_true]
    exact ⟨fun q => absurd q (nI_ne0 h3 (by omega)), fun q => by cases q⟩
theorem hc_s_seOr {ad : Nat → Nat} {cy : Nat → ClassId} {x : HM} {i k : Nat} (hi : i < 8) (hk : k < 16) : (hc_mem ad cy x).set (57 + i) (ad (57 + i), .inr (2, (hc_txL ad x i).set 7 (.int (hs_mask (x.se i) ||| hs_bit k)))) = hc_mem ad cy (x.u_se i (va_up (x.se i) k true)) := by
  rw [hs_mask_or _ hk]; exact hc_s_se hi
theorem hs_sil_bi (x : HM) (u : Nat) : (x.sil u).bi = x.bi := by unfold HM.sil; split <;> rfl
theorem hs_stl_bi (x : HM) (k u : Nat) : (x.stl k u).bi = x.bi := by unfold HM.stl; split <;> rfl
theorem hs_lk_bi (x : HM) (k u : Nat) : (x.lk k u).bi = x.bi := by
  have h : (x.lk3 k u).bi = x.bi := hs_sil_bi _ _
  unfold HM.lk
  split
  · exact h
  · rw [hs_stl_bi]; exact h
theorem hs_look_bi (x : HM) (t k : Nat) : (x.look t k).bi = x.bi := by
  unfold HM.look
  cases x.hd k with
  | none => rfl
  | some u => dsimp only; split
              · rfl
              · exact hs_lk_bi _ _ _
end
section
theorem in_X3_readAtOwner_X0 : ∀ w ∈ u_ws RX0 TX0 8, w ∈ wsX3_readAtOwner := by decide +kernel
theorem in_X3_readAtOwner_X2 : ∀ w ∈ u_ws RX2 TX2 9, w ∈ wsX3_readAtOwner := by decide +kernel
theorem in_X3_readAtOwner_X3 : ∀ w ∈ u_ws RX3 TX3 6, w ∈ wsX3_readAtOwner := by decide +kernel
set_option maxHeartbeats 4000000 in
set_option maxRecDepth 100000 in
/-- readAtOwner -/
theorem c_readAtOwner (l : Launch) (D : va_G) (cy : Nat → ClassId) (ad : Nat → Nat) (ho : hc_ok ad) (x : HM) (B : Int) (hIn : x.In B) (hB : B + 100 < 4611686018427387904) {t : Nat} (ht : t < 8) {k : Nat} (hk : k < 16) : Ct l yX3_readAtOwner wsX3_readAtOwner ({ frames := 3, cells := 0, slots := 0, locals := 70 }) D cy (hc_A ad) [.ref (ad 0), .ref (ad (57 + t)), .ref (ad (9 + k))] (hc_mem ad cy (x)) (some (.long (x.rdA t k))) (hc_mem ad cy (x.rdM t k)) := by
  refine ct_of (cc := cX3_readAtOwner) (maxL := 6) (ret := (some .long)) rfl (by decide) (Nat.le_of_ble_eq_true rfl) ?_
  intro p e s m below meth c ls G hx hb hml hr hlocks hP hS hl
  have hl : lv_has ls 6 [(0, .ref (ad 0)), (1, .ref (ad (57 + t))), (2, .ref (ad (9 + k)))] := hl
  have hI1 := hIn.look (t := t) (by omega) hk
  have hI2 := hIn.lpR (by omega) ht hk
  by_cases he : x.hd k = some t
  · refine lv_aload_n hx hb dX3_readAtOwner_0 rfl (lv_at hl 2 rfl) ?_
    refine hc_g_keyn G (in_X3_readAtOwner_X0) hP (hk) 6 (by decide) (by decide +kernel) (va_rf ((HM.hd (x) (k)).map (fun t => ad (57 + t)))) rfl rfl dX3_readAtOwner_1 ?_
    refine lv_aload_n hx hb dX3_readAtOwner_4 rfl (lv_at hl 1 rfl) ?_
    refine lv_acmp_ne (rx := (HM.hd (x) (k)).map (fun t => ad (57 + t))) (ry := some (ad (57 + t))) (tgt := 14) hx hb dX3_readAtOwner_5 (by decide) (fun c_1 => ?_) (fun c_1 => ?_)
    · exact absurd he (fun q => c_1 ((hc_txI ho ht (hIn.hd hk)).mpr q))
    · refine lv_aload_n hx hb dX3_readAtOwner_8 rfl (lv_at hl 2 rfl) ?_
      refine hc_g_keyn G (in_X3_readAtOwner_X0) hP (hk) 7 (by decide) (by decide +kernel) (.int (HM.pl (x) (k))) rfl rfl dX3_readAtOwner_9 ?_
      refine lv_i2l (v := (Int32.toInt64 (HM.pl (x) (k)))) hx hb dX3_readAtOwner_12 rfl ?_
      exact ct_lret hx hb hr hlocks (by rw [HM.rdA, if_pos he]) (by rw [HM.rdM, if_pos he]; exact hP) hS dX3_readAtOwner_13
  · have eM : x.rdM t k = (x.lpR t k).rdX t k := if_neg he
    have eA : x.rdA t k = (x.lpR t k).rdY t k := if_neg he
    rw [eM, eA]
    generalize hz : x.lpR t k = z at hI2 ⊢
    have J32 : ∀ (H : Heap) (locs : List Loc), va_P D vwCl (hc_mem ad cy (z)) H → va_S (hc_A ad) s.heap H locs → ∀ ls : Array Slot, lv_has ls 6 [(0, .ref (ad 0)), (1, .ref (ad (57 + t))), (2, .ref (ad (9 + k)))] → W p l e ({ frames := 3, cells := 0, slots := 0, locals := 70 }) s m [.ref (ad 0), .ref (ad (57 + t)), .ref (ad (9 + k))].toArray below meth c H locs 0 0 (MQ below (hs_Post D (some (.long (z.rdY t k))) (hc_mem ad cy (z.rdX t k)) (hc_A ad)) [.ref (ad 0), .ref (ad (57 + t)), .ref (ad (9 + k))].toArray s 0 0 (hc_A ad)) (F0 m 32 ls []) := by
      intro H locs hP hS ls hl
      refine lv_aload_n hx hb dX3_readAtOwner_32 rfl (lv_at hl 2 rfl) ?_
      refine lv_aload_n hx hb dX3_readAtOwner_33 rfl (lv_at hl 1 rfl) ?_
      refine hc_g_txn G (in_X3_readAtOwner_X2) hP (ht) 4 (by decide) (by decide +kernel) (.long (HM.rs (z) (t))) rfl rfl dX3_readAtOwner_34 ?_
      refine lv_aload_n hx hb dX3_readAtOwner_37 rfl (lv_at hl 1 rfl) ?_
      refine hc_g_txn G (in_X3_readAtOwner_X2) hP (ht) 6 (by decide) (by decide +kernel) (.long (HM.lm (z) (t))) rfl rfl dX3_readAtOwner_38 ?_
      refine hs_callN (n := 2) (As := [.long (HM.rs (z) (t)), .long (HM.lm (z) (t))]) (rest := []) G hml (c_greatest l D cy ad ho (z) (hk) (hI2.le16 (hk)) (HM.rs (z) (t)) (HM.lm (z) (t))) gX3_readAtOwner_X0_greatestStampIn_n156 rfl rfl rfl (by decide +kernel) (by decide +kernel) (by decide +kernel) (C := RX0) (by decide +kernel) (by decide +kernel) ⟨Nat.le_of_ble_eq_true rfl, Nat.le_of_ble_eq_true rfl⟩ (ci := 0) rfl rfl (hc_at_key (hk)) rfl hl.1 (Nat.le_of_ble_eq_true rfl) ⟨Nat.zero_le _, Nat.zero_le _⟩ hP hS (fun _ h => h) rfl dX3_readAtOwner_41 (fun H locs hP hS _ _ => ?_)
      refine lv_lstore (lv' := [(4, .long (hs_gs (hs_best (HM.rs (z) (t)) (HM.lm (z) (t)) (HM.vk (z) (k))))), (0, .ref (ad 0)), (1, .ref (ad (57 + t))), (2, .ref (ad (9 + k)))]) hx hb dX3_readAtOwner_44 hl (by decide) rfl (fun ls hl => ?_)
      refine lv_lload hx hb dX3_readAtOwner_46 (lv_at hl 0 rfl) ?_
      refine lv_ldc2 (v := (-1)) hx hb G.2.2.2.1 (G.2.2.1 (.constantLong RX3 53 (-1)) (by decide +kernel)) dX3_readAtOwner_48 ?_
      refine hs_leq (x := hs_gs (hs_best (HM.rs (z) (t)) (HM.lm (z) (t)) (HM.vk (z) (k)))) (y := (-1)) (tgt := 66) hx hb dX3_readAtOwner_51 dX3_readAtOwner_52 (by decide) (fun c_1 => ?_) (fun c_1 => ?_)
      · have hbn : hs_best (z.rs t) (z.lm t) (z.vk k) = none := (hI2.gs_m1 _ _ _).mp c_1
        refine lv_aload_n hx hb dX3_readAtOwner_66 rfl (lv_at hl 3 rfl) ?_
        refine lv_aload_n hx hb dX3_readAtOwner_67 rfl (lv_at hl 2 rfl) ?_
        refine hc_g_txn G (in_X3_readAtOwner_X2) hP (ht) 4 (by decide) (by decide +kernel) (.long (HM.rs (z) (t))) rfl rfl dX3_readAtOwner_68 ?_
        refine hs_callN (n := 1) (As := [.long (HM.rs (z) (t))]) (rest := []) G hml (c_raise l D cy ad ho (z) (hk) (HM.rs (z) (t))) gX3_readAtOwner_X0_raiseReadMark_n162 rfl rfl rfl (by decide +kernel) (by decide +kernel) (by decide +kernel) (C := RX0) (by decide +kernel) (by decide +kernel) ⟨Nat.le_of_ble_eq_true rfl, Nat.le_of_ble_eq_true rfl⟩ (ci := 0) rfl rfl (hc_at_key (hk)) rfl hl.1 (Nat.le_of_ble_eq_true rfl) ⟨Nat.zero_le _, Nat.zero_le _⟩ hP hS (fun _ h => h) rfl dX3_readAtOwner_71 (fun H locs hP hS _ _ => ?_)
        refine lv_aload_n hx hb dX3_readAtOwner_74 rfl (lv_at hl 2 rfl) ?_
        refine lv_dup hx hb dX3_readAtOwner_75 rfl ?_
        refine hc_g_txn G (in_X3_readAtOwner_X2) hP (ht) 7 (by decide) (by decide +kernel) (.int (hs_mask (HM.se (HM.mk (z) (k) (HM.rs (z) (t))) (t)))) rfl rfl dX3_readAtOwner_76 ?_
        refine lv_aload_n hx hb dX3_readAtOwner_79 rfl (lv_at hl 3 rfl) ?_
        refine hc_g_keyn G (in_X3_readAtOwner_X0) hP (hk) 0 (by decide) (by decide +kernel) (.int (hs_bit (k))) rfl rfl dX3_readAtOwner_80 ?_
        refine lv_ior hx hb dX3_readAtOwner_83 ?_
        refine hc_p_txn ho G (in_X3_readAtOwner_X2) hP hS (ht) 7 (by decide) (by decide +kernel) (.int ((hs_mask (HM.se (HM.mk (z) (k) (HM.rs (z) (t))) (t)) ||| hs_bit (k)))) rfl rfl (.int) (by decide +kernel) rfl rfl (Nat.le_of_ble_eq_true rfl) (HM.u_se (HM.mk (z) (k) (HM.rs (z) (t))) (t) (va_up (HM.se (HM.mk z k (HM.rs z t)) t) k true)) (hc_s_seOr ht hk) dX3_readAtOwner_84 (fun H locs hP hS => ?_)
        refine lv_aload_n hx hb dX3_readAtOwner_87 rfl (lv_at hl 3 rfl) ?_
        refine lv_aload_n hx hb dX3_readAtOwner_88 rfl (lv_at hl 2 rfl) ?_
        refine hc_g_txn G (in_X3_readAtOwner_X2) hP (ht) 4 (by decide) (by decide +kernel) (.long (HM.rs (HM.u_se (HM.mk (z) (k) (HM.rs (z) (t))) (t) (va_up (HM.se (HM.mk z k (HM.rs z t)) t) k true)) (t))) rfl rfl dX3_readAtOwner_89 ?_
        refine hs_callN (n := 1) (As := [.long (HM.rs (HM.u_se (HM.mk (z) (k) (HM.rs (z) (t))) (t) (va_up (HM.se (HM.mk z k (HM.rs z t)) t) k true)) (t))]) (rest := []) G hml (c_valueAt l D cy ad ho (HM.u_se (HM.mk (z) (k) (HM.rs (z) (t))) (t) (va_up (HM.se (HM.mk z k (HM.rs z t)) t) k true)) (hk) (hI2.le16 (hk)) (HM.rs (HM.u_se (HM.mk (z) (k) (HM.rs (z) (t))) (t) (va_up (HM.se (HM.mk z k (HM.rs z t)) t) k true)) (t))) gX3_readAtOwner_X0_valueAt_n171 rfl rfl rfl (by decide +kernel) (by decide +kernel) (by decide +kernel) (C := RX0) (by decide +kernel) (by decide +kernel) ⟨Nat.le_of_ble_eq_true rfl, Nat.le_of_ble_eq_true rfl⟩ (ci := 0) rfl rfl (hc_at_key (hk)) rfl hl.1 (Nat.le_of_ble_eq_true rfl) ⟨Nat.zero_le _, Nat.zero_le _⟩ hP hS (fun _ h => h) rfl dX3_readAtOwner_92 (fun H locs hP hS _ _ => ?_)
        refine lv_i2l (v := (Int32.toInt64 (hs_gv (hs_best (-1) (HM.rs (HM.u_se (HM.mk (z) (k) (HM.rs (z) (t))) (t) (va_up (HM.se (HM.mk z k (HM.rs z t)) t) k true)) (t)) (HM.vk (HM.u_se (HM.mk (z) (k) (HM.rs (z) (t))) (t) (va_up (HM.se (HM.mk z k (HM.rs z t)) t) k true)) (k)))))) hx hb dX3_readAtOwner_95 rfl ?_
        exact ct_lret hx hb hr hlocks (by rw [HM.rdY, hbn]; rfl) (by rw [HM.rdX, hbn]; exact hP) hS dX3_readAtOwner_96
      · obtain ⟨v, hbv⟩ : ∃ v, hs_best (z.rs t) (z.lm t) (z.vk k) = some v := Option.ne_none_iff_exists'.mp (fun q => c_1 ((hI2.gs_m1 _ _ _).mpr q))
        refine lv_aload_n hx hb dX3_readAtOwner_55 rfl (lv_at hl 1 rfl) ?_
        refine lv_aload_n hx hb dX3_readAtOwner_56 rfl (lv_at hl 2 rfl) ?_
        refine lv_lload hx hb dX3_readAtOwner_57 (lv_at hl 0 rfl) ?_
        refine hs_callV (n := 2) (As := [.ref (ad (57 + t)), .long (hs_gs (hs_best (HM.rs (z) (t)) (HM.lm (z) (t)) (HM.vk (z) (k))))]) (rest := []) G hml (c_restart l D cy ad ho (z) (fun _ h => hI2.hd h) (ht) (hs_gs (hs_best (HM.rs (z) (t)) (HM.lm (z) (t)) (HM.vk (z) (k))))) gX3_readAtOwner_X3_restart rfl rfl rfl (by decide +kernel) ⟨Nat.le_of_ble_eq_true rfl, Nat.le_of_ble_eq_true rfl⟩ (ci := 3) rfl rfl (hc_at_top (j := 0) (by decide)) rfl hl.1 (Nat.le_of_ble_eq_true rfl) ⟨Nat.zero_le _, Nat.zero_le _⟩ hP hS (fun _ h => h) rfl dX3_readAtOwner_59 (fun H locs hP hS _ _ => ?_)
        refine lv_ldc2 (v := 4294967297) hx hb G.2.2.2.1 (G.2.2.1 (.constantLong RX3 160 4294967297) (by decide +kernel)) dX3_readAtOwner_62 ?_
        exact ct_lret hx hb hr hlocks (by rw [HM.rdY, hbv]) (by rw [HM.rdX, hbv]; rw [hbv] at hP; exact hP) hS dX3_readAtOwner_65
    refine lv_aload_n hx hb dX3_readAtOwner_0 rfl (lv_at hl 2 rfl) ?_
    refine hc_g_keyn G (in_X3_readAtOwner_X0) hP (hk) 6 (by decide) (by decide +kernel) (va_rf ((HM.hd (x) (k)).map (fun t => ad (57 + t)))) rfl rfl dX3_readAtOwner_1 ?_
    refine lv_aload_n hx hb dX3_readAtOwner_4 rfl (lv_at hl 1 rfl) ?_
    refine lv_acmp_ne (rx := (HM.hd (x) (k)).map (fun t => ad (57 + t))) (ry := some (ad (57 + t))) (tgt := 14) hx hb dX3_readAtOwner_5 (by decide) (fun c_1 => ?_) (fun c_1 => ?_)
    · refine lv_aload_n hx hb dX3_readAtOwner_14 rfl (lv_at hl 2 rfl) ?_
      refine lv_aload_n hx hb dX3_readAtOwner_15 rfl (lv_at hl 1 rfl) ?_
      refine hs_callS (n := 2) (As := [.ref (ad (9 + k)), .ref (ad (57 + t))]) (rest := []) G hml (c_lookUp l D cy ad ho (x) (hk) (hIn.hd (hk)) (fun _ h => hIn.gt h) (hIn.lt16 (hk)) (ht)) gX3_readAtOwner_X3_lookUp rfl rfl rfl (by decide +kernel) ⟨Nat.le_of_ble_eq_true rfl, Nat.le_of_ble_eq_true rfl⟩ rfl hl.1 (Nat.le_of_ble_eq_true rfl) ⟨Nat.zero_le _, Nat.zero_le _⟩ hP hS (fun _ h => h) rfl dX3_readAtOwner_16 (fun H locs hP hS _ _ => ?_)
      cases hlu : HM.lkU (x) (t) (k) with
      | none =>
        show W _ _ _ _ _ _ _ _ _ _ _ _ _ _ _ (F0 m 19 ls (.null :: []))
        refine lv_astore_nN (lv' := [(3, .null), (0, .ref (ad 0)), (1, .ref (ad (57 + t))), (2, .ref (ad (9 + k)))]) hx hb dX3_readAtOwner_19 rfl hl (by decide) rfl (fun ls hl => ?_)
        refine lv_aload_nN hx hb dX3_readAtOwner_20 rfl (lv_at hl 0 rfl) ?_
        refine lv_ifnullN (tgt := 32) hx hb dX3_readAtOwner_21 (by decide) ?_
        exact J32 H locs (by rw [← hz, HM.lpR, hlu]; exact hP) hS ls (lv_sub hl [1, 2, 3] rfl)
      | some u =>
        have hu8 : u < 8 := hIn.lkU hk hlu
        show W _ _ _ _ _ _ _ _ _ _ _ _ _ _ _ (F0 m 19 ls (.ref (ad (57 + u)) :: []))
        refine lv_astore_n (lv' := [(3, .ref (ad (57 + u))), (0, .ref (ad 0)), (1, .ref (ad (57 + t))), (2, .ref (ad (9 + k)))]) hx hb dX3_readAtOwner_19 rfl hl (by decide) rfl (fun ls hl => ?_)
        refine lv_aload_n hx hb dX3_readAtOwner_20 rfl (lv_at hl 0 rfl) ?_
        refine lv_ifnull hx hb dX3_readAtOwner_21 ?_
        refine lv_aload_n hx hb dX3_readAtOwner_24 rfl (lv_at hl 0 rfl) ?_
        refine lv_aload_n hx hb dX3_readAtOwner_25 rfl (lv_at hl 2 rfl) ?_
        refine hc_g_txn G (in_X3_readAtOwner_X2) hP (ht) 4 (by decide) (by decide +kernel) (.long (HM.rs (HM.look (x) (t) (k)) (t))) rfl rfl dX3_readAtOwner_26 ?_
        refine hs_callN (n := 1) (As := [.long (HM.rs (HM.look (x) (t) (k)) (t))]) (rest := []) G hml (c_push l D cy ad ho (HM.look (x) (t) (k)) (hu8) (HM.rs (HM.look (x) (t) (k)) (t)) (hs_lt_max (B := B + 2) (by omega) (hI1.rs ht).2)) gX3_readAtOwner_X2_pushWriteStampAbove_n150 rfl rfl rfl (by decide +kernel) (by decide +kernel) (by decide +kernel) (C := RX2) (by decide +kernel) (by decide +kernel) ⟨Nat.le_of_ble_eq_true rfl, Nat.le_of_ble_eq_true rfl⟩ (ci := 2) rfl rfl (hc_at_tx (hu8)) rfl hl.1 (Nat.le_of_ble_eq_true rfl) ⟨Nat.zero_le _, Nat.zero_le _⟩ hP hS (fun _ h => h) rfl dX3_readAtOwner_29 (fun H locs hP hS _ _ => ?_)
        exact J32 H locs (by rw [← hz, HM.lpR, hlu]; exact hP) hS ls (lv_sub hl [1, 2, 3] rfl)
    · exact absurd ((hc_txI ho ht (hIn.hd hk)).mp c_1) he
theorem in_X3_writeAtOwner_X0 : ∀ w ∈ u_ws RX0 TX0 8, w ∈ wsX3_writeAtOwner := by decide +kernel
theorem in_X3_writeAtOwner_X2 : ∀ w ∈ u_ws RX2 TX2 9, w ∈ wsX3_writeAtOwner := by decide +kernel
theorem in_X3_writeAtOwner_X3 : ∀ w ∈ u_ws RX3 TX3 6, w ∈ wsX3_writeAtOwner := by decide +kernel
set_option maxHeartbeats 4000000 in
set_option maxRecDepth 100000 in
/-- writeAtOwner -/
theorem c_writeAtOwner (l : Launch) (D : va_G) (cy : Nat → ClassId) (ad : Nat → Nat) (ho : hc_ok ad) (x : HM) (B : Int) (hIn : x.In B) (hB : B + 100 < 4611686018427387904) (hbi : ∀ t, t < 8 → x.bi t < 2 ^ 31) {t : Nat} (ht : t < 8) {k : Nat} (hk : k < 16) (v0 : Int32) : Ct l yX3_writeAtOwner wsX3_writeAtOwner ({ frames := 3, cells := 0, slots := 0, locals := 70 }) D cy (hc_A ad) [.ref (ad 0), .ref (ad (57 + t)), .ref (ad (9 + k)), .int (v0)] (hc_mem ad cy (x)) (some (.int (x.wrA t k))) (hc_mem ad cy (x.wrM t k v0)) := by
  refine ct_of (cc := cX3_writeAtOwner) (maxL := 5) (ret := (some .int)) rfl (by decide) (Nat.le_of_ble_eq_true rfl) ?_
  intro p e s m below meth c ls G hx hb hml hr hlocks hP hS hl
  have hl : lv_has ls 5 [(0, .ref (ad 0)), (1, .ref (ad (57 + t))), (2, .ref (ad (9 + k))), (3, .int (v0))] := hl
  have hI1 := hIn.look (t := t) (by omega) hk
  have hI2 := hIn.wr1 (t := t) (by omega) hk
  by_cases he : x.hd k = some t
  · refine lv_aload_n hx hb dX3_writeAtOwner_0 rfl (lv_at hl 2 rfl) ?_
    refine hc_g_keyn G (in_X3_writeAtOwner_X0) hP (hk) 6 (by decide) (by decide +kernel) (va_rf ((HM.hd (x) (k)).map (fun t => ad (57 + t)))) rfl rfl dX3_writeAtOwner_1 ?_
    refine lv_aload_n hx hb dX3_writeAtOwner_4 rfl (lv_at hl 1 rfl) ?_
    refine lv_acmp_ne (rx := (HM.hd (x) (k)).map (fun t => ad (57 + t))) (ry := some (ad (57 + t))) (tgt := 15) hx hb dX3_writeAtOwner_5 (by decide) (fun c_1 => ?_) (fun c_1 => ?_)
    · exact absurd he (fun q => c_1 ((hc_txI ho ht (hIn.hd hk)).mpr q))
    · refine lv_aload_n hx hb dX3_writeAtOwner_8 rfl (lv_at hl 2 rfl) ?_
      refine lv_iload_n hx hb dX3_writeAtOwner_9 rfl (lv_at hl 3 rfl) ?_
      refine hc_p_keyn ho G (in_X3_writeAtOwner_X0) hP hS (hk) 7 (by decide) (by decide +kernel) (.int (v0)) rfl rfl (.int) (by decide +kernel) rfl rfl (Nat.le_of_ble_eq_true rfl) (HM.u_pl (x) (k) (v0)) (hc_s_pl (v := v0) (hk)) dX3_writeAtOwner_10 (fun H locs hP hS => ?_)
      refine lv_iconst (v := 0) hx hb dX3_writeAtOwner_13 (by decide) ?_
      exact ct_iret hx hb hr hlocks (by rw [HM.wrA, if_pos he]) (by rw [HM.wrM, if_pos he]; exact hP) hS dX3_writeAtOwner_14
  · have eM : x.wrM t k v0 = if x.wrB t k then x.look t k else if 16 ≤ ((x.wr1 t k).vk k).length then x.wr1 t k else (x.wr1 t k).wr3 t k v0 := if_neg he
    have eA : x.wrA t k = if x.wrB t k then -5 else if 16 ≤ ((x.wr1 t k).vk k).length then -7 else 0 := if_neg he
    rw [eM, eA]
    have J55 : ∀ (z : HM) (hI2 : z.In (B + 2)) (H : Heap) (locs : List Loc), va_P D vwCl (hc_mem ad cy (z)) H → va_S (hc_A ad) s.heap H locs → ∀ ls : Array Slot, lv_has ls 5 [(0, .ref (ad 0)), (1, .ref (ad (57 + t))), (2, .ref (ad (9 + k))), (3, .int (v0))] → W p l e ({ frames := 3, cells := 0, slots := 0, locals := 70 }) s m [.ref (ad 0), .ref (ad (57 + t)), .ref (ad (9 + k)), .int v0].toArray below meth c H locs 0 0 (MQ below (hs_Post D (some (.int (if 16 ≤ (z.vk k).length then -7 else 0))) (hc_mem ad cy (if 16 ≤ (z.vk k).length then z else z.wr3 t k v0)) (hc_A ad)) [.ref (ad 0), .ref (ad (57 + t)), .ref (ad (9 + k)), .int v0].toArray s 0 0 (hc_A ad)) (F0 m 55 ls []) := by
      intro z hI2 H locs hP hS ls hl
      have hI3 := hI2.pu (by omega) ht (s := z.lr k) ⟨by have := (hI2.lr hk).1; omega, (hI2.lr hk).2⟩
      refine lv_aload_n hx hb dX3_writeAtOwner_55 rfl (lv_at hl 2 rfl) ?_
      refine hc_g_keyn G (in_X3_writeAtOwner_X0) hP (hk) 4 (by decide) (by decide +kernel) (.int (nI (HM.vk (z) (k)).length)) rfl rfl dX3_writeAtOwner_56 ?_
      refine lv_bipush (v := 16) hx hb dX3_writeAtOwner_59 (by decide) ?_
      refine lv_icmp_lt (tgt := 67) hx hb dX3_writeAtOwner_61 (by decide) (fun c_1 => ?_) (fun c_1 => ?_)
      · have hlt : ¬ 16 ≤ (z.vk k).length := Nat.not_le.mpr ((nI_ltI (b := 16) (by have := hI2.le16 hk; omega) (by decide)).mp c_1)
        refine lv_aload_n hx hb dX3_writeAtOwner_67 rfl (lv_at hl 1 rfl) ?_
        refine lv_aload_n hx hb dX3_writeAtOwner_68 rfl (lv_at hl 2 rfl) ?_
        refine hc_g_keyn G (in_X3_writeAtOwner_X0) hP (hk) 5 (by decide) (by decide +kernel) (.long (HM.lr (z) (k))) rfl rfl dX3_writeAtOwner_69 ?_
        refine hs_callN (n := 1) (As := [.long (HM.lr (z) (k))]) (rest := []) G hml (c_push l D cy ad ho (z) (ht) (HM.lr (z) (k)) (hs_lt_max (B := B + 2) (by omega) (hI2.lr hk).2)) gX3_writeAtOwner_X2_pushWriteStampAbove_n150 rfl rfl rfl (by decide +kernel) (by decide +kernel) (by decide +kernel) (C := RX2) (by decide +kernel) (by decide +kernel) ⟨Nat.le_of_ble_eq_true rfl, Nat.le_of_ble_eq_true rfl⟩ (ci := 2) rfl rfl (hc_at_tx (ht)) rfl hl.1 (Nat.le_of_ble_eq_true rfl) ⟨Nat.zero_le _, Nat.zero_le _⟩ hP hS (fun _ h => h) rfl dX3_writeAtOwner_72 (fun H locs hP hS _ _ => ?_)
        refine lv_aload_n hx hb dX3_writeAtOwner_75 rfl (lv_at hl 1 rfl) ?_
        refine lv_aload_n hx hb dX3_writeAtOwner_76 rfl (lv_at hl 2 rfl) ?_
        refine lv_ldc2 (v := (-1)) hx hb G.2.2.2.1 (G.2.2.1 (.constantLong RX3 53 (-1)) (by decide +kernel)) dX3_writeAtOwner_77 ?_
        refine lv_ldc2 (v := 9223372036854775807) hx hb G.2.2.2.1 (G.2.2.1 (.constantLong RX3 187 9223372036854775807) (by decide +kernel)) dX3_writeAtOwner_80 ?_
        refine hs_callN (n := 2) (As := [.long ((-1)), .long (9223372036854775807)]) (rest := [.ref (ad (57 + t))]) G hml (c_greatest l D cy ad ho (HM.pu (z) (t) (HM.lr (z) (k))) (hk) (hI3.le16 (hk)) ((-1)) (9223372036854775807)) gX3_writeAtOwner_X0_greatestStampIn_n156 rfl rfl rfl (by decide +kernel) (by decide +kernel) (by decide +kernel) (C := RX0) (by decide +kernel) (by decide +kernel) ⟨Nat.le_of_ble_eq_true rfl, Nat.le_of_ble_eq_true rfl⟩ (ci := 0) rfl rfl (hc_at_key (hk)) rfl hl.1 (Nat.le_of_ble_eq_true rfl) ⟨Nat.zero_le _, Nat.zero_le _⟩ hP hS (fun _ h => h) rfl dX3_writeAtOwner_83 (fun H locs hP hS _ _ => ?_)
        refine hs_callN (n := 1) (As := [.long (hs_gs (hs_best ((-1)) (9223372036854775807) (HM.vk (HM.pu (z) (t) (HM.lr (z) (k))) (k))))]) (rest := []) G hml (c_push l D cy ad ho (HM.pu (z) (t) (HM.lr (z) (k))) (ht) (hs_gs (hs_best ((-1)) (9223372036854775807) (HM.vk (HM.pu (z) (t) (HM.lr (z) (k))) (k)))) (hs_lt_max (B := B + 3) (by omega) (by have := (hI3.gs (-1) 9223372036854775807 k).2; omega))) gX3_writeAtOwner_X2_pushWriteStampAbove_n150 rfl rfl rfl (by decide +kernel) (by decide +kernel) (by decide +kernel) (C := RX2) (by decide +kernel) (by decide +kernel) ⟨Nat.le_of_ble_eq_true rfl, Nat.le_of_ble_eq_true rfl⟩ (ci := 2) rfl rfl (hc_at_tx (ht)) rfl hl.1 (Nat.le_of_ble_eq_true rfl) ⟨Nat.zero_le _, Nat.zero_le _⟩ hP hS (fun _ h => h) rfl dX3_writeAtOwner_86 (fun H locs hP hS _ _ => ?_)
        refine lv_aload_n hx hb dX3_writeAtOwner_89 rfl (lv_at hl 2 rfl) ?_
        refine lv_aload_n hx hb dX3_writeAtOwner_90 rfl (lv_at hl 1 rfl) ?_
        refine hc_p_keyn ho G (in_X3_writeAtOwner_X0) hP hS (hk) 6 (by decide) (by decide +kernel) (.ref (ad (57 + t))) rfl rfl (.object "HlcStore$Transaction") (by decide +kernel) rfl rfl (Nat.le_of_ble_eq_true rfl) (HM.u_hd (HM.pu (HM.pu (z) (t) (HM.lr (z) (k))) (t) (hs_gs (hs_best ((-1)) (9223372036854775807) (HM.vk (HM.pu (z) (t) (HM.lr (z) (k))) (k))))) (k) (some (t))) (hc_s_hd (v := some (t)) (hk)) dX3_writeAtOwner_91 (fun H locs hP hS => ?_)
        refine lv_aload_n hx hb dX3_writeAtOwner_94 rfl (lv_at hl 2 rfl) ?_
        refine lv_iload_n hx hb dX3_writeAtOwner_95 rfl (lv_at hl 3 rfl) ?_
        refine hc_p_keyn ho G (in_X3_writeAtOwner_X0) hP hS (hk) 7 (by decide) (by decide +kernel) (.int (v0)) rfl rfl (.int) (by decide +kernel) rfl rfl (Nat.le_of_ble_eq_true rfl) (HM.u_pl (HM.u_hd (HM.pu (HM.pu (z) (t) (HM.lr (z) (k))) (t) (hs_gs (hs_best ((-1)) (9223372036854775807) (HM.vk (HM.pu (z) (t) (HM.lr (z) (k))) (k))))) (k) (some (t))) (k) (v0)) (hc_s_pl (v := v0) (hk)) dX3_writeAtOwner_96 (fun H locs hP hS => ?_)
        refine lv_iconst (v := 0) hx hb dX3_writeAtOwner_99 (by decide) ?_
        exact ct_iret hx hb hr hlocks (by rw [if_neg hlt]) (by rw [if_neg hlt]; exact hP) hS dX3_writeAtOwner_100
      · have hge : 16 ≤ (z.vk k).length := Nat.not_lt.mp (fun q => c_1 (nI_lt (b := 16) q (by decide)))
        refine lv_bipush (v := (-7)) hx hb dX3_writeAtOwner_64 (by decide) ?_
        exact ct_iret hx hb hr hlocks (by rw [if_pos hge]) (by rw [if_pos hge]; exact hP) hS dX3_writeAtOwner_66
    refine lv_aload_n hx hb dX3_writeAtOwner_0 rfl (lv_at hl 2 rfl) ?_
    refine hc_g_keyn G (in_X3_writeAtOwner_X0) hP (hk) 6 (by decide) (by decide +kernel) (va_rf ((HM.hd (x) (k)).map (fun t => ad (57 + t)))) rfl rfl dX3_writeAtOwner_1 ?_
    refine lv_aload_n hx hb dX3_writeAtOwner_4 rfl (lv_at hl 1 rfl) ?_
    refine lv_acmp_ne (rx := (HM.hd (x) (k)).map (fun t => ad (57 + t))) (ry := some (ad (57 + t))) (tgt := 15) hx hb dX3_writeAtOwner_5 (by decide) (fun c_1 => ?_) (fun c_1 => ?_)
    · refine lv_aload_n hx hb dX3_writeAtOwner_15 rfl (lv_at hl 2 rfl) ?_
      refine lv_aload_n hx hb dX3_writeAtOwner_16 rfl (lv_at hl 1 rfl) ?_
      refine hs_callS (n := 2) (As := [.ref (ad (9 + k)), .ref (ad (57 + t))]) (rest := []) G hml (c_lookUp l D cy ad ho (x) (hk) (hIn.hd (hk)) (fun _ h => hIn.gt h) (hIn.lt16 (hk)) (ht)) gX3_writeAtOwner_X3_lookUp rfl rfl rfl (by decide +kernel) ⟨Nat.le_of_ble_eq_true rfl, Nat.le_of_ble_eq_true rfl⟩ rfl hl.1 (Nat.le_of_ble_eq_true rfl) ⟨Nat.zero_le _, Nat.zero_le _⟩ hP hS (fun _ h => h) rfl dX3_writeAtOwner_17 (fun H locs hP hS _ _ => ?_)
      cases hlu : HM.lkU (x) (t) (k) with
      | none =>
        show W _ _ _ _ _ _ _ _ _ _ _ _ _ _ _ (F0 m 20 ls (.null :: []))
        refine lv_astoreN (lv' := [(4, .null), (0, .ref (ad 0)), (1, .ref (ad (57 + t))), (2, .ref (ad (9 + k))), (3, .int (v0))]) hx hb dX3_writeAtOwner_20 hl (by decide) rfl (fun ls hl => ?_)
        refine lv_aloadN hx hb dX3_writeAtOwner_22 (lv_at hl 0 rfl) ?_
        refine lv_ifnullN (tgt := 55) hx hb dX3_writeAtOwner_24 (by decide) ?_
        have e1 : x.wrB t k = false := by rw [HM.wrB, hlu]
        have e2 : x.wr1 t k = x.look t k := by rw [HM.wr1, hlu]
        rw [e1, e2]
        rw [e2] at hI2
        exact J55 _ hI2 H locs hP hS ls (lv_sub hl [1, 2, 3, 4] rfl)
      | some u =>
        have hu8 : u < 8 := hIn.lkU hk hlu
        show W _ _ _ _ _ _ _ _ _ _ _ _ _ _ _ (F0 m 20 ls (.ref (ad (57 + u)) :: []))
        refine lv_astore (lv' := [(4, .ref (ad (57 + u))), (0, .ref (ad 0)), (1, .ref (ad (57 + t))), (2, .ref (ad (9 + k))), (3, .int (v0))]) hx hb dX3_writeAtOwner_20 hl (by decide) rfl (fun ls hl => ?_)
        refine lv_aload hx hb dX3_writeAtOwner_22 (lv_at hl 0 rfl) ?_
        refine lv_ifnull hx hb dX3_writeAtOwner_24 ?_
        refine lv_aload hx hb dX3_writeAtOwner_27 (lv_at hl 0 rfl) ?_
        refine hc_g_txn G (in_X3_writeAtOwner_X2) hP (hu8) 3 (by decide) (by decide +kernel) (.int (nI (HM.bi (HM.look (x) (t) (k)) (u)))) rfl rfl dX3_writeAtOwner_29 ?_
        refine lv_aload_n hx hb dX3_writeAtOwner_32 rfl (lv_at hl 2 rfl) ?_
        refine hc_g_txn G (in_X3_writeAtOwner_X2) hP (ht) 3 (by decide) (by decide +kernel) (.int (nI (HM.bi (HM.look (x) (t) (k)) (t)))) rfl rfl dX3_writeAtOwner_33 ?_
        refine lv_icmp_ge (tgt := 42) hx hb dX3_writeAtOwner_36 (by decide) (fun c_2 => ?_) (fun c_2 => ?_)
        · have hb1 : (x.look t k).bi u < 2 ^ 31 := by rw [hs_look_bi]; exact hbi u hu8
          have hb2 : (x.look t k).bi t < 2 ^ 31 := by rw [hs_look_bi]; exact hbi t ht
          have e1 : x.wrB t k = false := by rw [HM.wrB, hlu]; exact decide_eq_false (Nat.not_lt.mpr ((nI_leI hb2 hb1).mp c_2))
          refine lv_aload_n hx hb dX3_writeAtOwner_42 rfl (lv_at hl 1 rfl) ?_
          refine lv_aload hx hb dX3_writeAtOwner_43 (lv_at hl 0 rfl) ?_
          refine lv_lconst (v := 0) hx hb dX3_writeAtOwner_45 (by decide) ?_
          refine hs_callV (n := 2) (As := [.ref (ad (57 + u)), .long (0)]) (rest := []) G hml (c_restart l D cy ad ho (HM.look (x) (t) (k)) (fun _ h => hI1.hd h) (hu8) (0)) gX3_writeAtOwner_X3_restart rfl rfl rfl (by decide +kernel) ⟨Nat.le_of_ble_eq_true rfl, Nat.le_of_ble_eq_true rfl⟩ (ci := 3) rfl rfl (hc_at_top (j := 0) (by decide)) rfl hl.1 (Nat.le_of_ble_eq_true rfl) ⟨Nat.zero_le _, Nat.zero_le _⟩ hP hS (fun _ h => h) rfl dX3_writeAtOwner_46 (fun H locs hP hS _ _ => ?_)
          refine lv_aload hx hb dX3_writeAtOwner_49 (lv_at hl 0 rfl) ?_
          refine lv_iconst (v := 1) hx hb dX3_writeAtOwner_51 (by decide) ?_
          refine hc_p_txn ho G (in_X3_writeAtOwner_X2) hP hS (hu8) 8 (by decide) (by decide +kernel) (.int (1)) rfl rfl (.boolean) (by decide +kernel) (by decide) (by decide) (Nat.le_of_ble_eq_true rfl) (HM.u_hu (HM.re (HM.look (x) (t) (k)) (u) (0)) (u) (1)) (hc_s_hu (v := 1) (hu8)) dX3_writeAtOwner_52 (fun H locs hP hS => ?_)
          have e2 : x.wr1 t k = ((x.look t k).re u 0).u_hu u 1 := by rw [HM.wr1, hlu]
          rw [e1, e2]
          rw [e2] at hI2
          exact J55 _ hI2 H locs hP hS ls (lv_sub hl [1, 2, 3, 4] rfl)
        · have hb1 : (x.look t k).bi u < 2 ^ 31 := by rw [hs_look_bi]; exact hbi u hu8
          have hb2 : (x.look t k).bi t < 2 ^ 31 := by rw [hs_look_bi]; exact hbi t ht
          have e1 : x.wrB t k = true := by rw [HM.wrB, hlu]; exact decide_eq_true (Nat.lt_of_not_le (fun q => c_2 ((nI_leI hb2 hb1).mpr q)))
          rw [e1]
          refine lv_bipush (v := (-5)) hx hb dX3_writeAtOwner_39 (by decide) ?_
          exact ct_iret hx hb hr hlocks rfl hP hS dX3_writeAtOwner_41
    · exact absurd ((hc_txI ho ht (hIn.hd hk)).mp c_1) he
end
section
/-! ===== the fourteen calls as functions of the state ===== -/
def hs_n (b : Nat) (z : Int32) : Option Nat := if z < 0 ∨ nI b ≤ z then none else some z.toNatClampNeg
theorem hs_n_in {b j : Nat} (h : j < b) (hb : b < 2 ^ 31) : hs_n b (nI j) = some j := by
  unfold hs_n
  rw [if_neg (fun q => q.elim (nI_pos (by omega)) (nI_ge h hb)), nI_clamp (by omega)]
theorem hs_n_out {b : Nat} {z : Int32} (h : z < 0 ∨ nI b ≤ z) : hs_n b z = none := if_pos h
def HM.tickM (x : HM) (z r : Int32) : HM := match hs_n 4 z with
  | none => x
  | some i => if r < x.rd i then x else if hs_ra x.rd i r 4 0 then x else (x.u_rd i r).ev i
def HM.tickA (x : HM) (z r : Int32) : Int32 := match hs_n 4 z with
  | none => -1
  | some i => if r < x.rd i then -2 else if hs_ra x.rd i r 4 0 then -2 else 0
def HM.readingA (x : HM) (z : Int32) : Int32 := match hs_n 4 z with
  | none => -1
  | some i => x.rd i
def HM.clockA (x : HM) (z : Int32) : Int64 := match hs_n 4 z with
  | none => -1
  | some i => x.ck i
def HM.bgn (x : HM) (i t : Nat) : HM := ((x.ev i).beg t i x.bs).s_bs (x.bs + 1)
def HM.beginM (x : HM) (z : Int32) : HM := match hs_n 4 z with
  | none => x
  | some i => match hs_fr x.ph 8 0 with
    | none => x
    | some t => x.bgn i t
def HM.beginA (x : HM) (z : Int32) : Int32 := match hs_n 4 z with
  | none => -1
  | some _ => match hs_fr x.ph 8 0 with
    | none => -3
    | some t => nI t
def HM.opn (y : HM) (t k : Nat) : HM := (y.ev (y.gt t)).tk (k % 4) ((y.ev (y.gt t)).ck ((y.ev (y.gt t)).gt t))
def HM.cls (y : HM) (t k : Nat) : HM := y.tk (y.gt t) (y.ck (k % 4))
def HM.readM (x : HM) (z w : Int32) : HM := match hs_n 8 z with
  | none => x
  | some t => match hs_n 16 w with
    | none => x
    | some k => if x.stc t = 0 then (((x.stp t).opn t k).rdM t k).cls t k else x.stp t
def HM.readA (x : HM) (z w : Int32) : Int64 := match hs_n 8 z with
  | none => 4294967295
  | some t => match hs_n 16 w with
    | none => 4294967295
    | some k => if x.stc t = 0 then ((x.stp t).opn t k).rdA t k else 4294967296 + Int32.toInt64 (x.stc t)
def HM.writeM (x : HM) (z w v : Int32) : HM := match hs_n 8 z with
  | none => x
  | some t => match hs_n 16 w with
    | none => x
    | some k => if x.stc t = 0 then (((x.stp t).opn t k).wrM t k v).cls t k else x.stp t
def HM.writeA (x : HM) (z w : Int32) : Int32 := match hs_n 8 z with
  | none => -1
  | some t => match hs_n 16 w with
    | none => -1
    | some k => if x.stc t = 0 then ((x.stp t).opn t k).wrA t k else x.stc t
def HM.fin1 (y : HM) (t : Nat) : HM := (y.u_rs t (y.ws t)).u_ph t 2
def HM.fin (y : HM) (t : Nat) : HM := (y.fin1 t).s_cm ((y.fin1 t).cm ++ [(y.fin1 t).ws t])
def HM.cmtM (y : HM) (t : Nat) : HM := if y.rs t < y.ws t then (if (hs_mrs t 16 0 y).2 then (hs_mrs t 16 0 y).1.fin t else (hs_mrs t 16 0 y).1.re t 0) else y.fin t
def HM.cmtA (y : HM) (t : Nat) : Int32 := if y.rs t < y.ws t then (if (hs_mrs t 16 0 y).2 then 0 else 1) else 0
def HM.commitM (x : HM) (z : Int32) : HM := match hs_n 8 z with
  | none => x
  | some t => if x.stc t = 0 then ((x.stp t).ev ((x.stp t).gt t)).cmtM t else x.stp t
def HM.commitA (x : HM) (z : Int32) : Int32 := match hs_n 8 z with
  | none => -1
  | some t => if x.stc t = 0 then ((x.stp t).ev ((x.stp t).gt t)).cmtA t else x.stc t
def HM.abortM (x : HM) (z : Int32) : HM := match hs_n 8 z with
  | none => x
  | some t => if x.code t = 0 then x.u_ph t 3 else x
def HM.codeA (x : HM) (z : Int32) : Int32 := match hs_n 8 z with
  | none => -1
  | some t => x.code t
def HM.beat (y : HM) (t : Nat) : HM := y.u_bt t (y.rd (y.gt t))
def HM.heartM (x : HM) (z : Int32) : HM := match hs_n 8 z with
  | none => x
  | some t => if x.code t = 0 then (x.ev (x.gt t)).beat t else x
def HM.clk (x : HM) (t k : Nat) : HM := if x.hd k = some t then (x.tk (k % 4) (x.ck (x.gt t))).stl k t else x
def hs_cl (t : Nat) : Nat → Nat → HM → HM
  | 0, _, x => x
  | n + 1, k, x => hs_cl t n (k + 1) (x.clk t k)
theorem hs_cl_succ (t n k : Nat) (x : HM) : hs_cl t (n + 1) k x = hs_cl t n (k + 1) (x.clk t k) := rfl
def HM.cleanM (x : HM) (z : Int32) : HM := match hs_n 8 z with
  | none => x
  | some t => if x.ph t = 0 then x else if x.ph t = 1 then x else (hs_cl t 16 0 x).u_ph t 0
def HM.cleanA (x : HM) (z : Int32) : Int32 := match hs_n 8 z with
  | none => -1
  | some t => if x.ph t = 0 then -4 else if x.ph t = 1 then -9 else 0
def HM.stateA (x : HM) (z : Int32) : Int32 := match hs_n 8 z with
  | none => -1
  | some t => x.ph t
def HM.stampA (x : HM) (z : Int32) : Int64 := match hs_n 8 z with
  | none => -1
  | some t => if x.ph t = 0 then -1 else if x.ph t = 3 then -1 else x.rs t
def HM.versionsA (x : HM) (z : Int32) : Int32 := match hs_n 16 z with
  | none => -1
  | some k => nI (x.vk k).length
def HM.committedA (x : HM) (z : Int32) : Int64 := if z < 0 then -1 else if nI x.cm.length ≤ z then -1 else x.cm.getD z.toNatClampNeg 0
theorem HM.In.stp {x : HM} {B : Int} (h : x.In B) (t : Nat) : (x.stp t).In B := by
  unfold HM.stp
  split
  · exact h.u_hu t 0
  · exact h
theorem HM.In.opn {x : HM} {B : Int} (h : x.In B) (hB2 : B + 1 < 4611686018427387904) {t k : Nat} (ht : t < 8) : (x.opn t k).In (B + 2) := by
  have hm : k % 4 < 4 := Nat.mod_lt _ (by decide)
  have h1 := h.ev (by omega) (h.gt ht)
  have h2 := h1.tk (by omega) hm (h1.ck (h1.gt ht))
  rw [show B + 1 + 1 = B + 2 by omega] at h2
  exact h2
theorem HM.In.clk {x : HM} {B : Int} (h : x.In B) (hB2 : B < 4611686018427387904) {t k : Nat} (ht : t < 8) (hk : k < 16) : (x.clk t k).In (B + 1) := by
  have hm : k % 4 < 4 := Nat.mod_lt _ (by decide)
  unfold HM.clk
  split
  · rename_i c
    exact (h.tk hB2 hm (h.ck (h.gt ht))).stl hk ht (h.lt16 hk (by rw [c]; rfl))
  · exact h.mono (by omega)
theorem HM.In.cl {t : Nat} (ht : t < 8) : ∀ (n k : Nat) (x : HM) (B : Int), k + n = 16 → x.In B → B + n < 4611686018427387904 → (hs_cl t n k x).In (B + n) := by
  intro n
  induction n with
  | zero => intro k x B _ h _; exact h.mono (by omega)
  | succ n ih =>
    intro k x B hk h hB
    rw [hs_cl_succ]
    exact (ih (k + 1) _ (B + 1) (by omega) (h.clk (by omega) ht (by omega)) (by omega)).mono (by omega)
theorem hs_stp_bi (x : HM) (t : Nat) : (x.stp t).bi = x.bi := by unfold HM.stp; split <;> rfl
theorem hs_fr_lt' {f : Nat → Int32} : ∀ {n i t : Nat}, hs_fr f n i = some t → i ≤ t ∧ t < i + n ∧ f t = 0 := by
  intro n
  induction n with
  | zero => intro i t h; cases h
  | succ n ih =>
    intro i t h
    rw [hs_fr_succ] at h
    split at h
    · rename_i c; cases h; exact ⟨by omega, by omega, c⟩
    · have := ih h; exact ⟨by omega, by omega, this.2.2⟩
theorem hs_fr_lt {f : Nat → Int32} {t : Nat} (h : hs_fr f 8 0 = some t) : t < 8 := by have := hs_fr_lt' h; omega
theorem hs_nI_m1 {t : Nat} (h : t < 2 ^ 31) : ¬ nI t = -1 := fun q => by
  have := nI_pos h
  rw [q] at this
  exact absurd (by decide) this
theorem hc_s_bs {ad : Nat → Nat} {cy : Nat → ClassId} {x : HM} {b : Nat} : (hc_mem ad cy x).set 0 (ad 0, .inr (3, (hc_storeL ad x).set 5 (.int (nI b)))) = hc_mem ad cy (x.s_bs b) :=
  hc_set 0 rfl (fun j hj hne => by
    have : j = 1 ∨ j = 2 ∨ j = 3 ∨ j = 4 := by omega
    rcases this with rfl | rfl | rfl | rfl <;> rfl) (fun _ _ => rfl) (fun _ _ => rfl) (fun _ _ => rfl) (fun _ _ => rfl) (fun _ _ => rfl)
end
section
theorem hs_rng (z : Int32) {b : Nat} (hb : b < 2 ^ 31) : (z < 0 ∨ nI b ≤ z) ∨ ∃ j : Nat, j < b ∧ z = nI j := by
  rcases pk_ix z hb with h | h | h
  · exact Or.inl (Or.inl h)
  · exact Or.inl (Or.inr h)
  · exact Or.inr h
theorem in_X3_moveReadToWriteStamp_X0 : ∀ w ∈ u_ws RX0 TX0 8, w ∈ wsX3_moveReadToWriteStamp := by decide +kernel
theorem in_X3_moveReadToWriteStamp_X1 : ∀ w ∈ u_ws RX1 TX1 2, w ∈ wsX3_moveReadToWriteStamp := by decide +kernel
theorem in_X3_moveReadToWriteStamp_X2 : ∀ w ∈ u_ws RX2 TX2 9, w ∈ wsX3_moveReadToWriteStamp := by decide +kernel
set_option maxHeartbeats 4000000 in
set_option maxRecDepth 100000 in
/-- moveReadToWriteStamp -/
theorem c_moveRead (l : Launch) (D : va_G) (cy : Nat → ClassId) (ad : Nat → Nat) (ho : hc_ok ad) (x : HM) (B : Int) (hIn : x.In B) (hB : B + 10 < 4611686018427387904) {t : Nat} (ht : t < 8) {k : Nat} (hk : k < 16) : Ct l yX3_moveReadToWriteStamp wsX3_moveReadToWriteStamp ({ frames := 3, cells := 0, slots := 0, locals := 65 }) D cy (hc_A ad) [.ref (ad (57 + t)), .ref (ad (9 + k))] (hc_mem ad cy (x)) (some (.int (if x.mrC t k then 0 else 1))) (hc_mem ad cy (x.mrM t k)) := by
  refine ct_of (cc := cX3_moveReadToWriteStamp) (maxL := 4) (ret := (some .boolean)) rfl (by decide) (Nat.le_of_ble_eq_true rfl) ?_
  intro p e s m below meth c ls G hx hb hml hr hlocks hP hS hl
  have hl : lv_has ls 4 [(0, .ref (ad (57 + t))), (1, .ref (ad (9 + k)))] := hl
  have hm : k % 4 < 4 := Nat.mod_lt _ (by decide)
  have hI1 : (x.tk (k % 4) (x.ck (x.gt t))).In (B + 1) := hIn.tk (by omega) hm (hIn.ck (hIn.gt ht))
  have hI1b := hI1.look (t := t) (by omega) hk
  have hI2 := hIn.mr1 (by omega) ht hk
  have hI3 := hIn.mr2 (by omega) ht hk
  have J32 : ∀ (H : Heap) (locs : List Loc), va_P D vwCl (hc_mem ad cy (x.mr1 t k)) H → va_S (hc_A ad) s.heap H locs → ∀ ls : Array Slot, lv_has ls 4 [(0, .ref (ad (57 + t))), (1, .ref (ad (9 + k)))] → W p l e ({ frames := 3, cells := 0, slots := 0, locals := 65 }) s m [.ref (ad (57 + t)), .ref (ad (9 + k))].toArray below meth c H locs 0 0 (MQ below (hs_Post D (some (.int (if x.mrC t k then 0 else 1))) (hc_mem ad cy (x.mrM t k)) (hc_A ad)) [.ref (ad (57 + t)), .ref (ad (9 + k))].toArray s 0 0 (hc_A ad)) (F0 m 32 ls []) := by
    intro H locs hP hS ls hl
    refine lv_aload_n hx hb dX3_moveReadToWriteStamp_32 rfl (lv_at hl 1 rfl) ?_
    refine lv_aload_n hx hb dX3_moveReadToWriteStamp_33 rfl (lv_at hl 0 rfl) ?_
    refine hc_g_txn G (in_X3_moveReadToWriteStamp_X2) hP (ht) 4 (by decide) (by decide +kernel) (.long (HM.rs (HM.mr1 x t k) (t))) rfl rfl dX3_moveReadToWriteStamp_34 ?_
    refine lv_aload_n hx hb dX3_moveReadToWriteStamp_37 rfl (lv_at hl 0 rfl) ?_
    refine hc_g_txn G (in_X3_moveReadToWriteStamp_X2) hP (ht) 5 (by decide) (by decide +kernel) (.long (HM.ws (HM.mr1 x t k) (t))) rfl rfl dX3_moveReadToWriteStamp_38 ?_
    refine hs_callN (n := 2) (As := [.long (HM.rs (HM.mr1 x t k) (t)), .long (HM.ws (HM.mr1 x t k) (t))]) (rest := []) G hml (c_greatest l D cy ad ho (HM.mr1 x t k) (hk) (hI2.le16 (hk)) (HM.rs (HM.mr1 x t k) (t)) (HM.ws (HM.mr1 x t k) (t))) gX3_moveReadToWriteStamp_X0_greatestStampIn_n156 rfl rfl rfl (by decide +kernel) (by decide +kernel) (by decide +kernel) (C := RX0) (by decide +kernel) (by decide +kernel) ⟨Nat.le_of_ble_eq_true rfl, Nat.le_of_ble_eq_true rfl⟩ (ci := 0) rfl rfl (hc_at_key (hk)) rfl hl.1 (Nat.le_of_ble_eq_true rfl) ⟨Nat.zero_le _, Nat.zero_le _⟩ hP hS (fun _ h => h) rfl dX3_moveReadToWriteStamp_41 (fun H locs hP hS _ _ => ?_)
    refine lv_ldc2 (v := (-1)) hx hb G.2.2.2.1 (G.2.2.1 (.constantLong RX3 53 (-1)) (by decide +kernel)) dX3_moveReadToWriteStamp_44 ?_
    refine hs_leq (x := hs_gs (hs_best (HM.rs (HM.mr1 x t k) (t)) (HM.ws (HM.mr1 x t k) (t)) (HM.vk (HM.mr1 x t k) (k)))) (y := (-1)) (tgt := 55) hx hb dX3_moveReadToWriteStamp_47 dX3_moveReadToWriteStamp_48 (by decide) (fun c_1 => ?_) (fun c_1 => ?_)
    · have hc : x.mrC t k = false := by rw [HM.mrC, (hI2.gs_m1 _ _ _).mp c_1]; rfl
      refine lv_iconst (v := 0) hx hb dX3_moveReadToWriteStamp_55 (by decide) ?_
      refine lv_istore_n (lv' := [(3, .int (0)), (0, .ref (ad (57 + t))), (1, .ref (ad (9 + k)))]) hx hb dX3_moveReadToWriteStamp_56 rfl hl (by decide) rfl (fun ls hl => ?_)
      refine lv_iload_n hx hb dX3_moveReadToWriteStamp_57 rfl (lv_at hl 0 rfl) ?_
      refine lv_if_ne (tgt := 69) hx hb dX3_moveReadToWriteStamp_58 (by decide) (fun c_2 => ?_) (fun c_2 => ?_)
      · exact absurd rfl c_2
      · refine lv_aload_n hx hb dX3_moveReadToWriteStamp_61 rfl (lv_at hl 2 rfl) ?_
        refine lv_aload_n hx hb dX3_moveReadToWriteStamp_62 rfl (lv_at hl 1 rfl) ?_
        refine hc_g_txn G (in_X3_moveReadToWriteStamp_X2) hP (ht) 5 (by decide) (by decide +kernel) (.long (HM.ws (HM.mr1 x t k) (t))) rfl rfl dX3_moveReadToWriteStamp_63 ?_
        refine hs_callN (n := 1) (As := [.long (HM.ws (HM.mr1 x t k) (t))]) (rest := []) G hml (c_raise l D cy ad ho (HM.mr1 x t k) (hk) (HM.ws (HM.mr1 x t k) (t))) gX3_moveReadToWriteStamp_X0_raiseReadMark_n162 rfl rfl rfl (by decide +kernel) (by decide +kernel) (by decide +kernel) (C := RX0) (by decide +kernel) (by decide +kernel) ⟨Nat.le_of_ble_eq_true rfl, Nat.le_of_ble_eq_true rfl⟩ (ci := 0) rfl rfl (hc_at_key (hk)) rfl hl.1 (Nat.le_of_ble_eq_true rfl) ⟨Nat.zero_le _, Nat.zero_le _⟩ hP hS (fun _ h => h) rfl dX3_moveReadToWriteStamp_66 (fun H locs hP hS _ _ => ?_)
        have hP : va_P D vwCl (hc_mem ad cy (x.mr2 t k)) H := by rw [HM.mr2, if_neg (by rw [hc]; decide)]; exact hP
        refine lv_aload_n hx hb dX3_moveReadToWriteStamp_69 rfl (lv_at hl 1 rfl) ?_
        refine hc_g_txn G (in_X3_moveReadToWriteStamp_X2) hP (ht) 1 (by decide) (by decide +kernel) (.ref (ad (5 + HM.gt (HM.mr2 x t k) (t)))) rfl rfl dX3_moveReadToWriteStamp_70 ?_
        refine lv_aload_n hx hb dX3_moveReadToWriteStamp_73 rfl (lv_at hl 2 rfl) ?_
        refine hc_g_keyn G (in_X3_moveReadToWriteStamp_X0) hP (hk) 1 (by decide) (by decide +kernel) (.ref (ad (5 + (k) % 4))) rfl rfl dX3_moveReadToWriteStamp_74 ?_
        refine hc_g_noden G (in_X3_moveReadToWriteStamp_X1) hP ((Nat.mod_lt _ (by decide))) 1 (by decide) (by decide +kernel) (.long (HM.ck (HM.mr2 x t k) ((k) % 4))) rfl rfl dX3_moveReadToWriteStamp_77 ?_
        refine hs_callN (n := 1) (As := [.long (HM.ck (HM.mr2 x t k) ((k) % 4))]) (rest := []) G hml (c_takeIn l D cy ad ho (HM.mr2 x t k) ((hI3.gt ht)) (HM.ck (HM.mr2 x t k) ((k) % 4))) gX3_moveReadToWriteStamp_X1_takeIn_n92 rfl rfl rfl (by decide +kernel) (by decide +kernel) (by decide +kernel) (C := RX1) (by decide +kernel) (by decide +kernel) ⟨Nat.le_of_ble_eq_true rfl, Nat.le_of_ble_eq_true rfl⟩ (ci := 1) rfl rfl (hc_at_node ((hI3.gt ht))) rfl hl.1 (Nat.le_of_ble_eq_true rfl) ⟨Nat.zero_le _, Nat.zero_le _⟩ hP hS (fun _ h => h) rfl dX3_moveReadToWriteStamp_80 (fun H locs hP hS _ _ => ?_)
        refine lv_iload_n hx hb dX3_moveReadToWriteStamp_83 rfl (lv_at hl 0 rfl) ?_
        refine lv_if_ne (tgt := 91) hx hb dX3_moveReadToWriteStamp_84 (by decide) (fun c_3 => ?_) (fun c_3 => ?_)
        · exact absurd rfl c_3
        · refine lv_iconst (v := 1) hx hb dX3_moveReadToWriteStamp_87 (by decide) ?_
          refine lv_goto (tgt := 92) hx hb dX3_moveReadToWriteStamp_88 (by decide) ?_
          exact ct_zret hx hb hr hlocks (by decide) (by rw [hc]; rfl) hP hS dX3_moveReadToWriteStamp_92
    · have hc : x.mrC t k = true := by
        obtain ⟨v, hv⟩ := Option.ne_none_iff_exists'.mp (fun q => c_1 ((hI2.gs_m1 _ _ _).mpr q))
        rw [HM.mrC, hv]; rfl
      refine lv_iconst (v := 1) hx hb dX3_moveReadToWriteStamp_51 (by decide) ?_
      refine lv_goto (tgt := 56) hx hb dX3_moveReadToWriteStamp_52 (by decide) ?_
      refine lv_istore_n (lv' := [(3, .int (1)), (0, .ref (ad (57 + t))), (1, .ref (ad (9 + k)))]) hx hb dX3_moveReadToWriteStamp_56 rfl hl (by decide) rfl (fun ls hl => ?_)
      refine lv_iload_n hx hb dX3_moveReadToWriteStamp_57 rfl (lv_at hl 0 rfl) ?_
      refine lv_if_ne (tgt := 69) hx hb dX3_moveReadToWriteStamp_58 (by decide) (fun c_4 => ?_) (fun c_4 => ?_)
      · have hP : va_P D vwCl (hc_mem ad cy (x.mr2 t k)) H := by rw [HM.mr2, if_pos hc]; exact hP
        refine lv_aload_n hx hb dX3_moveReadToWriteStamp_69 rfl (lv_at hl 1 rfl) ?_
        refine hc_g_txn G (in_X3_moveReadToWriteStamp_X2) hP (ht) 1 (by decide) (by decide +kernel) (.ref (ad (5 + HM.gt (HM.mr2 x t k) (t)))) rfl rfl dX3_moveReadToWriteStamp_70 ?_
        refine lv_aload_n hx hb dX3_moveReadToWriteStamp_73 rfl (lv_at hl 2 rfl) ?_
        refine hc_g_keyn G (in_X3_moveReadToWriteStamp_X0) hP (hk) 1 (by decide) (by decide +kernel) (.ref (ad (5 + (k) % 4))) rfl rfl dX3_moveReadToWriteStamp_74 ?_
        refine hc_g_noden G (in_X3_moveReadToWriteStamp_X1) hP ((Nat.mod_lt _ (by decide))) 1 (by decide) (by decide +kernel) (.long (HM.ck (HM.mr2 x t k) ((k) % 4))) rfl rfl dX3_moveReadToWriteStamp_77 ?_
        refine hs_callN (n := 1) (As := [.long (HM.ck (HM.mr2 x t k) ((k) % 4))]) (rest := []) G hml (c_takeIn l D cy ad ho (HM.mr2 x t k) ((hI3.gt ht)) (HM.ck (HM.mr2 x t k) ((k) % 4))) gX3_moveReadToWriteStamp_X1_takeIn_n92 rfl rfl rfl (by decide +kernel) (by decide +kernel) (by decide +kernel) (C := RX1) (by decide +kernel) (by decide +kernel) ⟨Nat.le_of_ble_eq_true rfl, Nat.le_of_ble_eq_true rfl⟩ (ci := 1) rfl rfl (hc_at_node ((hI3.gt ht))) rfl hl.1 (Nat.le_of_ble_eq_true rfl) ⟨Nat.zero_le _, Nat.zero_le _⟩ hP hS (fun _ h => h) rfl dX3_moveReadToWriteStamp_80 (fun H locs hP hS _ _ => ?_)
        refine lv_iload_n hx hb dX3_moveReadToWriteStamp_83 rfl (lv_at hl 0 rfl) ?_
        refine lv_if_ne (tgt := 91) hx hb dX3_moveReadToWriteStamp_84 (by decide) (fun c_5 => ?_) (fun c_5 => ?_)
        · refine lv_iconst (v := 0) hx hb dX3_moveReadToWriteStamp_91 (by decide) ?_
          exact ct_zret hx hb hr hlocks (by decide) (by rw [hc]; rfl) hP hS dX3_moveReadToWriteStamp_92
        · exact absurd c_5 (by decide)
      · exact absurd c_4 (by decide)
  refine lv_aload_n hx hb dX3_moveReadToWriteStamp_0 rfl (lv_at hl 1 rfl) ?_
  refine hc_g_keyn G (in_X3_moveReadToWriteStamp_X0) hP (hk) 1 (by decide) (by decide +kernel) (.ref (ad (5 + (k) % 4))) rfl rfl dX3_moveReadToWriteStamp_1 ?_
  refine lv_aload_n hx hb dX3_moveReadToWriteStamp_4 rfl (lv_at hl 0 rfl) ?_
  refine hc_g_txn G (in_X3_moveReadToWriteStamp_X2) hP (ht) 1 (by decide) (by decide +kernel) (.ref (ad (5 + HM.gt (x) (t)))) rfl rfl dX3_moveReadToWriteStamp_5 ?_
  refine hc_g_noden G (in_X3_moveReadToWriteStamp_X1) hP ((hIn.gt ht)) 1 (by decide) (by decide +kernel) (.long (HM.ck (x) (HM.gt (x) (t)))) rfl rfl dX3_moveReadToWriteStamp_8 ?_
  refine hs_callN (n := 1) (As := [.long (HM.ck (x) (HM.gt (x) (t)))]) (rest := []) G hml (c_takeIn l D cy ad ho (x) ((Nat.mod_lt _ (by decide))) (HM.ck (x) (HM.gt (x) (t)))) gX3_moveReadToWriteStamp_X1_takeIn_n92 rfl rfl rfl (by decide +kernel) (by decide +kernel) (by decide +kernel) (C := RX1) (by decide +kernel) (by decide +kernel) ⟨Nat.le_of_ble_eq_true rfl, Nat.le_of_ble_eq_true rfl⟩ (ci := 1) rfl rfl (hc_at_node ((Nat.mod_lt _ (by decide)))) rfl hl.1 (Nat.le_of_ble_eq_true rfl) ⟨Nat.zero_le _, Nat.zero_le _⟩ hP hS (fun _ h => h) rfl dX3_moveReadToWriteStamp_11 (fun H locs hP hS _ _ => ?_)
  refine lv_aload_n hx hb dX3_moveReadToWriteStamp_14 rfl (lv_at hl 1 rfl) ?_
  refine lv_aload_n hx hb dX3_moveReadToWriteStamp_15 rfl (lv_at hl 0 rfl) ?_
  refine hs_callS (n := 2) (As := [.ref (ad (9 + k)), .ref (ad (57 + t))]) (rest := []) G hml (c_lookUp l D cy ad ho (HM.tk (x) ((k) % 4) (HM.ck (x) (HM.gt (x) (t)))) (hk) (hI1.hd (hk)) (fun _ h => hI1.gt h) (hI1.lt16 (hk)) (ht)) gX3_moveReadToWriteStamp_X3_lookUp rfl rfl rfl (by decide +kernel) ⟨Nat.le_of_ble_eq_true rfl, Nat.le_of_ble_eq_true rfl⟩ rfl hl.1 (Nat.le_of_ble_eq_true rfl) ⟨Nat.zero_le _, Nat.zero_le _⟩ hP hS (fun _ h => h) rfl dX3_moveReadToWriteStamp_16 (fun H locs hP hS _ _ => ?_)
  cases hlu : HM.lkU (x.tk (k % 4) (x.ck (x.gt t))) (t) (k) with
  | none =>
    show W _ _ _ _ _ _ _ _ _ _ _ _ _ _ _ (F0 m 19 ls (.null :: []))
    refine lv_astore_nN (lv' := [(2, .null), (0, .ref (ad (57 + t))), (1, .ref (ad (9 + k)))]) hx hb dX3_moveReadToWriteStamp_19 rfl hl (by decide) rfl (fun ls hl => ?_)
    refine lv_aload_nN hx hb dX3_moveReadToWriteStamp_20 rfl (lv_at hl 0 rfl) ?_
    refine lv_ifnullN (tgt := 32) hx hb dX3_moveReadToWriteStamp_21 (by decide) ?_
    exact J32 H locs (by rw [HM.mr1, HM.lpW, hlu]; exact hP) hS ls (lv_sub hl [1, 2] rfl)
  | some u =>
    have hu8 : u < 8 := hI1.lkU hk hlu
    show W _ _ _ _ _ _ _ _ _ _ _ _ _ _ _ (F0 m 19 ls (.ref (ad (57 + u)) :: []))
    refine lv_astore_n (lv' := [(2, .ref (ad (57 + u))), (0, .ref (ad (57 + t))), (1, .ref (ad (9 + k)))]) hx hb dX3_moveReadToWriteStamp_19 rfl hl (by decide) rfl (fun ls hl => ?_)
    refine lv_aload_n hx hb dX3_moveReadToWriteStamp_20 rfl (lv_at hl 0 rfl) ?_
    refine lv_ifnull hx hb dX3_moveReadToWriteStamp_21 ?_
    refine lv_aload_n hx hb dX3_moveReadToWriteStamp_24 rfl (lv_at hl 0 rfl) ?_
    refine lv_aload_n hx hb dX3_moveReadToWriteStamp_25 rfl (lv_at hl 1 rfl) ?_
    refine hc_g_txn G (in_X3_moveReadToWriteStamp_X2) hP (ht) 5 (by decide) (by decide +kernel) (.long (HM.ws (HM.look (HM.tk (x) ((k) % 4) (HM.ck (x) (HM.gt (x) (t)))) (t) (k)) (t))) rfl rfl dX3_moveReadToWriteStamp_26 ?_
    refine hs_callN (n := 1) (As := [.long (HM.ws (HM.look (HM.tk (x) ((k) % 4) (HM.ck (x) (HM.gt (x) (t)))) (t) (k)) (t))]) (rest := []) G hml (c_push l D cy ad ho (HM.look (HM.tk (x) ((k) % 4) (HM.ck (x) (HM.gt (x) (t)))) (t) (k)) (hu8) (HM.ws (HM.look (HM.tk (x) ((k) % 4) (HM.ck (x) (HM.gt (x) (t)))) (t) (k)) (t)) (hs_lt_max (B := B + 1 + 2) (by omega) (hI1b.ws ht).2)) gX3_moveReadToWriteStamp_X2_pushWriteStampAbove_n150 rfl rfl rfl (by decide +kernel) (by decide +kernel) (by decide +kernel) (C := RX2) (by decide +kernel) (by decide +kernel) ⟨Nat.le_of_ble_eq_true rfl, Nat.le_of_ble_eq_true rfl⟩ (ci := 2) rfl rfl (hc_at_tx (hu8)) rfl hl.1 (Nat.le_of_ble_eq_true rfl) ⟨Nat.zero_le _, Nat.zero_le _⟩ hP hS (fun _ h => h) rfl dX3_moveReadToWriteStamp_29 (fun H locs hP hS _ _ => ?_)
    exact J32 H locs (by rw [HM.mr1, HM.lpW, hlu]; exact hP) hS ls (lv_sub hl [1, 2] rfl)
theorem in_X3_moveReadsToWriteStamp_X3 : ∀ w ∈ u_ws RX3 TX3 6, w ∈ wsX3_moveReadsToWriteStamp := by decide +kernel
theorem in_X3_moveReadsToWriteStamp_X0 : ∀ w ∈ u_ws RX0 TX0 8, w ∈ wsX3_moveReadsToWriteStamp := by decide +kernel
theorem in_X3_moveReadsToWriteStamp_X2 : ∀ w ∈ u_ws RX2 TX2 9, w ∈ wsX3_moveReadsToWriteStamp := by decide +kernel
set_option maxHeartbeats 4000000 in
set_option maxRecDepth 100000 in
/-- moveReadsToWriteStamp -/
theorem c_moveReads (l : Launch) (D : va_G) (cy : Nat → ClassId) (ad : Nat → Nat) (ho : hc_ok ad) (x : HM) (B : Int) (hIn : x.In B) (hB : B + 100 < 4611686018427387904) {t : Nat} (ht : t < 8) : Ct l yX3_moveReadsToWriteStamp wsX3_moveReadsToWriteStamp ({ frames := 4, cells := 0, slots := 0, locals := 88 }) D cy (hc_A ad) [.ref (ad 0), .ref (ad (57 + t))] (hc_mem ad cy (x)) (some (.int (if (hs_mrs t 16 0 x).2 then 1 else 0))) (hc_mem ad cy ((hs_mrs t 16 0 x).1)) := by
  refine ct_of (cc := cX3_moveReadsToWriteStamp) (maxL := 6) (ret := (some .boolean)) rfl (by decide) (Nat.le_of_ble_eq_true rfl) ?_
  intro p e s m below meth c ls G hx hb hml hr hlocks hP hS hl
  have hl : lv_has ls 6 [(0, .ref (ad 0)), (1, .ref (ad (57 + t)))] := hl
  have loop : ∀ (n i : Nat), i + n = 16 → ∀ (y : HM) (C : Int), y.In C → C + 5 * n + 20 < 4611686018427387904 → hs_mrs t n i y = hs_mrs t 16 0 x → ∀ (H : Heap) (locs : List Loc), va_P D vwCl (hc_mem ad cy y) H → va_S (hc_A ad) s.heap H locs → ∀ ls : Array Slot, lv_has ls 6 [(4, .int (nI i)), (3, .int (16)), (2, .ref (ad 2)), (0, .ref (ad 0)), (1, .ref (ad (57 + t)))] → W p l e ({ frames := 4, cells := 0, slots := 0, locals := 88 }) s m [.ref (ad 0), .ref (ad (57 + t))].toArray below meth c H locs 0 0 (MQ below (hs_Post D (some (.int (if (hs_mrs t 16 0 x).2 then 1 else 0))) (hc_mem ad cy ((hs_mrs t 16 0 x).1)) (hc_A ad)) [.ref (ad 0), .ref (ad (57 + t))].toArray s 0 0 (hc_A ad)) (F0 m 11 ls []) := by
    intro n
    induction n with
    | zero =>
      intro i hi y C hy hC he H locs hP hS ls hl
      refine lv_iload hx hb dX3_moveReadsToWriteStamp_11 (lv_at hl 0 rfl) ?_
      refine lv_iload_n hx hb dX3_moveReadsToWriteStamp_13 rfl (lv_at hl 1 rfl) ?_
      refine lv_icmp_ge (tgt := 53) hx hb dX3_moveReadsToWriteStamp_14 (by decide) (fun c_1 => ?_) (fun c_1 => ?_)
      · refine lv_iconst (v := 1) hx hb dX3_moveReadsToWriteStamp_53 (by decide) ?_
        exact ct_zret hx hb hr hlocks (by decide) (by rw [← he]; rfl) (by rw [← he]; exact hP) hS dX3_moveReadsToWriteStamp_54
      · exact absurd (show (16 : Int32) ≤ nI i from nI_le (a := 16) (by omega) (by omega)) c_1
    | succ n ih =>
      intro i hi y C hy hC he H locs hP hS ls hl
      refine lv_iload hx hb dX3_moveReadsToWriteStamp_11 (lv_at hl 0 rfl) ?_
      refine lv_iload_n hx hb dX3_moveReadsToWriteStamp_13 rfl (lv_at hl 1 rfl) ?_
      refine lv_icmp_ge (tgt := 53) hx hb dX3_moveReadsToWriteStamp_14 (by decide) (fun c_1 => ?_) (fun c_1 => ?_)
      · exact absurd c_1 (nI_ge (b := 16) (by omega) (by decide))
      · have hi16 : i < 16 := by omega
        refine lv_aload_n hx hb dX3_moveReadsToWriteStamp_17 rfl (lv_at hl 2 rfl) ?_
        refine lv_iload hx hb dX3_moveReadsToWriteStamp_18 (lv_at hl 0 rfl) ?_
        refine va_aldq hx hb G.2.2.2.2.1 hP 2 4 (hc_at_top (by decide)) rfl (hs_in (k := i) (n := 16) (nI_clamp (by omega)) (hs_inN (by omega) (by decide))) dX3_moveReadsToWriteStamp_20 ?_
        rw [show Int32.toNatClampNeg (nI i) = i from nI_clamp (by omega)]
        show W _ _ _ _ _ _ _ _ _ _ _ _ _ _ _ (F0 m (20 + 1) ls (.ref (ad (9 + i)) :: []))
        refine lv_astore (lv' := [(5, .ref (ad (9 + i))), (4, .int (nI i)), (3, .int (16)), (2, .ref (ad 2)), (0, .ref (ad 0)), (1, .ref (ad (57 + t)))]) hx hb dX3_moveReadsToWriteStamp_21 hl (by decide) rfl (fun ls hl => ?_)
        refine lv_aload_n hx hb dX3_moveReadsToWriteStamp_23 rfl (lv_at hl 5 rfl) ?_
        refine hc_g_txn G (in_X3_moveReadsToWriteStamp_X2) hP (ht) 7 (by decide) (by decide +kernel) (.int (hs_mask (HM.se (y) (t)))) rfl rfl dX3_moveReadsToWriteStamp_24 ?_
        refine lv_aload hx hb dX3_moveReadsToWriteStamp_27 (lv_at hl 0 rfl) ?_
        refine hc_g_keyn G (in_X3_moveReadsToWriteStamp_X0) hP (hi16) 0 (by decide) (by decide +kernel) (.int (hs_bit (i))) rfl rfl dX3_moveReadsToWriteStamp_29 ?_
        refine lv_iand hx hb dX3_moveReadsToWriteStamp_32 ?_
        refine lv_if_eq (tgt := 47) hx hb dX3_moveReadsToWriteStamp_33 (by decide) (fun c_2 => ?_) (fun c_2 => ?_)
        · have hse : y.se t i = false := (hs_mask_and _ hi16).mp c_2
          refine lv_iinc (v := nI (i + 1)) (lv' := [(4, .int (nI (i + 1))), (5, .ref (ad (9 + i))), (3, .int (16)), (2, .ref (ad 2)), (0, .ref (ad 0)), (1, .ref (ad (57 + t)))]) hx hb dX3_moveReadsToWriteStamp_47 hl (k := 1) rfl (nI_1 i) (by decide) rfl (fun ls hl => ?_)
          refine lv_goto (tgt := 11) hx hb dX3_moveReadsToWriteStamp_50 (by decide) ?_
          exact ih (i + 1) (by omega) y C hy (by omega) (by rw [← he, hs_mrs_succ, if_neg (by rw [hse]; decide)]) H locs hP hS ls (lv_sub hl [0, 2, 3, 4, 5] rfl)
        · have hse : y.se t i = true := eq_true_of_ne_false (fun q => c_2 ((hs_mask_and _ hi16).mpr q))
          refine lv_aload_n hx hb dX3_moveReadsToWriteStamp_36 rfl (lv_at hl 5 rfl) ?_
          refine lv_aload hx hb dX3_moveReadsToWriteStamp_37 (lv_at hl 0 rfl) ?_
          refine hs_callS (n := 2) (As := [.ref (ad (57 + t)), .ref (ad (9 + i))]) (rest := []) G hml (c_moveRead l D cy ad ho (y) _ (hy) (by omega) (ht) (hi16)) gX3_moveReadsToWriteStamp_X3_moveReadToWriteStamp rfl rfl rfl (by decide +kernel) ⟨Nat.le_of_ble_eq_true rfl, Nat.le_of_ble_eq_true rfl⟩ rfl hl.1 (Nat.le_of_ble_eq_true rfl) ⟨Nat.zero_le _, Nat.zero_le _⟩ hP hS (fun _ h => h) rfl dX3_moveReadsToWriteStamp_39 (fun H locs hP hS _ _ => ?_)
          refine lv_if_ne (tgt := 47) hx hb dX3_moveReadsToWriteStamp_42 (by decide) (fun c_3 => ?_) (fun c_3 => ?_)
          · have hmc : y.mrC t i = false := by
              cases hq : y.mrC t i with
              | false => rfl
              | true => rw [hq] at c_3; exact absurd rfl c_3
            refine lv_iinc (v := nI (i + 1)) (lv' := [(4, .int (nI (i + 1))), (5, .ref (ad (9 + i))), (3, .int (16)), (2, .ref (ad 2)), (0, .ref (ad 0)), (1, .ref (ad (57 + t)))]) hx hb dX3_moveReadsToWriteStamp_47 hl (k := 1) rfl (nI_1 i) (by decide) rfl (fun ls hl => ?_)
            refine lv_goto (tgt := 11) hx hb dX3_moveReadsToWriteStamp_50 (by decide) ?_
            exact ih (i + 1) (by omega) (y.mrM t i) (C + 5) (hy.mrM (by omega) ht hi16) (by omega) (by rw [← he, hs_mrs_succ, if_pos hse, if_neg (by rw [hmc]; decide)]) H locs hP hS ls (lv_sub hl [0, 2, 3, 4, 5] rfl)
          · have hmc : y.mrC t i = true := by
              cases hq : y.mrC t i with
              | true => rfl
              | false => rw [hq] at c_3; exact absurd c_3 (by decide)
            refine lv_iconst (v := 0) hx hb dX3_moveReadsToWriteStamp_45 (by decide) ?_
            have he2 : hs_mrs t 16 0 x = (y.mrM t i, false) := by rw [← he, hs_mrs_succ, if_pos hse, if_pos hmc]
            exact ct_zret hx hb hr hlocks (by decide) (by rw [he2]; rfl) (by rw [he2]; exact hP) hS dX3_moveReadsToWriteStamp_46
  refine lv_aload_n hx hb dX3_moveReadsToWriteStamp_0 rfl (lv_at hl 0 rfl) ?_
  refine hc_g_store G (in_X3_moveReadsToWriteStamp_X3) hP 1 (by decide) (by decide +kernel) (.ref (ad 2)) rfl rfl dX3_moveReadsToWriteStamp_1 ?_
  refine lv_astore_n (lv' := [(2, .ref (ad 2)), (0, .ref (ad 0)), (1, .ref (ad (57 + t)))]) hx hb dX3_moveReadsToWriteStamp_4 rfl hl (by decide) rfl (fun ls hl => ?_)
  refine lv_aload_n hx hb dX3_moveReadsToWriteStamp_5 rfl (lv_at hl 0 rfl) ?_
  refine va_alen hx hb G.2.2.2.2.1 hP 2 4 (hc_at_top (by decide)) rfl (v := 16) rfl dX3_moveReadsToWriteStamp_6 ?_
  refine lv_istore_n (lv' := [(3, .int (16)), (2, .ref (ad 2)), (0, .ref (ad 0)), (1, .ref (ad (57 + t)))]) hx hb dX3_moveReadsToWriteStamp_7 rfl hl (by decide) rfl (fun ls hl => ?_)
  refine lv_iconst (v := 0) hx hb dX3_moveReadsToWriteStamp_8 (by decide) ?_
  refine lv_istore (lv' := [(4, .int (0)), (3, .int (16)), (2, .ref (ad 2)), (0, .ref (ad 0)), (1, .ref (ad (57 + t)))]) hx hb dX3_moveReadsToWriteStamp_9 hl (by decide) rfl (fun ls hl => ?_)
  exact loop 16 0 rfl x B hIn (by omega) rfl s.heap [] hP hS ls (lv_sub hl [0, 1, 2, 3, 4] rfl)
end
section
theorem in_X3_reading_X3 : ∀ w ∈ u_ws RX3 TX3 6, w ∈ wsX3_reading := by decide +kernel
theorem in_X3_reading_X1 : ∀ w ∈ u_ws RX1 TX1 2, w ∈ wsX3_reading := by decide +kernel
set_option maxHeartbeats 4000000 in
set_option maxRecDepth 100000 in
/-- c_reading -/
theorem c_reading (l : Launch) (D : va_G) (cy : Nat → ClassId) (ad : Nat → Nat) (ho : hc_ok ad) (x : HM) (z : Int32) : Ct l yX3_reading wsX3_reading ({ frames := 1, cells := 0, slots := 0, locals := 21 }) D cy (hc_A ad) [.ref (ad 0), .int (z)] (hc_mem ad cy (x)) (some (.int (x.readingA z))) (hc_mem ad cy (x)) := by
  rcases hs_rng z (b := 4) (by decide) with hz | ⟨i, hi, rfl⟩
  · refine ct_of (cc := cX3_reading) (maxL := 3) (ret := (some .int)) rfl (by decide) (Nat.le_of_ble_eq_true rfl) ?_
    intro p e s m below meth c ls G hx hb hml hr hlocks hP hS hl
    have hl : lv_has ls 3 [(0, .ref (ad 0)), (1, .int (z))] := hl
    refine lv_aload_n hx hb dX3_reading_0 rfl (lv_at hl 0 rfl) ?_
    refine lv_iload_n hx hb dX3_reading_1 rfl (lv_at hl 1 rfl) ?_
    refine hs_callV (n := 1) (As := [.int (z)]) (rest := []) G hml (c_nodeAt_no l D cy ad ho (x) (z) hz) gX3_reading_X3_nodeAt rfl rfl rfl (by decide +kernel) ⟨Nat.le_of_ble_eq_true rfl, Nat.le_of_ble_eq_true rfl⟩ (ci := 3) rfl rfl (hc_at_top (j := 0) (by decide)) rfl hl.1 (Nat.le_of_ble_eq_true rfl) ⟨Nat.zero_le _, Nat.zero_le _⟩ hP hS (fun _ h => h) rfl dX3_reading_2 (fun H locs hP hS _ _ => ?_)
    refine lv_astore_nN (lv' := [(2, .null), (0, .ref (ad 0)), (1, .int (z))]) hx hb dX3_reading_5 rfl hl (by decide) rfl (fun ls hl => ?_)
    refine lv_aload_nN hx hb dX3_reading_6 rfl (lv_at hl 0 rfl) ?_
    refine lv_ifnonnullN hx hb dX3_reading_7 ?_
    refine lv_iconst (v := (-1)) hx hb dX3_reading_10 (by decide) ?_
    refine lv_goto (tgt := 18) hx hb dX3_reading_11 (by decide) ?_
    exact ct_iret hx hb hr hlocks (by rw [HM.readingA, hs_n_out hz]) hP hS dX3_reading_18
  · have eM := hs_n_in hi (show 4 < 2 ^ 31 by decide)
    refine ct_of (cc := cX3_reading) (maxL := 3) (ret := (some .int)) rfl (by decide) (Nat.le_of_ble_eq_true rfl) ?_
    intro p e s m below meth c ls G hx hb hml hr hlocks hP hS hl
    have hl : lv_has ls 3 [(0, .ref (ad 0)), (1, .int (nI i))] := hl
    refine lv_aload_n hx hb dX3_reading_0 rfl (lv_at hl 0 rfl) ?_
    refine lv_iload_n hx hb dX3_reading_1 rfl (lv_at hl 1 rfl) ?_
    refine hs_callV (n := 1) (As := [.int (nI i)]) (rest := []) G hml (c_nodeAt l D cy ad ho (x) hi) gX3_reading_X3_nodeAt rfl rfl rfl (by decide +kernel) ⟨Nat.le_of_ble_eq_true rfl, Nat.le_of_ble_eq_true rfl⟩ (ci := 3) rfl rfl (hc_at_top (j := 0) (by decide)) rfl hl.1 (Nat.le_of_ble_eq_true rfl) ⟨Nat.zero_le _, Nat.zero_le _⟩ hP hS (fun _ h => h) rfl dX3_reading_2 (fun H locs hP hS _ _ => ?_)
    refine lv_astore_n (lv' := [(2, .ref (ad (5 + i))), (0, .ref (ad 0)), (1, .int (nI i))]) hx hb dX3_reading_5 rfl hl (by decide) rfl (fun ls hl => ?_)
    refine lv_aload_n hx hb dX3_reading_6 rfl (lv_at hl 0 rfl) ?_
    refine lv_ifnonnull (tgt := 14) hx hb dX3_reading_7 (by decide) ?_
    refine lv_aload_n hx hb dX3_reading_14 rfl (lv_at hl 0 rfl) ?_
    refine hc_g_noden G (in_X3_reading_X1) hP (hi) 0 (by decide) (by decide +kernel) (.int (HM.rd (x) (i))) rfl rfl dX3_reading_15 ?_
    exact ct_iret hx hb hr hlocks (by rw [HM.readingA, eM]) hP hS dX3_reading_18
theorem in_X3_clock_X3 : ∀ w ∈ u_ws RX3 TX3 6, w ∈ wsX3_clock := by decide +kernel
theorem in_X3_clock_X1 : ∀ w ∈ u_ws RX1 TX1 2, w ∈ wsX3_clock := by decide +kernel
set_option maxHeartbeats 4000000 in
set_option maxRecDepth 100000 in
/-- c_clock -/
theorem c_clock (l : Launch) (D : va_G) (cy : Nat → ClassId) (ad : Nat → Nat) (ho : hc_ok ad) (x : HM) (z : Int32) : Ct l yX3_clock wsX3_clock ({ frames := 1, cells := 0, slots := 0, locals := 21 }) D cy (hc_A ad) [.ref (ad 0), .int (z)] (hc_mem ad cy (x)) (some (.long (x.clockA z))) (hc_mem ad cy (x)) := by
  rcases hs_rng z (b := 4) (by decide) with hz | ⟨i, hi, rfl⟩
  · refine ct_of (cc := cX3_clock) (maxL := 3) (ret := (some .long)) rfl (by decide) (Nat.le_of_ble_eq_true rfl) ?_
    intro p e s m below meth c ls G hx hb hml hr hlocks hP hS hl
    have hl : lv_has ls 3 [(0, .ref (ad 0)), (1, .int (z))] := hl
    refine lv_aload_n hx hb dX3_clock_0 rfl (lv_at hl 0 rfl) ?_
    refine lv_iload_n hx hb dX3_clock_1 rfl (lv_at hl 1 rfl) ?_
    refine hs_callV (n := 1) (As := [.int (z)]) (rest := []) G hml (c_nodeAt_no l D cy ad ho (x) (z) hz) gX3_clock_X3_nodeAt rfl rfl rfl (by decide +kernel) ⟨Nat.le_of_ble_eq_true rfl, Nat.le_of_ble_eq_true rfl⟩ (ci := 3) rfl rfl (hc_at_top (j := 0) (by decide)) rfl hl.1 (Nat.le_of_ble_eq_true rfl) ⟨Nat.zero_le _, Nat.zero_le _⟩ hP hS (fun _ h => h) rfl dX3_clock_2 (fun H locs hP hS _ _ => ?_)
    refine lv_astore_nN (lv' := [(2, .null), (0, .ref (ad 0)), (1, .int (z))]) hx hb dX3_clock_5 rfl hl (by decide) rfl (fun ls hl => ?_)
    refine lv_aload_nN hx hb dX3_clock_6 rfl (lv_at hl 0 rfl) ?_
    refine lv_ifnonnullN hx hb dX3_clock_7 ?_
    refine lv_ldc2 (v := (-1)) hx hb G.2.2.2.1 (G.2.2.1 (.constantLong RX3 53 (-1)) (by decide +kernel)) dX3_clock_10 ?_
    refine lv_goto (tgt := 20) hx hb dX3_clock_13 (by decide) ?_
    exact ct_lret hx hb hr hlocks (by rw [HM.clockA, hs_n_out hz]) hP hS dX3_clock_20
  · have eM := hs_n_in hi (show 4 < 2 ^ 31 by decide)
    refine ct_of (cc := cX3_clock) (maxL := 3) (ret := (some .long)) rfl (by decide) (Nat.le_of_ble_eq_true rfl) ?_
    intro p e s m below meth c ls G hx hb hml hr hlocks hP hS hl
    have hl : lv_has ls 3 [(0, .ref (ad 0)), (1, .int (nI i))] := hl
    refine lv_aload_n hx hb dX3_clock_0 rfl (lv_at hl 0 rfl) ?_
    refine lv_iload_n hx hb dX3_clock_1 rfl (lv_at hl 1 rfl) ?_
    refine hs_callV (n := 1) (As := [.int (nI i)]) (rest := []) G hml (c_nodeAt l D cy ad ho (x) hi) gX3_clock_X3_nodeAt rfl rfl rfl (by decide +kernel) ⟨Nat.le_of_ble_eq_true rfl, Nat.le_of_ble_eq_true rfl⟩ (ci := 3) rfl rfl (hc_at_top (j := 0) (by decide)) rfl hl.1 (Nat.le_of_ble_eq_true rfl) ⟨Nat.zero_le _, Nat.zero_le _⟩ hP hS (fun _ h => h) rfl dX3_clock_2 (fun H locs hP hS _ _ => ?_)
    refine lv_astore_n (lv' := [(2, .ref (ad (5 + i))), (0, .ref (ad 0)), (1, .int (nI i))]) hx hb dX3_clock_5 rfl hl (by decide) rfl (fun ls hl => ?_)
    refine lv_aload_n hx hb dX3_clock_6 rfl (lv_at hl 0 rfl) ?_
    refine lv_ifnonnull (tgt := 16) hx hb dX3_clock_7 (by decide) ?_
    refine lv_aload_n hx hb dX3_clock_16 rfl (lv_at hl 0 rfl) ?_
    refine hc_g_noden G (in_X3_clock_X1) hP (hi) 1 (by decide) (by decide +kernel) (.long (HM.ck (x) (i))) rfl rfl dX3_clock_17 ?_
    exact ct_lret hx hb hr hlocks (by rw [HM.clockA, eM]) hP hS dX3_clock_20
theorem in_X3_state_X3 : ∀ w ∈ u_ws RX3 TX3 6, w ∈ wsX3_state := by decide +kernel
theorem in_X3_state_X2 : ∀ w ∈ u_ws RX2 TX2 9, w ∈ wsX3_state := by decide +kernel
set_option maxHeartbeats 4000000 in
set_option maxRecDepth 100000 in
/-- c_state -/
theorem c_state (l : Launch) (D : va_G) (cy : Nat → ClassId) (ad : Nat → Nat) (ho : hc_ok ad) (x : HM) (z : Int32) : Ct l yX3_state wsX3_state ({ frames := 1, cells := 0, slots := 0, locals := 21 }) D cy (hc_A ad) [.ref (ad 0), .int (z)] (hc_mem ad cy (x)) (some (.int (x.stateA z))) (hc_mem ad cy (x)) := by
  rcases hs_rng z (b := 8) (by decide) with hz | ⟨t, ht, rfl⟩
  · refine ct_of (cc := cX3_state) (maxL := 3) (ret := (some .int)) rfl (by decide) (Nat.le_of_ble_eq_true rfl) ?_
    intro p e s m below meth c ls G hx hb hml hr hlocks hP hS hl
    have hl : lv_has ls 3 [(0, .ref (ad 0)), (1, .int (z))] := hl
    refine lv_aload_n hx hb dX3_state_0 rfl (lv_at hl 0 rfl) ?_
    refine lv_iload_n hx hb dX3_state_1 rfl (lv_at hl 1 rfl) ?_
    refine hs_callV (n := 1) (As := [.int (z)]) (rest := []) G hml (c_transactionAt_no l D cy ad ho (x) (z) hz) gX3_state_X3_transactionAt rfl rfl rfl (by decide +kernel) ⟨Nat.le_of_ble_eq_true rfl, Nat.le_of_ble_eq_true rfl⟩ (ci := 3) rfl rfl (hc_at_top (j := 0) (by decide)) rfl hl.1 (Nat.le_of_ble_eq_true rfl) ⟨Nat.zero_le _, Nat.zero_le _⟩ hP hS (fun _ h => h) rfl dX3_state_2 (fun H locs hP hS _ _ => ?_)
    refine lv_astore_nN (lv' := [(2, .null), (0, .ref (ad 0)), (1, .int (z))]) hx hb dX3_state_5 rfl hl (by decide) rfl (fun ls hl => ?_)
    refine lv_aload_nN hx hb dX3_state_6 rfl (lv_at hl 0 rfl) ?_
    refine lv_ifnonnullN hx hb dX3_state_7 ?_
    refine lv_iconst (v := (-1)) hx hb dX3_state_10 (by decide) ?_
    refine lv_goto (tgt := 18) hx hb dX3_state_11 (by decide) ?_
    exact ct_iret hx hb hr hlocks (by rw [HM.stateA, hs_n_out hz]) hP hS dX3_state_18
  · have eM := hs_n_in ht (show 8 < 2 ^ 31 by decide)
    refine ct_of (cc := cX3_state) (maxL := 3) (ret := (some .int)) rfl (by decide) (Nat.le_of_ble_eq_true rfl) ?_
    intro p e s m below meth c ls G hx hb hml hr hlocks hP hS hl
    have hl : lv_has ls 3 [(0, .ref (ad 0)), (1, .int (nI t))] := hl
    refine lv_aload_n hx hb dX3_state_0 rfl (lv_at hl 0 rfl) ?_
    refine lv_iload_n hx hb dX3_state_1 rfl (lv_at hl 1 rfl) ?_
    refine hs_callV (n := 1) (As := [.int (nI t)]) (rest := []) G hml (c_transactionAt l D cy ad ho (x) ht) gX3_state_X3_transactionAt rfl rfl rfl (by decide +kernel) ⟨Nat.le_of_ble_eq_true rfl, Nat.le_of_ble_eq_true rfl⟩ (ci := 3) rfl rfl (hc_at_top (j := 0) (by decide)) rfl hl.1 (Nat.le_of_ble_eq_true rfl) ⟨Nat.zero_le _, Nat.zero_le _⟩ hP hS (fun _ h => h) rfl dX3_state_2 (fun H locs hP hS _ _ => ?_)
    refine lv_astore_n (lv' := [(2, .ref (ad (57 + t))), (0, .ref (ad 0)), (1, .int (nI t))]) hx hb dX3_state_5 rfl hl (by decide) rfl (fun ls hl => ?_)
    refine lv_aload_n hx hb dX3_state_6 rfl (lv_at hl 0 rfl) ?_
    refine lv_ifnonnull (tgt := 14) hx hb dX3_state_7 (by decide) ?_
    refine lv_aload_n hx hb dX3_state_14 rfl (lv_at hl 0 rfl) ?_
    refine hc_g_txn G (in_X3_state_X2) hP (ht) 0 (by decide) (by decide +kernel) (.int (HM.ph (x) (t))) rfl rfl dX3_state_15 ?_
    exact ct_iret hx hb hr hlocks (by rw [HM.stateA, eM]) hP hS dX3_state_18
theorem in_X3_versions_X3 : ∀ w ∈ u_ws RX3 TX3 6, w ∈ wsX3_versions := by decide +kernel
theorem in_X3_versions_X0 : ∀ w ∈ u_ws RX0 TX0 8, w ∈ wsX3_versions := by decide +kernel
set_option maxHeartbeats 4000000 in
set_option maxRecDepth 100000 in
/-- c_versions -/
theorem c_versions (l : Launch) (D : va_G) (cy : Nat → ClassId) (ad : Nat → Nat) (ho : hc_ok ad) (x : HM) (z : Int32) : Ct l yX3_versions wsX3_versions ({ frames := 1, cells := 0, slots := 0, locals := 21 }) D cy (hc_A ad) [.ref (ad 0), .int (z)] (hc_mem ad cy (x)) (some (.int (x.versionsA z))) (hc_mem ad cy (x)) := by
  rcases hs_rng z (b := 16) (by decide) with hz | ⟨k, hk, rfl⟩
  · refine ct_of (cc := cX3_versions) (maxL := 3) (ret := (some .int)) rfl (by decide) (Nat.le_of_ble_eq_true rfl) ?_
    intro p e s m below meth c ls G hx hb hml hr hlocks hP hS hl
    have hl : lv_has ls 3 [(0, .ref (ad 0)), (1, .int (z))] := hl
    refine lv_aload_n hx hb dX3_versions_0 rfl (lv_at hl 0 rfl) ?_
    refine lv_iload_n hx hb dX3_versions_1 rfl (lv_at hl 1 rfl) ?_
    refine hs_callV (n := 1) (As := [.int (z)]) (rest := []) G hml (c_keyAt_no l D cy ad ho (x) (z) hz) gX3_versions_X3_keyAt rfl rfl rfl (by decide +kernel) ⟨Nat.le_of_ble_eq_true rfl, Nat.le_of_ble_eq_true rfl⟩ (ci := 3) rfl rfl (hc_at_top (j := 0) (by decide)) rfl hl.1 (Nat.le_of_ble_eq_true rfl) ⟨Nat.zero_le _, Nat.zero_le _⟩ hP hS (fun _ h => h) rfl dX3_versions_2 (fun H locs hP hS _ _ => ?_)
    refine lv_astore_nN (lv' := [(2, .null), (0, .ref (ad 0)), (1, .int (z))]) hx hb dX3_versions_5 rfl hl (by decide) rfl (fun ls hl => ?_)
    refine lv_aload_nN hx hb dX3_versions_6 rfl (lv_at hl 0 rfl) ?_
    refine lv_ifnonnullN hx hb dX3_versions_7 ?_
    refine lv_iconst (v := (-1)) hx hb dX3_versions_10 (by decide) ?_
    refine lv_goto (tgt := 18) hx hb dX3_versions_11 (by decide) ?_
    exact ct_iret hx hb hr hlocks (by rw [HM.versionsA, hs_n_out hz]) hP hS dX3_versions_18
  · have eM := hs_n_in hk (show 16 < 2 ^ 31 by decide)
    refine ct_of (cc := cX3_versions) (maxL := 3) (ret := (some .int)) rfl (by decide) (Nat.le_of_ble_eq_true rfl) ?_
    intro p e s m below meth c ls G hx hb hml hr hlocks hP hS hl
    have hl : lv_has ls 3 [(0, .ref (ad 0)), (1, .int (nI k))] := hl
    refine lv_aload_n hx hb dX3_versions_0 rfl (lv_at hl 0 rfl) ?_
    refine lv_iload_n hx hb dX3_versions_1 rfl (lv_at hl 1 rfl) ?_
    refine hs_callV (n := 1) (As := [.int (nI k)]) (rest := []) G hml (c_keyAt l D cy ad ho (x) hk) gX3_versions_X3_keyAt rfl rfl rfl (by decide +kernel) ⟨Nat.le_of_ble_eq_true rfl, Nat.le_of_ble_eq_true rfl⟩ (ci := 3) rfl rfl (hc_at_top (j := 0) (by decide)) rfl hl.1 (Nat.le_of_ble_eq_true rfl) ⟨Nat.zero_le _, Nat.zero_le _⟩ hP hS (fun _ h => h) rfl dX3_versions_2 (fun H locs hP hS _ _ => ?_)
    refine lv_astore_n (lv' := [(2, .ref (ad (9 + k))), (0, .ref (ad 0)), (1, .int (nI k))]) hx hb dX3_versions_5 rfl hl (by decide) rfl (fun ls hl => ?_)
    refine lv_aload_n hx hb dX3_versions_6 rfl (lv_at hl 0 rfl) ?_
    refine lv_ifnonnull (tgt := 14) hx hb dX3_versions_7 (by decide) ?_
    refine lv_aload_n hx hb dX3_versions_14 rfl (lv_at hl 0 rfl) ?_
    refine hc_g_keyn G (in_X3_versions_X0) hP (hk) 4 (by decide) (by decide +kernel) (.int (nI (HM.vk (x) (k)).length)) rfl rfl dX3_versions_15 ?_
    exact ct_iret hx hb hr hlocks (by rw [HM.versionsA, eM]) hP hS dX3_versions_18
theorem in_X3_stamp_X3 : ∀ w ∈ u_ws RX3 TX3 6, w ∈ wsX3_stamp := by decide +kernel
theorem in_X3_stamp_X2 : ∀ w ∈ u_ws RX2 TX2 9, w ∈ wsX3_stamp := by decide +kernel
set_option maxHeartbeats 4000000 in
set_option maxRecDepth 100000 in
/-- c_stamp -/
theorem c_stamp (l : Launch) (D : va_G) (cy : Nat → ClassId) (ad : Nat → Nat) (ho : hc_ok ad) (x : HM) (z : Int32) : Ct l yX3_stamp wsX3_stamp ({ frames := 1, cells := 0, slots := 0, locals := 21 }) D cy (hc_A ad) [.ref (ad 0), .int (z)] (hc_mem ad cy (x)) (some (.long (x.stampA z))) (hc_mem ad cy (x)) := by
  rcases hs_rng z (b := 8) (by decide) with hz | ⟨t, ht, rfl⟩
  · refine ct_of (cc := cX3_stamp) (maxL := 3) (ret := (some .long)) rfl (by decide) (Nat.le_of_ble_eq_true rfl) ?_
    intro p e s m below meth c ls G hx hb hml hr hlocks hP hS hl
    have hl : lv_has ls 3 [(0, .ref (ad 0)), (1, .int (z))] := hl
    refine lv_aload_n hx hb dX3_stamp_0 rfl (lv_at hl 0 rfl) ?_
    refine lv_iload_n hx hb dX3_stamp_1 rfl (lv_at hl 1 rfl) ?_
    refine hs_callV (n := 1) (As := [.int (z)]) (rest := []) G hml (c_transactionAt_no l D cy ad ho (x) (z) hz) gX3_stamp_X3_transactionAt rfl rfl rfl (by decide +kernel) ⟨Nat.le_of_ble_eq_true rfl, Nat.le_of_ble_eq_true rfl⟩ (ci := 3) rfl rfl (hc_at_top (j := 0) (by decide)) rfl hl.1 (Nat.le_of_ble_eq_true rfl) ⟨Nat.zero_le _, Nat.zero_le _⟩ hP hS (fun _ h => h) rfl dX3_stamp_2 (fun H locs hP hS _ _ => ?_)
    refine lv_astore_nN (lv' := [(2, .null), (0, .ref (ad 0)), (1, .int (z))]) hx hb dX3_stamp_5 rfl hl (by decide) rfl (fun ls hl => ?_)
    refine lv_aload_nN hx hb dX3_stamp_6 rfl (lv_at hl 0 rfl) ?_
    refine lv_ifnullN (tgt := 25) hx hb dX3_stamp_7 (by decide) ?_
    refine lv_ldc2 (v := (-1)) hx hb G.2.2.2.1 (G.2.2.1 (.constantLong RX3 53 (-1)) (by decide +kernel)) dX3_stamp_25 ?_
    exact ct_lret hx hb hr hlocks (by rw [HM.stampA, hs_n_out hz]) hP hS dX3_stamp_28
  · have eM := hs_n_in ht (show 8 < 2 ^ 31 by decide)
    refine ct_of (cc := cX3_stamp) (maxL := 3) (ret := (some .long)) rfl (by decide) (Nat.le_of_ble_eq_true rfl) ?_
    intro p e s m below meth c ls G hx hb hml hr hlocks hP hS hl
    have hl : lv_has ls 3 [(0, .ref (ad 0)), (1, .int (nI t))] := hl
    refine lv_aload_n hx hb dX3_stamp_0 rfl (lv_at hl 0 rfl) ?_
    refine lv_iload_n hx hb dX3_stamp_1 rfl (lv_at hl 1 rfl) ?_
    refine hs_callV (n := 1) (As := [.int (nI t)]) (rest := []) G hml (c_transactionAt l D cy ad ho (x) ht) gX3_stamp_X3_transactionAt rfl rfl rfl (by decide +kernel) ⟨Nat.le_of_ble_eq_true rfl, Nat.le_of_ble_eq_true rfl⟩ (ci := 3) rfl rfl (hc_at_top (j := 0) (by decide)) rfl hl.1 (Nat.le_of_ble_eq_true rfl) ⟨Nat.zero_le _, Nat.zero_le _⟩ hP hS (fun _ h => h) rfl dX3_stamp_2 (fun H locs hP hS _ _ => ?_)
    refine lv_astore_n (lv' := [(2, .ref (ad (57 + t))), (0, .ref (ad 0)), (1, .int (nI t))]) hx hb dX3_stamp_5 rfl hl (by decide) rfl (fun ls hl => ?_)
    refine lv_aload_n hx hb dX3_stamp_6 rfl (lv_at hl 0 rfl) ?_
    refine lv_ifnull hx hb dX3_stamp_7 ?_
    refine lv_aload_n hx hb dX3_stamp_10 rfl (lv_at hl 0 rfl) ?_
    refine hc_g_txn G (in_X3_stamp_X2) hP (ht) 0 (by decide) (by decide +kernel) (.int (HM.ph (x) (t))) rfl rfl dX3_stamp_11 ?_
    refine lv_if_eq (tgt := 25) hx hb dX3_stamp_14 (by decide) (fun c_1 => ?_) (fun c_1 => ?_)
    · refine lv_ldc2 (v := (-1)) hx hb G.2.2.2.1 (G.2.2.1 (.constantLong RX3 53 (-1)) (by decide +kernel)) dX3_stamp_25 ?_
      have eA : x.stampA (nI t) = if x.ph t = 0 then -1 else if x.ph t = 3 then -1 else x.rs t := by rw [HM.stampA, eM]
      exact ct_lret hx hb hr hlocks (by rw [eA, if_pos c_1]) hP hS dX3_stamp_28
    · refine lv_aload_n hx hb dX3_stamp_17 rfl (lv_at hl 0 rfl) ?_
      refine hc_g_txn G (in_X3_stamp_X2) hP (ht) 0 (by decide) (by decide +kernel) (.int (HM.ph (x) (t))) rfl rfl dX3_stamp_18 ?_
      refine lv_iconst (v := 3) hx hb dX3_stamp_21 (by decide) ?_
      refine lv_icmp_ne (tgt := 29) hx hb dX3_stamp_22 (by decide) (fun c_2 => ?_) (fun c_2 => ?_)
      · refine lv_aload_n hx hb dX3_stamp_29 rfl (lv_at hl 0 rfl) ?_
        refine hc_g_txn G (in_X3_stamp_X2) hP (ht) 4 (by decide) (by decide +kernel) (.long (HM.rs (x) (t))) rfl rfl dX3_stamp_30 ?_
        have eA : x.stampA (nI t) = if x.ph t = 0 then -1 else if x.ph t = 3 then -1 else x.rs t := by rw [HM.stampA, eM]
        exact ct_lret hx hb hr hlocks (by rw [eA, if_neg c_1, if_neg c_2]) hP hS dX3_stamp_33
      · refine lv_ldc2 (v := (-1)) hx hb G.2.2.2.1 (G.2.2.1 (.constantLong RX3 53 (-1)) (by decide +kernel)) dX3_stamp_25 ?_
        have eA : x.stampA (nI t) = if x.ph t = 0 then -1 else if x.ph t = 3 then -1 else x.rs t := by rw [HM.stampA, eM]
        exact ct_lret hx hb hr hlocks (by rw [eA, if_neg c_1, if_pos c_2]) hP hS dX3_stamp_28
theorem in_X3_tick_X3 : ∀ w ∈ u_ws RX3 TX3 6, w ∈ wsX3_tick := by decide +kernel
theorem in_X3_tick_X1 : ∀ w ∈ u_ws RX1 TX1 2, w ∈ wsX3_tick := by decide +kernel
set_option maxHeartbeats 4000000 in
set_option maxRecDepth 100000 in
/-- c_tick -/
theorem c_tick (l : Launch) (D : va_G) (cy : Nat → ClassId) (ad : Nat → Nat) (ho : hc_ok ad) (x : HM) (z : Int32) (r : Int32) : Ct l yX3_tick wsX3_tick ({ frames := 3, cells := 0, slots := 0, locals := 70 }) D cy (hc_A ad) [.ref (ad 0), .int (z), .int (r)] (hc_mem ad cy (x)) (some (.int (x.tickA z r))) (hc_mem ad cy (x.tickM z r)) := by
  rcases hs_rng z (b := 4) (by decide) with hz | ⟨i, hi, rfl⟩
  · refine ct_of (cc := cX3_tick) (maxL := 4) (ret := (some .int)) rfl (by decide) (Nat.le_of_ble_eq_true rfl) ?_
    intro p e s m below meth c ls G hx hb hml hr hlocks hP hS hl
    have hl : lv_has ls 4 [(0, .ref (ad 0)), (1, .int (z)), (2, .int (r))] := hl
    refine lv_aload_n hx hb dX3_tick_0 rfl (lv_at hl 0 rfl) ?_
    refine lv_iload_n hx hb dX3_tick_1 rfl (lv_at hl 1 rfl) ?_
    refine hs_callV (n := 1) (As := [.int (z)]) (rest := []) G hml (c_nodeAt_no l D cy ad ho (x) (z) hz) gX3_tick_X3_nodeAt rfl rfl rfl (by decide +kernel) ⟨Nat.le_of_ble_eq_true rfl, Nat.le_of_ble_eq_true rfl⟩ (ci := 3) rfl rfl (hc_at_top (j := 0) (by decide)) rfl hl.1 (Nat.le_of_ble_eq_true rfl) ⟨Nat.zero_le _, Nat.zero_le _⟩ hP hS (fun _ h => h) rfl dX3_tick_2 (fun H locs hP hS _ _ => ?_)
    refine lv_astore_nN (lv' := [(3, .null), (0, .ref (ad 0)), (1, .int (z)), (2, .int (r))]) hx hb dX3_tick_5 rfl hl (by decide) rfl (fun ls hl => ?_)
    refine lv_aload_nN hx hb dX3_tick_6 rfl (lv_at hl 0 rfl) ?_
    refine lv_ifnonnullN hx hb dX3_tick_7 ?_
    refine lv_iconst (v := (-1)) hx hb dX3_tick_10 (by decide) ?_
    exact ct_iret hx hb hr hlocks (by rw [HM.tickA, hs_n_out hz]) (by rw [HM.tickM, hs_n_out hz]; exact hP) hS dX3_tick_11
  · have eM := hs_n_in hi (show 4 < 2 ^ 31 by decide)
    refine ct_of (cc := cX3_tick) (maxL := 4) (ret := (some .int)) rfl (by decide) (Nat.le_of_ble_eq_true rfl) ?_
    intro p e s m below meth c ls G hx hb hml hr hlocks hP hS hl
    have hl : lv_has ls 4 [(0, .ref (ad 0)), (1, .int (nI i)), (2, .int (r))] := hl
    refine lv_aload_n hx hb dX3_tick_0 rfl (lv_at hl 0 rfl) ?_
    refine lv_iload_n hx hb dX3_tick_1 rfl (lv_at hl 1 rfl) ?_
    refine hs_callV (n := 1) (As := [.int (nI i)]) (rest := []) G hml (c_nodeAt l D cy ad ho (x) hi) gX3_tick_X3_nodeAt rfl rfl rfl (by decide +kernel) ⟨Nat.le_of_ble_eq_true rfl, Nat.le_of_ble_eq_true rfl⟩ (ci := 3) rfl rfl (hc_at_top (j := 0) (by decide)) rfl hl.1 (Nat.le_of_ble_eq_true rfl) ⟨Nat.zero_le _, Nat.zero_le _⟩ hP hS (fun _ h => h) rfl dX3_tick_2 (fun H locs hP hS _ _ => ?_)
    refine lv_astore_n (lv' := [(3, .ref (ad (5 + i))), (0, .ref (ad 0)), (1, .int (nI i)), (2, .int (r))]) hx hb dX3_tick_5 rfl hl (by decide) rfl (fun ls hl => ?_)
    refine lv_aload_n hx hb dX3_tick_6 rfl (lv_at hl 0 rfl) ?_
    refine lv_ifnonnull (tgt := 12) hx hb dX3_tick_7 (by decide) ?_
    refine lv_iload_n hx hb dX3_tick_12 rfl (lv_at hl 3 rfl) ?_
    refine lv_aload_n hx hb dX3_tick_13 rfl (lv_at hl 0 rfl) ?_
    refine hc_g_noden G (in_X3_tick_X1) hP (hi) 0 (by decide) (by decide +kernel) (.int (HM.rd (x) (i))) rfl rfl dX3_tick_14 ?_
    refine lv_icmp_lt (tgt := 29) hx hb dX3_tick_17 (by decide) (fun c_1 => ?_) (fun c_1 => ?_)
    · refine lv_bipush (v := (-2)) hx hb dX3_tick_29 (by decide) ?_
      have eA : x.tickA (nI i) r = if r < x.rd i then -2 else if hs_ra x.rd i r 4 0 then -2 else 0 := by rw [HM.tickA, eM]
      have eB : x.tickM (nI i) r = if r < x.rd i then x else if hs_ra x.rd i r 4 0 then x else (x.u_rd i r).ev i := by rw [HM.tickM, eM]
      exact ct_iret hx hb hr hlocks (by rw [eA, if_pos c_1]) (by rw [eB, if_pos c_1]; exact hP) hS dX3_tick_31
    · refine lv_aload_n hx hb dX3_tick_20 rfl (lv_at hl 1 rfl) ?_
      refine lv_aload_n hx hb dX3_tick_21 rfl (lv_at hl 0 rfl) ?_
      refine lv_iload_n hx hb dX3_tick_22 rfl (lv_at hl 3 rfl) ?_
      refine hs_callV (n := 2) (As := [.ref (ad (5 + i)), .int (r)]) (rest := []) G hml (c_runsAhead l D cy ad ho (x) (hi) (r)) gX3_tick_X3_runsAhead rfl rfl rfl (by decide +kernel) ⟨Nat.le_of_ble_eq_true rfl, Nat.le_of_ble_eq_true rfl⟩ (ci := 3) rfl rfl (hc_at_top (j := 0) (by decide)) rfl hl.1 (Nat.le_of_ble_eq_true rfl) ⟨Nat.zero_le _, Nat.zero_le _⟩ hP hS (fun _ h => h) rfl dX3_tick_23 (fun H locs hP hS _ _ => ?_)
      refine lv_if_eq (tgt := 32) hx hb dX3_tick_26 (by decide) (fun c_2 => ?_) (fun c_2 => ?_)
      · have hra : hs_ra x.rd i r 4 0 = false := by
          cases hq : hs_ra x.rd i r 4 0 with
          | false => rfl
          | true => rw [hq] at c_2; exact absurd c_2 (by decide)
        refine lv_aload_n hx hb dX3_tick_32 rfl (lv_at hl 0 rfl) ?_
        refine lv_iload_n hx hb dX3_tick_33 rfl (lv_at hl 3 rfl) ?_
        refine hc_p_noden ho G (in_X3_tick_X1) hP hS (hi) 0 (by decide) (by decide +kernel) (.int (r)) rfl rfl (.int) (by decide +kernel) rfl rfl (Nat.le_of_ble_eq_true rfl) (HM.u_rd (x) (i) (r)) (hc_s_rd (v := r) (hi)) dX3_tick_34 (fun H locs hP hS => ?_)
        refine lv_aload_n hx hb dX3_tick_37 rfl (lv_at hl 0 rfl) ?_
        refine hs_callN (n := 0) (As := []) (rest := []) G hml (c_haveEvent l D cy ad ho (HM.u_rd (x) (i) (r)) (hi)) gX3_tick_X1_haveEvent_n50 rfl rfl rfl (by decide +kernel) (by decide +kernel) (by decide +kernel) (C := RX1) (by decide +kernel) (by decide +kernel) ⟨Nat.le_of_ble_eq_true rfl, Nat.le_of_ble_eq_true rfl⟩ (ci := 1) rfl rfl (hc_at_node (hi)) rfl hl.1 (Nat.le_of_ble_eq_true rfl) ⟨Nat.zero_le _, Nat.zero_le _⟩ hP hS (fun _ h => h) rfl dX3_tick_38 (fun H locs hP hS _ _ => ?_)
        refine lv_iconst (v := 0) hx hb dX3_tick_41 (by decide) ?_
        have eA : x.tickA (nI i) r = if r < x.rd i then -2 else if hs_ra x.rd i r 4 0 then -2 else 0 := by rw [HM.tickA, eM]
        have eB : x.tickM (nI i) r = if r < x.rd i then x else if hs_ra x.rd i r 4 0 then x else (x.u_rd i r).ev i := by rw [HM.tickM, eM]
        exact ct_iret hx hb hr hlocks (by rw [eA, if_neg c_1, if_neg (by rw [hra]; decide)]) (by rw [eB, if_neg c_1, if_neg (by rw [hra]; decide)]; exact hP) hS dX3_tick_42
      · have hra : hs_ra x.rd i r 4 0 = true := by
          cases hq : hs_ra x.rd i r 4 0 with
          | true => rfl
          | false => rw [hq] at c_2; exact absurd rfl c_2
        refine lv_bipush (v := (-2)) hx hb dX3_tick_29 (by decide) ?_
        have eA : x.tickA (nI i) r = if r < x.rd i then -2 else if hs_ra x.rd i r 4 0 then -2 else 0 := by rw [HM.tickA, eM]
        have eB : x.tickM (nI i) r = if r < x.rd i then x else if hs_ra x.rd i r 4 0 then x else (x.u_rd i r).ev i := by rw [HM.tickM, eM]
        exact ct_iret hx hb hr hlocks (by rw [eA, if_neg c_1, if_pos hra]) (by rw [eB, if_neg c_1, if_pos hra]; exact hP) hS dX3_tick_31
theorem in_X3_begin_X3 : ∀ w ∈ u_ws RX3 TX3 6, w ∈ wsX3_begin := by decide +kernel
theorem in_X3_begin_X1 : ∀ w ∈ u_ws RX1 TX1 2, w ∈ wsX3_begin := by decide +kernel
theorem in_X3_begin_X2 : ∀ w ∈ u_ws RX2 TX2 9, w ∈ wsX3_begin := by decide +kernel
set_option maxHeartbeats 4000000 in
set_option maxRecDepth 100000 in
/-- c_begin -/
theorem c_begin (l : Launch) (D : va_G) (cy : Nat → ClassId) (ad : Nat → Nat) (ho : hc_ok ad) (x : HM) (z : Int32) : Ct l yX3_begin wsX3_begin ({ frames := 3, cells := 0, slots := 0, locals := 70 }) D cy (hc_A ad) [.ref (ad 0), .int (z)] (hc_mem ad cy (x)) (some (.int (x.beginA z))) (hc_mem ad cy (x.beginM z)) := by
  rcases hs_rng z (b := 4) (by decide) with hz | ⟨i, hi, rfl⟩
  · refine ct_of (cc := cX3_begin) (maxL := 4) (ret := (some .int)) rfl (by decide) (Nat.le_of_ble_eq_true rfl) ?_
    intro p e s m below meth c ls G hx hb hml hr hlocks hP hS hl
    have hl : lv_has ls 4 [(0, .ref (ad 0)), (1, .int (z))] := hl
    refine lv_aload_n hx hb dX3_begin_0 rfl (lv_at hl 0 rfl) ?_
    refine lv_iload_n hx hb dX3_begin_1 rfl (lv_at hl 1 rfl) ?_
    refine hs_callV (n := 1) (As := [.int (z)]) (rest := []) G hml (c_nodeAt_no l D cy ad ho (x) (z) hz) gX3_begin_X3_nodeAt rfl rfl rfl (by decide +kernel) ⟨Nat.le_of_ble_eq_true rfl, Nat.le_of_ble_eq_true rfl⟩ (ci := 3) rfl rfl (hc_at_top (j := 0) (by decide)) rfl hl.1 (Nat.le_of_ble_eq_true rfl) ⟨Nat.zero_le _, Nat.zero_le _⟩ hP hS (fun _ h => h) rfl dX3_begin_2 (fun H locs hP hS _ _ => ?_)
    refine lv_astore_nN (lv' := [(2, .null), (0, .ref (ad 0)), (1, .int (z))]) hx hb dX3_begin_5 rfl hl (by decide) rfl (fun ls hl => ?_)
    refine lv_aload_nN hx hb dX3_begin_6 rfl (lv_at hl 0 rfl) ?_
    refine lv_ifnonnullN hx hb dX3_begin_7 ?_
    refine lv_iconst (v := (-1)) hx hb dX3_begin_10 (by decide) ?_
    exact ct_iret hx hb hr hlocks (by rw [HM.beginA, hs_n_out hz]) (by rw [HM.beginM, hs_n_out hz]; exact hP) hS dX3_begin_11
  · have eM := hs_n_in hi (show 4 < 2 ^ 31 by decide)
    refine ct_of (cc := cX3_begin) (maxL := 4) (ret := (some .int)) rfl (by decide) (Nat.le_of_ble_eq_true rfl) ?_
    intro p e s m below meth c ls G hx hb hml hr hlocks hP hS hl
    have hl : lv_has ls 4 [(0, .ref (ad 0)), (1, .int (nI i))] := hl
    refine lv_aload_n hx hb dX3_begin_0 rfl (lv_at hl 0 rfl) ?_
    refine lv_iload_n hx hb dX3_begin_1 rfl (lv_at hl 1 rfl) ?_
    refine hs_callV (n := 1) (As := [.int (nI i)]) (rest := []) G hml (c_nodeAt l D cy ad ho (x) hi) gX3_begin_X3_nodeAt rfl rfl rfl (by decide +kernel) ⟨Nat.le_of_ble_eq_true rfl, Nat.le_of_ble_eq_true rfl⟩ (ci := 3) rfl rfl (hc_at_top (j := 0) (by decide)) rfl hl.1 (Nat.le_of_ble_eq_true rfl) ⟨Nat.zero_le _, Nat.zero_le _⟩ hP hS (fun _ h => h) rfl dX3_begin_2 (fun H locs hP hS _ _ => ?_)
    refine lv_astore_n (lv' := [(2, .ref (ad (5 + i))), (0, .ref (ad 0)), (1, .int (nI i))]) hx hb dX3_begin_5 rfl hl (by decide) rfl (fun ls hl => ?_)
    refine lv_aload_n hx hb dX3_begin_6 rfl (lv_at hl 0 rfl) ?_
    refine lv_ifnonnull (tgt := 12) hx hb dX3_begin_7 (by decide) ?_
    refine lv_aload_n hx hb dX3_begin_12 rfl (lv_at hl 1 rfl) ?_
    refine hs_callV (n := 0) (As := []) (rest := []) G hml (c_leastFree l D cy ad ho (x)) gX3_begin_X3_leastFreeSlot rfl rfl rfl (by decide +kernel) ⟨Nat.le_of_ble_eq_true rfl, Nat.le_of_ble_eq_true rfl⟩ (ci := 3) rfl rfl (hc_at_top (j := 0) (by decide)) rfl hl.1 (Nat.le_of_ble_eq_true rfl) ⟨Nat.zero_le _, Nat.zero_le _⟩ hP hS (fun _ h => h) rfl dX3_begin_13 (fun H locs hP hS _ _ => ?_)
    refine lv_istore_n (lv' := [(3, .int (hs_ix (hs_fr (HM.ph (x)) 8 0))), (2, .ref (ad (5 + i))), (0, .ref (ad 0)), (1, .int (nI i))]) hx hb dX3_begin_16 rfl hl (by decide) rfl (fun ls hl => ?_)
    refine lv_iload_n hx hb dX3_begin_17 rfl (lv_at hl 0 rfl) ?_
    refine lv_iconst (v := (-1)) hx hb dX3_begin_18 (by decide) ?_
    refine lv_icmp_ne (tgt := 25) hx hb dX3_begin_19 (by decide) (fun c_1 => ?_) (fun c_1 => ?_)
    · obtain ⟨t, hft⟩ : ∃ t, hs_fr x.ph 8 0 = some t := by
        cases hq : hs_fr x.ph 8 0 with
        | none => rw [hq] at c_1; exact absurd rfl c_1
        | some t => exact ⟨t, rfl⟩
      have ht : t < 8 := hs_fr_lt hft
      have hjx : hs_ix (hs_fr (HM.ph x) 8 0) = nI t := by rw [hft]; rfl
      refine lv_aload_n hx hb dX3_begin_25 rfl (lv_at hl 1 rfl) ?_
      refine hs_callN (n := 0) (As := []) (rest := []) G hml (c_haveEvent l D cy ad ho (x) (hi)) gX3_begin_X1_haveEvent_n50 rfl rfl rfl (by decide +kernel) (by decide +kernel) (by decide +kernel) (C := RX1) (by decide +kernel) (by decide +kernel) ⟨Nat.le_of_ble_eq_true rfl, Nat.le_of_ble_eq_true rfl⟩ (ci := 1) rfl rfl (hc_at_node (hi)) rfl hl.1 (Nat.le_of_ble_eq_true rfl) ⟨Nat.zero_le _, Nat.zero_le _⟩ hP hS (fun _ h => h) rfl dX3_begin_26 (fun H locs hP hS _ _ => ?_)
      refine lv_aload_n hx hb dX3_begin_29 rfl (lv_at hl 2 rfl) ?_
      refine hc_g_store G (in_X3_begin_X3) hP 2 (by decide) (by decide +kernel) (.ref (ad 3)) rfl rfl dX3_begin_30 ?_
      refine lv_iload_n hx hb dX3_begin_33 rfl (lv_at hl 0 rfl) ?_
      refine va_aldq hx hb G.2.2.2.2.1 hP 3 5 (hc_at_top (by decide)) rfl (hs_in (k := t) (n := 8) (by rw [hjx]; exact nI_clamp (by omega)) (by rw [hjx]; exact hs_inN (by omega) (by decide))) dX3_begin_34 ?_
      rw [show Int32.toNatClampNeg (hs_ix (hs_fr (HM.ph (x)) 8 0)) = t from by rw [hjx]; exact nI_clamp (by omega)]
      show W _ _ _ _ _ _ _ _ _ _ _ _ _ _ _ (F0 m (34 + 1) ls (.ref (ad (57 + t)) :: []))
      refine lv_aload_n hx hb dX3_begin_35 rfl (lv_at hl 1 rfl) ?_
      refine lv_aload_n hx hb dX3_begin_36 rfl (lv_at hl 2 rfl) ?_
      refine hc_g_store G (in_X3_begin_X3) hP 5 (by decide) (by decide +kernel) (.int (nI (HM.bs (HM.ev (x) (i))))) rfl rfl dX3_begin_37 ?_
      refine hs_callN (n := 2) (As := [.ref (ad (5 + i)), .int (nI (HM.bs (HM.ev (x) (i))))]) (rest := []) G hml (c_start l D cy ad ho (HM.ev (x) (i)) (ht) (hi) (HM.bs x)) gX3_begin_X2_start_n66 rfl rfl rfl (by decide +kernel) (by decide +kernel) (by decide +kernel) (C := RX2) (by decide +kernel) (by decide +kernel) ⟨Nat.le_of_ble_eq_true rfl, Nat.le_of_ble_eq_true rfl⟩ (ci := 2) rfl rfl (hc_at_tx (ht)) rfl hl.1 (Nat.le_of_ble_eq_true rfl) ⟨Nat.zero_le _, Nat.zero_le _⟩ hP hS (fun _ h => h) rfl dX3_begin_40 (fun H locs hP hS _ _ => ?_)
      refine lv_aload_n hx hb dX3_begin_43 rfl (lv_at hl 2 rfl) ?_
      refine lv_dup hx hb dX3_begin_44 rfl ?_
      refine hc_g_store G (in_X3_begin_X3) hP 5 (by decide) (by decide +kernel) (.int (nI (HM.bs (HM.beg (HM.ev (x) (i)) (t) (i) (HM.bs x))))) rfl rfl dX3_begin_45 ?_
      refine lv_iconst (v := 1) hx hb dX3_begin_48 (by decide) ?_
      refine lv_iadd hx hb dX3_begin_49 ?_
      rw [nI_1]
      refine hc_p_store ho G (in_X3_begin_X3) hP hS 5 (by decide) (by decide +kernel) (.int (nI (HM.bs x + 1))) rfl rfl (.int) (by decide +kernel) rfl rfl (Nat.le_of_ble_eq_true rfl) (HM.s_bs (HM.beg (HM.ev (x) (i)) (t) (i) (HM.bs x)) (HM.bs x + 1)) hc_s_bs dX3_begin_50 (fun H locs hP hS => ?_)
      refine lv_iload_n hx hb dX3_begin_53 rfl (lv_at hl 0 rfl) ?_
      exact ct_iret hx hb hr hlocks (by rw [HM.beginA, eM, hft]; rfl) (by rw [HM.beginM, eM, hft]; exact hP) hS dX3_begin_54
    · have hft : hs_fr x.ph 8 0 = none := by
        cases hq : hs_fr x.ph 8 0 with
        | none => rfl
        | some t => rw [hq] at c_1; exact absurd c_1 (hs_nI_m1 (by have := hs_fr_lt hq; omega))
      refine lv_bipush (v := (-3)) hx hb dX3_begin_22 (by decide) ?_
      exact ct_iret hx hb hr hlocks (by rw [HM.beginA, eM, hft]) (by rw [HM.beginM, eM, hft]; exact hP) hS dX3_begin_24
theorem in_X3_abort_X3 : ∀ w ∈ u_ws RX3 TX3 6, w ∈ wsX3_abort := by decide +kernel
theorem in_X3_abort_X2 : ∀ w ∈ u_ws RX2 TX2 9, w ∈ wsX3_abort := by decide +kernel
set_option maxHeartbeats 4000000 in
set_option maxRecDepth 100000 in
/-- c_abort -/
theorem c_abort (l : Launch) (D : va_G) (cy : Nat → ClassId) (ad : Nat → Nat) (ho : hc_ok ad) (x : HM) (z : Int32) : Ct l yX3_abort wsX3_abort ({ frames := 1, cells := 0, slots := 0, locals := 21 }) D cy (hc_A ad) [.ref (ad 0), .int (z)] (hc_mem ad cy (x)) (some (.int (x.codeA z))) (hc_mem ad cy (x.abortM z)) := by
  rcases hs_rng z (b := 8) (by decide) with hz | ⟨t, ht, rfl⟩
  · refine ct_of (cc := cX3_abort) (maxL := 4) (ret := (some .int)) rfl (by decide) (Nat.le_of_ble_eq_true rfl) ?_
    intro p e s m below meth c ls G hx hb hml hr hlocks hP hS hl
    have hl : lv_has ls 4 [(0, .ref (ad 0)), (1, .int (z))] := hl
    refine lv_aload_n hx hb dX3_abort_0 rfl (lv_at hl 0 rfl) ?_
    refine lv_iload_n hx hb dX3_abort_1 rfl (lv_at hl 1 rfl) ?_
    refine hs_callV (n := 1) (As := [.int (z)]) (rest := []) G hml (c_transactionAt_no l D cy ad ho (x) (z) hz) gX3_abort_X3_transactionAt rfl rfl rfl (by decide +kernel) ⟨Nat.le_of_ble_eq_true rfl, Nat.le_of_ble_eq_true rfl⟩ (ci := 3) rfl rfl (hc_at_top (j := 0) (by decide)) rfl hl.1 (Nat.le_of_ble_eq_true rfl) ⟨Nat.zero_le _, Nat.zero_le _⟩ hP hS (fun _ h => h) rfl dX3_abort_2 (fun H locs hP hS _ _ => ?_)
    refine lv_astore_nN (lv' := [(2, .null), (0, .ref (ad 0)), (1, .int (z))]) hx hb dX3_abort_5 rfl hl (by decide) rfl (fun ls hl => ?_)
    refine lv_aload_nN hx hb dX3_abort_6 rfl (lv_at hl 0 rfl) ?_
    refine lv_ifnonnullN hx hb dX3_abort_7 ?_
    refine lv_iconst (v := (-1)) hx hb dX3_abort_10 (by decide) ?_
    exact ct_iret hx hb hr hlocks (by rw [HM.codeA, hs_n_out hz]) (by rw [HM.abortM, hs_n_out hz]; exact hP) hS dX3_abort_11
  · have eM := hs_n_in ht (show 8 < 2 ^ 31 by decide)
    refine ct_of (cc := cX3_abort) (maxL := 4) (ret := (some .int)) rfl (by decide) (Nat.le_of_ble_eq_true rfl) ?_
    intro p e s m below meth c ls G hx hb hml hr hlocks hP hS hl
    have hl : lv_has ls 4 [(0, .ref (ad 0)), (1, .int (nI t))] := hl
    refine lv_aload_n hx hb dX3_abort_0 rfl (lv_at hl 0 rfl) ?_
    refine lv_iload_n hx hb dX3_abort_1 rfl (lv_at hl 1 rfl) ?_
    refine hs_callV (n := 1) (As := [.int (nI t)]) (rest := []) G hml (c_transactionAt l D cy ad ho (x) ht) gX3_abort_X3_transactionAt rfl rfl rfl (by decide +kernel) ⟨Nat.le_of_ble_eq_true rfl, Nat.le_of_ble_eq_true rfl⟩ (ci := 3) rfl rfl (hc_at_top (j := 0) (by decide)) rfl hl.1 (Nat.le_of_ble_eq_true rfl) ⟨Nat.zero_le _, Nat.zero_le _⟩ hP hS (fun _ h => h) rfl dX3_abort_2 (fun H locs hP hS _ _ => ?_)
    refine lv_astore_n (lv' := [(2, .ref (ad (57 + t))), (0, .ref (ad 0)), (1, .int (nI t))]) hx hb dX3_abort_5 rfl hl (by decide) rfl (fun ls hl => ?_)
    refine lv_aload_n hx hb dX3_abort_6 rfl (lv_at hl 0 rfl) ?_
    refine lv_ifnonnull (tgt := 12) hx hb dX3_abort_7 (by decide) ?_
    refine lv_aload_n hx hb dX3_abort_12 rfl (lv_at hl 0 rfl) ?_
    refine hs_callN (n := 0) (As := []) (rest := []) G hml (c_codeOfState l D cy ad ho (x) (ht)) gX3_abort_X2_codeOfState_n124 rfl rfl rfl (by decide +kernel) (by decide +kernel) (by decide +kernel) (C := RX2) (by decide +kernel) (by decide +kernel) ⟨Nat.le_of_ble_eq_true rfl, Nat.le_of_ble_eq_true rfl⟩ (ci := 2) rfl rfl (hc_at_tx (ht)) rfl hl.1 (Nat.le_of_ble_eq_true rfl) ⟨Nat.zero_le _, Nat.zero_le _⟩ hP hS (fun _ h => h) rfl dX3_abort_13 (fun H locs hP hS _ _ => ?_)
    refine lv_istore_n (lv' := [(3, .int (HM.code (x) (t))), (2, .ref (ad (57 + t))), (0, .ref (ad 0)), (1, .int (nI t))]) hx hb dX3_abort_16 rfl hl (by decide) rfl (fun ls hl => ?_)
    refine lv_iload_n hx hb dX3_abort_17 rfl (lv_at hl 0 rfl) ?_
    refine lv_if_ne (tgt := 26) hx hb dX3_abort_18 (by decide) (fun c_1 => ?_) (fun c_1 => ?_)
    · refine lv_iload_n hx hb dX3_abort_26 rfl (lv_at hl 0 rfl) ?_
      have eB : x.abortM (nI t) = if x.code t = 0 then x.u_ph t 3 else x := by rw [HM.abortM, eM]
      exact ct_iret hx hb hr hlocks (by rw [HM.codeA, eM]) (by rw [eB, if_neg c_1]; exact hP) hS dX3_abort_27
    · refine lv_aload_n hx hb dX3_abort_21 rfl (lv_at hl 1 rfl) ?_
      refine lv_iconst (v := 3) hx hb dX3_abort_22 (by decide) ?_
      refine hc_p_txn ho G (in_X3_abort_X2) hP hS (ht) 0 (by decide) (by decide +kernel) (.int (3)) rfl rfl (.int) (by decide +kernel) rfl rfl (Nat.le_of_ble_eq_true rfl) (HM.u_ph (x) (t) (3)) (hc_s_ph (v := 3) (ht)) dX3_abort_23 (fun H locs hP hS => ?_)
      refine lv_iload_n hx hb dX3_abort_26 rfl (lv_at hl 0 rfl) ?_
      have eB : x.abortM (nI t) = if x.code t = 0 then x.u_ph t 3 else x := by rw [HM.abortM, eM]
      exact ct_iret hx hb hr hlocks (by rw [HM.codeA, eM]) (by rw [eB, if_pos c_1]; exact hP) hS dX3_abort_27
theorem in_X3_heartbeat_X3 : ∀ w ∈ u_ws RX3 TX3 6, w ∈ wsX3_heartbeat := by decide +kernel
theorem in_X3_heartbeat_X2 : ∀ w ∈ u_ws RX2 TX2 9, w ∈ wsX3_heartbeat := by decide +kernel
theorem in_X3_heartbeat_X1 : ∀ w ∈ u_ws RX1 TX1 2, w ∈ wsX3_heartbeat := by decide +kernel
set_option maxHeartbeats 4000000 in
set_option maxRecDepth 100000 in
/-- c_heartbeat -/
theorem c_heartbeat (l : Launch) (D : va_G) (cy : Nat → ClassId) (ad : Nat → Nat) (ho : hc_ok ad) (x : HM) (B : Int) (hIn : x.In B) (z : Int32) : Ct l yX3_heartbeat wsX3_heartbeat ({ frames := 3, cells := 0, slots := 0, locals := 70 }) D cy (hc_A ad) [.ref (ad 0), .int (z)] (hc_mem ad cy (x)) (some (.int (x.codeA z))) (hc_mem ad cy (x.heartM z)) := by
  rcases hs_rng z (b := 8) (by decide) with hz | ⟨t, ht, rfl⟩
  · refine ct_of (cc := cX3_heartbeat) (maxL := 4) (ret := (some .int)) rfl (by decide) (Nat.le_of_ble_eq_true rfl) ?_
    intro p e s m below meth c ls G hx hb hml hr hlocks hP hS hl
    have hl : lv_has ls 4 [(0, .ref (ad 0)), (1, .int (z))] := hl
    refine lv_aload_n hx hb dX3_heartbeat_0 rfl (lv_at hl 0 rfl) ?_
    refine lv_iload_n hx hb dX3_heartbeat_1 rfl (lv_at hl 1 rfl) ?_
    refine hs_callV (n := 1) (As := [.int (z)]) (rest := []) G hml (c_transactionAt_no l D cy ad ho (x) (z) hz) gX3_heartbeat_X3_transactionAt rfl rfl rfl (by decide +kernel) ⟨Nat.le_of_ble_eq_true rfl, Nat.le_of_ble_eq_true rfl⟩ (ci := 3) rfl rfl (hc_at_top (j := 0) (by decide)) rfl hl.1 (Nat.le_of_ble_eq_true rfl) ⟨Nat.zero_le _, Nat.zero_le _⟩ hP hS (fun _ h => h) rfl dX3_heartbeat_2 (fun H locs hP hS _ _ => ?_)
    refine lv_astore_nN (lv' := [(2, .null), (0, .ref (ad 0)), (1, .int (z))]) hx hb dX3_heartbeat_5 rfl hl (by decide) rfl (fun ls hl => ?_)
    refine lv_aload_nN hx hb dX3_heartbeat_6 rfl (lv_at hl 0 rfl) ?_
    refine lv_ifnonnullN hx hb dX3_heartbeat_7 ?_
    refine lv_iconst (v := (-1)) hx hb dX3_heartbeat_10 (by decide) ?_
    exact ct_iret hx hb hr hlocks (by rw [HM.codeA, hs_n_out hz]) (by rw [HM.heartM, hs_n_out hz]; exact hP) hS dX3_heartbeat_11
  · have eM := hs_n_in ht (show 8 < 2 ^ 31 by decide)
    refine ct_of (cc := cX3_heartbeat) (maxL := 4) (ret := (some .int)) rfl (by decide) (Nat.le_of_ble_eq_true rfl) ?_
    intro p e s m below meth c ls G hx hb hml hr hlocks hP hS hl
    have hl : lv_has ls 4 [(0, .ref (ad 0)), (1, .int (nI t))] := hl
    refine lv_aload_n hx hb dX3_heartbeat_0 rfl (lv_at hl 0 rfl) ?_
    refine lv_iload_n hx hb dX3_heartbeat_1 rfl (lv_at hl 1 rfl) ?_
    refine hs_callV (n := 1) (As := [.int (nI t)]) (rest := []) G hml (c_transactionAt l D cy ad ho (x) ht) gX3_heartbeat_X3_transactionAt rfl rfl rfl (by decide +kernel) ⟨Nat.le_of_ble_eq_true rfl, Nat.le_of_ble_eq_true rfl⟩ (ci := 3) rfl rfl (hc_at_top (j := 0) (by decide)) rfl hl.1 (Nat.le_of_ble_eq_true rfl) ⟨Nat.zero_le _, Nat.zero_le _⟩ hP hS (fun _ h => h) rfl dX3_heartbeat_2 (fun H locs hP hS _ _ => ?_)
    refine lv_astore_n (lv' := [(2, .ref (ad (57 + t))), (0, .ref (ad 0)), (1, .int (nI t))]) hx hb dX3_heartbeat_5 rfl hl (by decide) rfl (fun ls hl => ?_)
    refine lv_aload_n hx hb dX3_heartbeat_6 rfl (lv_at hl 0 rfl) ?_
    refine lv_ifnonnull (tgt := 12) hx hb dX3_heartbeat_7 (by decide) ?_
    refine lv_aload_n hx hb dX3_heartbeat_12 rfl (lv_at hl 0 rfl) ?_
    refine hs_callN (n := 0) (As := []) (rest := []) G hml (c_codeOfState l D cy ad ho (x) (ht)) gX3_heartbeat_X2_codeOfState_n124 rfl rfl rfl (by decide +kernel) (by decide +kernel) (by decide +kernel) (C := RX2) (by decide +kernel) (by decide +kernel) ⟨Nat.le_of_ble_eq_true rfl, Nat.le_of_ble_eq_true rfl⟩ (ci := 2) rfl rfl (hc_at_tx (ht)) rfl hl.1 (Nat.le_of_ble_eq_true rfl) ⟨Nat.zero_le _, Nat.zero_le _⟩ hP hS (fun _ h => h) rfl dX3_heartbeat_13 (fun H locs hP hS _ _ => ?_)
    refine lv_istore_n (lv' := [(3, .int (HM.code (x) (t))), (2, .ref (ad (57 + t))), (0, .ref (ad 0)), (1, .int (nI t))]) hx hb dX3_heartbeat_16 rfl hl (by decide) rfl (fun ls hl => ?_)
    refine lv_iload_n hx hb dX3_heartbeat_17 rfl (lv_at hl 0 rfl) ?_
    refine lv_if_ne (tgt := 39) hx hb dX3_heartbeat_18 (by decide) (fun c_1 => ?_) (fun c_1 => ?_)
    · refine lv_iload_n hx hb dX3_heartbeat_39 rfl (lv_at hl 0 rfl) ?_
      have eB : x.heartM (nI t) = if x.code t = 0 then (x.ev (x.gt t)).beat t else x := by rw [HM.heartM, eM]
      exact ct_iret hx hb hr hlocks (by rw [HM.codeA, eM]) (by rw [eB, if_neg c_1]; exact hP) hS dX3_heartbeat_40
    · refine lv_aload_n hx hb dX3_heartbeat_21 rfl (lv_at hl 1 rfl) ?_
      refine hc_g_txn G (in_X3_heartbeat_X2) hP (ht) 1 (by decide) (by decide +kernel) (.ref (ad (5 + HM.gt (x) (t)))) rfl rfl dX3_heartbeat_22 ?_
      refine hs_callN (n := 0) (As := []) (rest := []) G hml (c_haveEvent l D cy ad ho (x) ((hIn.gt ht))) gX3_heartbeat_X1_haveEvent_n50 rfl rfl rfl (by decide +kernel) (by decide +kernel) (by decide +kernel) (C := RX1) (by decide +kernel) (by decide +kernel) ⟨Nat.le_of_ble_eq_true rfl, Nat.le_of_ble_eq_true rfl⟩ (ci := 1) rfl rfl (hc_at_node ((hIn.gt ht))) rfl hl.1 (Nat.le_of_ble_eq_true rfl) ⟨Nat.zero_le _, Nat.zero_le _⟩ hP hS (fun _ h => h) rfl dX3_heartbeat_25 (fun H locs hP hS _ _ => ?_)
      refine lv_aload_n hx hb dX3_heartbeat_28 rfl (lv_at hl 1 rfl) ?_
      refine lv_aload_n hx hb dX3_heartbeat_29 rfl (lv_at hl 1 rfl) ?_
      refine hc_g_txn G (in_X3_heartbeat_X2) hP (ht) 1 (by decide) (by decide +kernel) (.ref (ad (5 + HM.gt (HM.ev (x) (HM.gt (x) (t))) (t)))) rfl rfl dX3_heartbeat_30 ?_
      refine hc_g_noden G (in_X3_heartbeat_X1) hP ((hIn.gt ht)) 0 (by decide) (by decide +kernel) (.int (HM.rd (HM.ev (x) (HM.gt (x) (t))) (HM.gt (HM.ev (x) (HM.gt (x) (t))) (t)))) rfl rfl dX3_heartbeat_33 ?_
      refine hc_p_txn ho G (in_X3_heartbeat_X2) hP hS (ht) 2 (by decide) (by decide +kernel) (.int (HM.rd (HM.ev (x) (HM.gt (x) (t))) (HM.gt (HM.ev (x) (HM.gt (x) (t))) (t)))) rfl rfl (.int) (by decide +kernel) rfl rfl (Nat.le_of_ble_eq_true rfl) (HM.u_bt (HM.ev (x) (HM.gt (x) (t))) (t) (HM.rd (HM.ev (x) (HM.gt (x) (t))) (HM.gt (HM.ev (x) (HM.gt (x) (t))) (t)))) (hc_s_bt (v := HM.rd (HM.ev (x) (HM.gt (x) (t))) (HM.gt (HM.ev (x) (HM.gt (x) (t))) (t))) (ht)) dX3_heartbeat_36 (fun H locs hP hS => ?_)
      refine lv_iload_n hx hb dX3_heartbeat_39 rfl (lv_at hl 0 rfl) ?_
      have eB : x.heartM (nI t) = if x.code t = 0 then (x.ev (x.gt t)).beat t else x := by rw [HM.heartM, eM]
      exact ct_iret hx hb hr hlocks (by rw [HM.codeA, eM]) (by rw [eB, if_pos c_1]; exact hP) hS dX3_heartbeat_40
theorem in_X3_committed_X3 : ∀ w ∈ u_ws RX3 TX3 6, w ∈ wsX3_committed := by decide +kernel
set_option maxHeartbeats 4000000 in
set_option maxRecDepth 100000 in
/-- c_committed -/
theorem c_committed (l : Launch) (D : va_G) (cy : Nat → ClassId) (ad : Nat → Nat) (ho : hc_ok ad) (x : HM) (hcm : x.cm.length ≤ 256) (z : Int32) : Ct l yX3_committed wsX3_committed ({ frames := 0, cells := 0, slots := 0, locals := 0 }) D cy (hc_A ad) [.ref (ad 0), .int (z)] (hc_mem ad cy (x)) (some (.long (x.committedA z))) (hc_mem ad cy (x)) := by
  refine ct_of (cc := cX3_committed) (maxL := 2) (ret := (some .long)) rfl (by decide) (Nat.le_of_ble_eq_true rfl) ?_
  intro p e s m below meth c ls G hx hb hml hr hlocks hP hS hl
  have hl : lv_has ls 2 [(0, .ref (ad 0)), (1, .int (z))] := hl
  refine lv_iload_n hx hb dX3_committed_0 rfl (lv_at hl 1 rfl) ?_
  refine lv_if_lt (tgt := 12) hx hb dX3_committed_1 (by decide) (fun c_1 => ?_) (fun c_1 => ?_)
  · refine lv_ldc2 (v := (-1)) hx hb G.2.2.2.1 (G.2.2.1 (.constantLong RX3 53 (-1)) (by decide +kernel)) dX3_committed_12 ?_
    refine lv_goto (tgt := 24) hx hb dX3_committed_15 (by decide) ?_
    exact ct_lret hx hb hr hlocks (by rw [HM.committedA, if_pos c_1]) hP hS dX3_committed_24
  · refine lv_iload_n hx hb dX3_committed_4 rfl (lv_at hl 1 rfl) ?_
    refine lv_aload_n hx hb dX3_committed_5 rfl (lv_at hl 0 rfl) ?_
    refine hc_g_store G (in_X3_committed_X3) hP 4 (by decide) (by decide +kernel) (.int (nI (HM.cm (x)).length)) rfl rfl dX3_committed_6 ?_
    refine lv_icmp_lt (tgt := 18) hx hb dX3_committed_9 (by decide) (fun c_2 => ?_) (fun c_2 => ?_)
    · obtain ⟨j, hj, rfl⟩ : ∃ j, j < x.cm.length ∧ z = nI j := by
        rcases hs_rng z (b := x.cm.length) (by omega) with (q | q) | q
        · exact absurd q c_1
        · exact absurd q (Int32.not_le.mpr c_2)
        · exact q
      refine lv_aload_n hx hb dX3_committed_18 rfl (lv_at hl 0 rfl) ?_
      refine hc_g_store G (in_X3_committed_X3) hP 3 (by decide) (by decide +kernel) (.ref (ad 4)) rfl rfl dX3_committed_19 ?_
      refine lv_iload_n hx hb dX3_committed_22 rfl (lv_at hl 1 rfl) ?_
      refine va_lald hx hb G.2.2.2.2.1 hP 4 1 (hc_at_top (by decide)) rfl (hs_in (k := j) (n := 256) (nI_clamp (by omega)) (hs_inN (by omega) (by decide))) dX3_committed_23 ?_
      rw [show Int32.toNatClampNeg (nI j) = j from nI_clamp (by omega)]
      exact ct_lret hx hb hr hlocks (by rw [HM.committedA, if_neg c_1, if_neg (Int32.not_le.mpr c_2), nI_clamp (by omega)]; rfl) hP hS dX3_committed_24
    · refine lv_ldc2 (v := (-1)) hx hb G.2.2.2.1 (G.2.2.1 (.constantLong RX3 53 (-1)) (by decide +kernel)) dX3_committed_12 ?_
      refine lv_goto (tgt := 24) hx hb dX3_committed_15 (by decide) ?_
      exact ct_lret hx hb hr hlocks (by rw [HM.committedA, if_neg c_1, if_pos (Int32.not_lt.mp c_2)]) hP hS dX3_committed_24
end
section
/-! ===== what stays over the parts of a call ===== -/
theorem hs_code0 {x : HM} {t : Nat} (h : x.code t = 0) : x.ph t = 1 := by
  unfold HM.code at h
  split at h
  · assumption
  · split at h
    · exact absurd h (by decide)
    · split at h
      · exact absurd h (by decide)
      · exact absurd h (by decide)
theorem hs_stc0 {x : HM} {t : Nat} (h : x.stc t = 0) : x.code t = 0 ∧ x.stp t = x := by
  unfold HM.stc at h
  split at h
  · exact absurd h (by decide)
  · rename_i c; exact ⟨h, if_neg c⟩
theorem hs_sil_cm (x : HM) (u : Nat) : (x.sil u).cm = x.cm := by unfold HM.sil; split <;> rfl
theorem hs_stl_cm (x : HM) (k u : Nat) : (x.stl k u).cm = x.cm := by unfold HM.stl; split <;> rfl
theorem hs_lk_cm (x : HM) (k u : Nat) : (x.lk k u).cm = x.cm := by
  have h : (x.lk3 k u).cm = x.cm := hs_sil_cm _ _
  unfold HM.lk
  split
  · exact h
  · rw [hs_stl_cm]; exact h
theorem hs_look_cm (x : HM) (t k : Nat) : (x.look t k).cm = x.cm := by
  unfold HM.look
  cases x.hd k with
  | none => rfl
  | some u => dsimp only; split
              · rfl
              · exact hs_lk_cm _ _ _
theorem hs_lpW_cm (x : HM) (t k : Nat) : (x.lpW t k).cm = x.cm := by
  unfold HM.lpW
  cases x.lkU t k with
  | none => exact hs_look_cm _ _ _
  | some u => exact hs_look_cm x t k
theorem hs_mr2_cm (x : HM) (t k : Nat) : (x.mr2 t k).cm = x.cm := by
  have h : (x.mr1 t k).cm = x.cm := hs_lpW_cm _ _ _
  unfold HM.mr2
  split <;> exact h
theorem hs_mrM_cm (x : HM) (t k : Nat) : (x.mrM t k).cm = x.cm := hs_mr2_cm x t k
theorem hs_mrs_cm (t : Nat) : ∀ (n k : Nat) (x : HM), (hs_mrs t n k x).1.cm = x.cm := by
  intro n
  induction n with
  | zero => intro k x; rfl
  | succ n ih =>
    intro k x
    rw [hs_mrs_succ]
    split
    · split
      · exact hs_mrM_cm _ _ _
      · rw [ih, hs_mrM_cm]
    · exact ih _ _
end
section
theorem in_X3_read_X3 : ∀ w ∈ u_ws RX3 TX3 6, w ∈ wsX3_read := by decide +kernel
theorem in_X3_read_X0 : ∀ w ∈ u_ws RX0 TX0 8, w ∈ wsX3_read := by decide +kernel
theorem in_X3_read_X1 : ∀ w ∈ u_ws RX1 TX1 2, w ∈ wsX3_read := by decide +kernel
theorem in_X3_read_X2 : ∀ w ∈ u_ws RX2 TX2 9, w ∈ wsX3_read := by decide +kernel
set_option maxHeartbeats 4000000 in
set_option maxRecDepth 100000 in
/-- c_read -/
theorem c_read (l : Launch) (D : va_G) (cy : Nat → ClassId) (ad : Nat → Nat) (ho : hc_ok ad) (x : HM) (B : Int) (hIn : x.In B) (hB : B + 200 < 4611686018427387904) (hbi : ∀ t, t < 8 → x.bi t < 2 ^ 31) (z w : Int32) : Ct l yX3_read wsX3_read ({ frames := 4, cells := 0, slots := 0, locals := 95 }) D cy (hc_A ad) [.ref (ad 0), .int (z), .int (w)] (hc_mem ad cy (x)) (some (.long (x.readA z w))) (hc_mem ad cy (x.readM z w)) := by
  rcases hs_rng z (b := 8) (by decide) with hz | ⟨t, ht, rfl⟩
  · rcases hs_rng w (b := 16) (by decide) with hw | ⟨k, hk, rfl⟩
    · refine ct_of (cc := cX3_read) (maxL := 8) (ret := (some .long)) rfl (by decide) (Nat.le_of_ble_eq_true rfl) ?_
      intro p e s m below meth c ls G hx hb hml hr hlocks hP hS hl
      have hl : lv_has ls 8 [(0, .ref (ad 0)), (1, .int (z)), (2, .int (w))] := hl
      refine lv_aload_n hx hb dX3_read_0 rfl (lv_at hl 0 rfl) ?_
      refine lv_iload_n hx hb dX3_read_1 rfl (lv_at hl 1 rfl) ?_
      refine hs_callV (n := 1) (As := [.int (z)]) (rest := []) G hml (c_transactionAt_no l D cy ad ho (x) (z) hz) gX3_read_X3_transactionAt rfl rfl rfl (by decide +kernel) ⟨Nat.le_of_ble_eq_true rfl, Nat.le_of_ble_eq_true rfl⟩ (ci := 3) rfl rfl (hc_at_top (j := 0) (by decide)) rfl hl.1 (Nat.le_of_ble_eq_true rfl) ⟨Nat.zero_le _, Nat.zero_le _⟩ hP hS (fun _ h => h) rfl dX3_read_2 (fun H locs hP hS _ _ => ?_)
      refine lv_astore_nN (lv' := [(3, .null), (0, .ref (ad 0)), (1, .int (z)), (2, .int (w))]) hx hb dX3_read_5 rfl hl (by decide) rfl (fun ls hl => ?_)
      refine lv_aload_n hx hb dX3_read_6 rfl (lv_at hl 1 rfl) ?_
      refine lv_iload_n hx hb dX3_read_7 rfl (lv_at hl 3 rfl) ?_
      refine hs_callV (n := 1) (As := [.int (w)]) (rest := []) G hml (c_keyAt_no l D cy ad ho (x) (w) hw) gX3_read_X3_keyAt rfl rfl rfl (by decide +kernel) ⟨Nat.le_of_ble_eq_true rfl, Nat.le_of_ble_eq_true rfl⟩ (ci := 3) rfl rfl (hc_at_top (j := 0) (by decide)) rfl hl.1 (Nat.le_of_ble_eq_true rfl) ⟨Nat.zero_le _, Nat.zero_le _⟩ hP hS (fun _ h => h) rfl dX3_read_8 (fun H locs hP hS _ _ => ?_)
      refine lv_astoreN (lv' := [(4, .null), (3, .null), (0, .ref (ad 0)), (1, .int (z)), (2, .int (w))]) hx hb dX3_read_11 hl (by decide) rfl (fun ls hl => ?_)
      refine lv_aload_nN hx hb dX3_read_13 rfl (lv_at hl 1 rfl) ?_
      refine lv_ifnullN (tgt := 22) hx hb dX3_read_14 (by decide) ?_
      refine lv_ldc2 (v := 4294967295) hx hb G.2.2.2.1 (G.2.2.1 (.constantLong RX3 78 4294967295) (by decide +kernel)) dX3_read_22 ?_
      exact ct_lret hx hb hr hlocks (by rw [HM.readA, hs_n_out hz]) (by rw [HM.readM, hs_n_out hz]; exact hP) hS dX3_read_25
    · refine ct_of (cc := cX3_read) (maxL := 8) (ret := (some .long)) rfl (by decide) (Nat.le_of_ble_eq_true rfl) ?_
      intro p e s m below meth c ls G hx hb hml hr hlocks hP hS hl
      have hl : lv_has ls 8 [(0, .ref (ad 0)), (1, .int (z)), (2, .int (nI k))] := hl
      refine lv_aload_n hx hb dX3_read_0 rfl (lv_at hl 0 rfl) ?_
      refine lv_iload_n hx hb dX3_read_1 rfl (lv_at hl 1 rfl) ?_
      refine hs_callV (n := 1) (As := [.int (z)]) (rest := []) G hml (c_transactionAt_no l D cy ad ho (x) (z) hz) gX3_read_X3_transactionAt rfl rfl rfl (by decide +kernel) ⟨Nat.le_of_ble_eq_true rfl, Nat.le_of_ble_eq_true rfl⟩ (ci := 3) rfl rfl (hc_at_top (j := 0) (by decide)) rfl hl.1 (Nat.le_of_ble_eq_true rfl) ⟨Nat.zero_le _, Nat.zero_le _⟩ hP hS (fun _ h => h) rfl dX3_read_2 (fun H locs hP hS _ _ => ?_)
      refine lv_astore_nN (lv' := [(3, .null), (0, .ref (ad 0)), (1, .int (z)), (2, .int (nI k))]) hx hb dX3_read_5 rfl hl (by decide) rfl (fun ls hl => ?_)
      refine lv_aload_n hx hb dX3_read_6 rfl (lv_at hl 1 rfl) ?_
      refine lv_iload_n hx hb dX3_read_7 rfl (lv_at hl 3 rfl) ?_
      refine hs_callV (n := 1) (As := [.int (nI k)]) (rest := []) G hml (c_keyAt l D cy ad ho (x) hk) gX3_read_X3_keyAt rfl rfl rfl (by decide +kernel) ⟨Nat.le_of_ble_eq_true rfl, Nat.le_of_ble_eq_true rfl⟩ (ci := 3) rfl rfl (hc_at_top (j := 0) (by decide)) rfl hl.1 (Nat.le_of_ble_eq_true rfl) ⟨Nat.zero_le _, Nat.zero_le _⟩ hP hS (fun _ h => h) rfl dX3_read_8 (fun H locs hP hS _ _ => ?_)
      refine lv_astore (lv' := [(4, .ref (ad (9 + k))), (3, .null), (0, .ref (ad 0)), (1, .int (z)), (2, .int (nI k))]) hx hb dX3_read_11 hl (by decide) rfl (fun ls hl => ?_)
      refine lv_aload_nN hx hb dX3_read_13 rfl (lv_at hl 1 rfl) ?_
      refine lv_ifnullN (tgt := 22) hx hb dX3_read_14 (by decide) ?_
      refine lv_ldc2 (v := 4294967295) hx hb G.2.2.2.1 (G.2.2.1 (.constantLong RX3 78 4294967295) (by decide +kernel)) dX3_read_22 ?_
      exact ct_lret hx hb hr hlocks (by rw [HM.readA, hs_n_out hz]) (by rw [HM.readM, hs_n_out hz]; exact hP) hS dX3_read_25
  · have eT := hs_n_in ht (show 8 < 2 ^ 31 by decide)
    rcases hs_rng w (b := 16) (by decide) with hw | ⟨k, hk, rfl⟩
    · refine ct_of (cc := cX3_read) (maxL := 8) (ret := (some .long)) rfl (by decide) (Nat.le_of_ble_eq_true rfl) ?_
      intro p e s m below meth c ls G hx hb hml hr hlocks hP hS hl
      have hl : lv_has ls 8 [(0, .ref (ad 0)), (1, .int (nI t)), (2, .int (w))] := hl
      refine lv_aload_n hx hb dX3_read_0 rfl (lv_at hl 0 rfl) ?_
      refine lv_iload_n hx hb dX3_read_1 rfl (lv_at hl 1 rfl) ?_
      refine hs_callV (n := 1) (As := [.int (nI t)]) (rest := []) G hml (c_transactionAt l D cy ad ho (x) ht) gX3_read_X3_transactionAt rfl rfl rfl (by decide +kernel) ⟨Nat.le_of_ble_eq_true rfl, Nat.le_of_ble_eq_true rfl⟩ (ci := 3) rfl rfl (hc_at_top (j := 0) (by decide)) rfl hl.1 (Nat.le_of_ble_eq_true rfl) ⟨Nat.zero_le _, Nat.zero_le _⟩ hP hS (fun _ h => h) rfl dX3_read_2 (fun H locs hP hS _ _ => ?_)
      refine lv_astore_n (lv' := [(3, .ref (ad (57 + t))), (0, .ref (ad 0)), (1, .int (nI t)), (2, .int (w))]) hx hb dX3_read_5 rfl hl (by decide) rfl (fun ls hl => ?_)
      refine lv_aload_n hx hb dX3_read_6 rfl (lv_at hl 1 rfl) ?_
      refine lv_iload_n hx hb dX3_read_7 rfl (lv_at hl 3 rfl) ?_
      refine hs_callV (n := 1) (As := [.int (w)]) (rest := []) G hml (c_keyAt_no l D cy ad ho (x) (w) hw) gX3_read_X3_keyAt rfl rfl rfl (by decide +kernel) ⟨Nat.le_of_ble_eq_true rfl, Nat.le_of_ble_eq_true rfl⟩ (ci := 3) rfl rfl (hc_at_top (j := 0) (by decide)) rfl hl.1 (Nat.le_of_ble_eq_true rfl) ⟨Nat.zero_le _, Nat.zero_le _⟩ hP hS (fun _ h => h) rfl dX3_read_8 (fun H locs hP hS _ _ => ?_)
      refine lv_astoreN (lv' := [(4, .null), (3, .ref (ad (57 + t))), (0, .ref (ad 0)), (1, .int (nI t)), (2, .int (w))]) hx hb dX3_read_11 hl (by decide) rfl (fun ls hl => ?_)
      refine lv_aload_n hx hb dX3_read_13 rfl (lv_at hl 1 rfl) ?_
      refine lv_ifnull hx hb dX3_read_14 ?_
      refine lv_aloadN hx hb dX3_read_17 (lv_at hl 0 rfl) ?_
      refine lv_ifnonnullN hx hb dX3_read_19 ?_
      refine lv_ldc2 (v := 4294967295) hx hb G.2.2.2.1 (G.2.2.1 (.constantLong RX3 78 4294967295) (by decide +kernel)) dX3_read_22 ?_
      exact ct_lret hx hb hr hlocks (by rw [HM.readA, eT, hs_n_out hw]) (by rw [HM.readM, eT, hs_n_out hw]; exact hP) hS dX3_read_25
    · have eK := hs_n_in hk (show 16 < 2 ^ 31 by decide)
      have eA : x.readA (nI t) (nI k) = if x.stc t = 0 then ((x.stp t).opn t k).rdA t k else 4294967296 + Int32.toInt64 (x.stc t) := by rw [HM.readA, eT, eK]
      have eM : x.readM (nI t) (nI k) = if x.stc t = 0 then (((x.stp t).opn t k).rdM t k).cls t k else x.stp t := by rw [HM.readM, eT, eK]
      have hI0 := hIn.stp t
      have hI1 := hI0.ev (by omega) (hI0.gt ht)
      have hI2 := hI0.opn (k := k) (by omega) ht
      have hI3 := hI2.rdM (by omega) ht hk
      have hbi2 : ∀ j, j < 8 → ((x.stp t).opn t k).bi j < 2 ^ 31 := fun j hj => by rw [show ((x.stp t).opn t k).bi = (x.stp t).bi from rfl, hs_stp_bi]; exact hbi j hj
      refine ct_of (cc := cX3_read) (maxL := 8) (ret := (some .long)) rfl (by decide) (Nat.le_of_ble_eq_true rfl) ?_
      intro p e s m below meth c ls G hx hb hml hr hlocks hP hS hl
      have hl : lv_has ls 8 [(0, .ref (ad 0)), (1, .int (nI t)), (2, .int (nI k))] := hl
      refine lv_aload_n hx hb dX3_read_0 rfl (lv_at hl 0 rfl) ?_
      refine lv_iload_n hx hb dX3_read_1 rfl (lv_at hl 1 rfl) ?_
      refine hs_callV (n := 1) (As := [.int (nI t)]) (rest := []) G hml (c_transactionAt l D cy ad ho (x) ht) gX3_read_X3_transactionAt rfl rfl rfl (by decide +kernel) ⟨Nat.le_of_ble_eq_true rfl, Nat.le_of_ble_eq_true rfl⟩ (ci := 3) rfl rfl (hc_at_top (j := 0) (by decide)) rfl hl.1 (Nat.le_of_ble_eq_true rfl) ⟨Nat.zero_le _, Nat.zero_le _⟩ hP hS (fun _ h => h) rfl dX3_read_2 (fun H locs hP hS _ _ => ?_)
      refine lv_astore_n (lv' := [(3, .ref (ad (57 + t))), (0, .ref (ad 0)), (1, .int (nI t)), (2, .int (nI k))]) hx hb dX3_read_5 rfl hl (by decide) rfl (fun ls hl => ?_)
      refine lv_aload_n hx hb dX3_read_6 rfl (lv_at hl 1 rfl) ?_
      refine lv_iload_n hx hb dX3_read_7 rfl (lv_at hl 3 rfl) ?_
      refine hs_callV (n := 1) (As := [.int (nI k)]) (rest := []) G hml (c_keyAt l D cy ad ho (x) hk) gX3_read_X3_keyAt rfl rfl rfl (by decide +kernel) ⟨Nat.le_of_ble_eq_true rfl, Nat.le_of_ble_eq_true rfl⟩ (ci := 3) rfl rfl (hc_at_top (j := 0) (by decide)) rfl hl.1 (Nat.le_of_ble_eq_true rfl) ⟨Nat.zero_le _, Nat.zero_le _⟩ hP hS (fun _ h => h) rfl dX3_read_8 (fun H locs hP hS _ _ => ?_)
      refine lv_astore (lv' := [(4, .ref (ad (9 + k))), (3, .ref (ad (57 + t))), (0, .ref (ad 0)), (1, .int (nI t)), (2, .int (nI k))]) hx hb dX3_read_11 hl (by decide) rfl (fun ls hl => ?_)
      refine lv_aload_n hx hb dX3_read_13 rfl (lv_at hl 1 rfl) ?_
      refine lv_ifnull hx hb dX3_read_14 ?_
      refine lv_aload hx hb dX3_read_17 (lv_at hl 0 rfl) ?_
      refine lv_ifnonnull (tgt := 26) hx hb dX3_read_19 (by decide) ?_
      refine lv_aload_n hx hb dX3_read_26 rfl (lv_at hl 1 rfl) ?_
      refine hs_callN (n := 0) (As := []) (rest := []) G hml (c_takeStop l D cy ad ho (x) (ht)) gX3_read_X2_takeStoppingCode_n80 rfl rfl rfl (by decide +kernel) (by decide +kernel) (by decide +kernel) (C := RX2) (by decide +kernel) (by decide +kernel) ⟨Nat.le_of_ble_eq_true rfl, Nat.le_of_ble_eq_true rfl⟩ (ci := 2) rfl rfl (hc_at_tx (ht)) rfl hl.1 (Nat.le_of_ble_eq_true rfl) ⟨Nat.zero_le _, Nat.zero_le _⟩ hP hS (fun _ h => h) rfl dX3_read_27 (fun H locs hP hS _ _ => ?_)
      refine lv_istore (lv' := [(5, .int (HM.stc (x) (t))), (4, .ref (ad (9 + k))), (3, .ref (ad (57 + t))), (0, .ref (ad 0)), (1, .int (nI t)), (2, .int (nI k))]) hx hb dX3_read_30 hl (by decide) rfl (fun ls hl => ?_)
      refine lv_iload hx hb dX3_read_32 (lv_at hl 0 rfl) ?_
      refine lv_if_eq (tgt := 45) hx hb dX3_read_34 (by decide) (fun c_1 => ?_) (fun c_1 => ?_)
      · refine lv_aload_n hx hb dX3_read_45 rfl (lv_at hl 2 rfl) ?_
        refine hc_g_txn G (in_X3_read_X2) hP (ht) 1 (by decide) (by decide +kernel) (.ref (ad (5 + HM.gt (HM.stp (x) (t)) (t)))) rfl rfl dX3_read_46 ?_
        refine hs_callN (n := 0) (As := []) (rest := []) G hml (c_haveEvent l D cy ad ho (HM.stp (x) (t)) ((hI0.gt ht))) gX3_read_X1_haveEvent_n50 rfl rfl rfl (by decide +kernel) (by decide +kernel) (by decide +kernel) (C := RX1) (by decide +kernel) (by decide +kernel) ⟨Nat.le_of_ble_eq_true rfl, Nat.le_of_ble_eq_true rfl⟩ (ci := 1) rfl rfl (hc_at_node ((hI0.gt ht))) rfl hl.1 (Nat.le_of_ble_eq_true rfl) ⟨Nat.zero_le _, Nat.zero_le _⟩ hP hS (fun _ h => h) rfl dX3_read_49 (fun H locs hP hS _ _ => ?_)
        have hP : va_P D vwCl (hc_mem ad cy (HM.ev (HM.stp x t) (HM.gt (HM.stp x t) t))) H := hP
        refine lv_aload hx hb dX3_read_52 (lv_at hl 1 rfl) ?_
        refine hc_g_keyn G (in_X3_read_X0) hP (hk) 1 (by decide) (by decide +kernel) (.ref (ad (5 + (k) % 4))) rfl rfl dX3_read_54 ?_
        refine lv_aload_n hx hb dX3_read_57 rfl (lv_at hl 2 rfl) ?_
        refine hc_g_txn G (in_X3_read_X2) hP (ht) 1 (by decide) (by decide +kernel) (.ref (ad (5 + HM.gt (HM.ev (HM.stp x t) (HM.gt (HM.stp x t) t)) (t)))) rfl rfl dX3_read_58 ?_
        refine hc_g_noden G (in_X3_read_X1) hP ((hI1.gt ht)) 1 (by decide) (by decide +kernel) (.long (HM.ck (HM.ev (HM.stp x t) (HM.gt (HM.stp x t) t)) (HM.gt (HM.ev (HM.stp x t) (HM.gt (HM.stp x t) t)) (t)))) rfl rfl dX3_read_61 ?_
        refine hs_callN (n := 1) (As := [.long (HM.ck (HM.ev (HM.stp x t) (HM.gt (HM.stp x t) t)) (HM.gt (HM.ev (HM.stp x t) (HM.gt (HM.stp x t) t)) (t)))]) (rest := []) G hml (c_takeIn l D cy ad ho (HM.ev (HM.stp x t) (HM.gt (HM.stp x t) t)) ((Nat.mod_lt _ (by decide))) (HM.ck (HM.ev (HM.stp x t) (HM.gt (HM.stp x t) t)) (HM.gt (HM.ev (HM.stp x t) (HM.gt (HM.stp x t) t)) (t)))) gX3_read_X1_takeIn_n92 rfl rfl rfl (by decide +kernel) (by decide +kernel) (by decide +kernel) (C := RX1) (by decide +kernel) (by decide +kernel) ⟨Nat.le_of_ble_eq_true rfl, Nat.le_of_ble_eq_true rfl⟩ (ci := 1) rfl rfl (hc_at_node ((Nat.mod_lt _ (by decide)))) rfl hl.1 (Nat.le_of_ble_eq_true rfl) ⟨Nat.zero_le _, Nat.zero_le _⟩ hP hS (fun _ h => h) rfl dX3_read_64 (fun H locs hP hS _ _ => ?_)
        have hP : va_P D vwCl (hc_mem ad cy (HM.opn (HM.stp x t) t k)) H := hP
        refine lv_aload_n hx hb dX3_read_67 rfl (lv_at hl 3 rfl) ?_
        refine lv_aload_n hx hb dX3_read_68 rfl (lv_at hl 2 rfl) ?_
        refine lv_aload hx hb dX3_read_69 (lv_at hl 1 rfl) ?_
        refine hs_callV (n := 2) (As := [.ref (ad (57 + t)), .ref (ad (9 + k))]) (rest := []) G hml (c_readAtOwner l D cy ad ho (HM.opn (HM.stp x t) t k) _ (hI2) (by omega) (ht) (hk)) gX3_read_X3_readAtOwner rfl rfl rfl (by decide +kernel) ⟨Nat.le_of_ble_eq_true rfl, Nat.le_of_ble_eq_true rfl⟩ (ci := 3) rfl rfl (hc_at_top (j := 0) (by decide)) rfl hl.1 (Nat.le_of_ble_eq_true rfl) ⟨Nat.zero_le _, Nat.zero_le _⟩ hP hS (fun _ h => h) rfl dX3_read_71 (fun H locs hP hS _ _ => ?_)
        refine lv_lstore (lv' := [(6, .long (HM.rdA (HM.opn (HM.stp x t) t k) (t) (k))), (5, .int (HM.stc (x) (t))), (4, .ref (ad (9 + k))), (3, .ref (ad (57 + t))), (0, .ref (ad 0)), (1, .int (nI t)), (2, .int (nI k))]) hx hb dX3_read_74 hl (by decide) rfl (fun ls hl => ?_)
        have hP : va_P D vwCl (hc_mem ad cy (HM.rdM (HM.opn (HM.stp x t) t k) t k)) H := hP
        refine lv_aload_n hx hb dX3_read_76 rfl (lv_at hl 3 rfl) ?_
        refine hc_g_txn G (in_X3_read_X2) hP (ht) 1 (by decide) (by decide +kernel) (.ref (ad (5 + HM.gt (HM.rdM (HM.opn (HM.stp x t) t k) t k) (t)))) rfl rfl dX3_read_77 ?_
        refine lv_aload hx hb dX3_read_80 (lv_at hl 2 rfl) ?_
        refine hc_g_keyn G (in_X3_read_X0) hP (hk) 1 (by decide) (by decide +kernel) (.ref (ad (5 + (k) % 4))) rfl rfl dX3_read_82 ?_
        refine hc_g_noden G (in_X3_read_X1) hP ((Nat.mod_lt _ (by decide))) 1 (by decide) (by decide +kernel) (.long (HM.ck (HM.rdM (HM.opn (HM.stp x t) t k) t k) ((k) % 4))) rfl rfl dX3_read_85 ?_
        refine hs_callN (n := 1) (As := [.long (HM.ck (HM.rdM (HM.opn (HM.stp x t) t k) t k) ((k) % 4))]) (rest := []) G hml (c_takeIn l D cy ad ho (HM.rdM (HM.opn (HM.stp x t) t k) t k) ((hI3.gt ht)) (HM.ck (HM.rdM (HM.opn (HM.stp x t) t k) t k) ((k) % 4))) gX3_read_X1_takeIn_n92 rfl rfl rfl (by decide +kernel) (by decide +kernel) (by decide +kernel) (C := RX1) (by decide +kernel) (by decide +kernel) ⟨Nat.le_of_ble_eq_true rfl, Nat.le_of_ble_eq_true rfl⟩ (ci := 1) rfl rfl (hc_at_node ((hI3.gt ht))) rfl hl.1 (Nat.le_of_ble_eq_true rfl) ⟨Nat.zero_le _, Nat.zero_le _⟩ hP hS (fun _ h => h) rfl dX3_read_88 (fun H locs hP hS _ _ => ?_)
        refine lv_lload hx hb dX3_read_91 (lv_at hl 0 rfl) ?_
        exact ct_lret hx hb hr hlocks (by rw [eA, if_pos c_1]) (by rw [eM, if_pos c_1]; exact hP) hS dX3_read_93
      · refine lv_ldc2 (v := 4294967296) hx hb G.2.2.2.1 (G.2.2.1 (.constantLong RX3 83 4294967296) (by decide +kernel)) dX3_read_37 ?_
        refine lv_iload hx hb dX3_read_40 (lv_at hl 0 rfl) ?_
        refine lv_i2l (v := (Int32.toInt64 (HM.stc (x) (t)))) hx hb dX3_read_42 rfl ?_
        refine lv_ladd hx hb dX3_read_43 ?_
        exact ct_lret hx hb hr hlocks (by rw [eA, if_neg c_1]) (by rw [eM, if_neg c_1]; exact hP) hS dX3_read_44
theorem in_X3_write_X3 : ∀ w ∈ u_ws RX3 TX3 6, w ∈ wsX3_write := by decide +kernel
theorem in_X3_write_X0 : ∀ w ∈ u_ws RX0 TX0 8, w ∈ wsX3_write := by decide +kernel
theorem in_X3_write_X1 : ∀ w ∈ u_ws RX1 TX1 2, w ∈ wsX3_write := by decide +kernel
theorem in_X3_write_X2 : ∀ w ∈ u_ws RX2 TX2 9, w ∈ wsX3_write := by decide +kernel
set_option maxHeartbeats 4000000 in
set_option maxRecDepth 100000 in
/-- c_write -/
theorem c_write (l : Launch) (D : va_G) (cy : Nat → ClassId) (ad : Nat → Nat) (ho : hc_ok ad) (x : HM) (B : Int) (hIn : x.In B) (hB : B + 200 < 4611686018427387904) (hbi : ∀ t, t < 8 → x.bi t < 2 ^ 31) (z w : Int32) (v : Int32) : Ct l yX3_write wsX3_write ({ frames := 4, cells := 0, slots := 0, locals := 94 }) D cy (hc_A ad) [.ref (ad 0), .int (z), .int (w), .int (v)] (hc_mem ad cy (x)) (some (.int (x.writeA z w))) (hc_mem ad cy (x.writeM z w v)) := by
  rcases hs_rng z (b := 8) (by decide) with hz | ⟨t, ht, rfl⟩
  · rcases hs_rng w (b := 16) (by decide) with hw | ⟨k, hk, rfl⟩
    · refine ct_of (cc := cX3_write) (maxL := 8) (ret := (some .int)) rfl (by decide) (Nat.le_of_ble_eq_true rfl) ?_
      intro p e s m below meth c ls G hx hb hml hr hlocks hP hS hl
      have hl : lv_has ls 8 [(0, .ref (ad 0)), (1, .int (z)), (2, .int (w)), (3, .int (v))] := hl
      refine lv_aload_n hx hb dX3_write_0 rfl (lv_at hl 0 rfl) ?_
      refine lv_iload_n hx hb dX3_write_1 rfl (lv_at hl 1 rfl) ?_
      refine hs_callV (n := 1) (As := [.int (z)]) (rest := []) G hml (c_transactionAt_no l D cy ad ho (x) (z) hz) gX3_write_X3_transactionAt rfl rfl rfl (by decide +kernel) ⟨Nat.le_of_ble_eq_true rfl, Nat.le_of_ble_eq_true rfl⟩ (ci := 3) rfl rfl (hc_at_top (j := 0) (by decide)) rfl hl.1 (Nat.le_of_ble_eq_true rfl) ⟨Nat.zero_le _, Nat.zero_le _⟩ hP hS (fun _ h => h) rfl dX3_write_2 (fun H locs hP hS _ _ => ?_)
      refine lv_astoreN (lv' := [(4, .null), (0, .ref (ad 0)), (1, .int (z)), (2, .int (w)), (3, .int (v))]) hx hb dX3_write_5 hl (by decide) rfl (fun ls hl => ?_)
      refine lv_aload_n hx hb dX3_write_7 rfl (lv_at hl 1 rfl) ?_
      refine lv_iload_n hx hb dX3_write_8 rfl (lv_at hl 3 rfl) ?_
      refine hs_callV (n := 1) (As := [.int (w)]) (rest := []) G hml (c_keyAt_no l D cy ad ho (x) (w) hw) gX3_write_X3_keyAt rfl rfl rfl (by decide +kernel) ⟨Nat.le_of_ble_eq_true rfl, Nat.le_of_ble_eq_true rfl⟩ (ci := 3) rfl rfl (hc_at_top (j := 0) (by decide)) rfl hl.1 (Nat.le_of_ble_eq_true rfl) ⟨Nat.zero_le _, Nat.zero_le _⟩ hP hS (fun _ h => h) rfl dX3_write_9 (fun H locs hP hS _ _ => ?_)
      refine lv_astoreN (lv' := [(5, .null), (4, .null), (0, .ref (ad 0)), (1, .int (z)), (2, .int (w)), (3, .int (v))]) hx hb dX3_write_12 hl (by decide) rfl (fun ls hl => ?_)
      refine lv_aloadN hx hb dX3_write_14 (lv_at hl 1 rfl) ?_
      refine lv_ifnullN (tgt := 24) hx hb dX3_write_16 (by decide) ?_
      refine lv_iconst (v := (-1)) hx hb dX3_write_24 (by decide) ?_
      exact ct_iret hx hb hr hlocks (by rw [HM.writeA, hs_n_out hz]) (by rw [HM.writeM, hs_n_out hz]; exact hP) hS dX3_write_25
    · refine ct_of (cc := cX3_write) (maxL := 8) (ret := (some .int)) rfl (by decide) (Nat.le_of_ble_eq_true rfl) ?_
      intro p e s m below meth c ls G hx hb hml hr hlocks hP hS hl
      have hl : lv_has ls 8 [(0, .ref (ad 0)), (1, .int (z)), (2, .int (nI k)), (3, .int (v))] := hl
      refine lv_aload_n hx hb dX3_write_0 rfl (lv_at hl 0 rfl) ?_
      refine lv_iload_n hx hb dX3_write_1 rfl (lv_at hl 1 rfl) ?_
      refine hs_callV (n := 1) (As := [.int (z)]) (rest := []) G hml (c_transactionAt_no l D cy ad ho (x) (z) hz) gX3_write_X3_transactionAt rfl rfl rfl (by decide +kernel) ⟨Nat.le_of_ble_eq_true rfl, Nat.le_of_ble_eq_true rfl⟩ (ci := 3) rfl rfl (hc_at_top (j := 0) (by decide)) rfl hl.1 (Nat.le_of_ble_eq_true rfl) ⟨Nat.zero_le _, Nat.zero_le _⟩ hP hS (fun _ h => h) rfl dX3_write_2 (fun H locs hP hS _ _ => ?_)
      refine lv_astoreN (lv' := [(4, .null), (0, .ref (ad 0)), (1, .int (z)), (2, .int (nI k)), (3, .int (v))]) hx hb dX3_write_5 hl (by decide) rfl (fun ls hl => ?_)
      refine lv_aload_n hx hb dX3_write_7 rfl (lv_at hl 1 rfl) ?_
      refine lv_iload_n hx hb dX3_write_8 rfl (lv_at hl 3 rfl) ?_
      refine hs_callV (n := 1) (As := [.int (nI k)]) (rest := []) G hml (c_keyAt l D cy ad ho (x) hk) gX3_write_X3_keyAt rfl rfl rfl (by decide +kernel) ⟨Nat.le_of_ble_eq_true rfl, Nat.le_of_ble_eq_true rfl⟩ (ci := 3) rfl rfl (hc_at_top (j := 0) (by decide)) rfl hl.1 (Nat.le_of_ble_eq_true rfl) ⟨Nat.zero_le _, Nat.zero_le _⟩ hP hS (fun _ h => h) rfl dX3_write_9 (fun H locs hP hS _ _ => ?_)
      refine lv_astore (lv' := [(5, .ref (ad (9 + k))), (4, .null), (0, .ref (ad 0)), (1, .int (z)), (2, .int (nI k)), (3, .int (v))]) hx hb dX3_write_12 hl (by decide) rfl (fun ls hl => ?_)
      refine lv_aloadN hx hb dX3_write_14 (lv_at hl 1 rfl) ?_
      refine lv_ifnullN (tgt := 24) hx hb dX3_write_16 (by decide) ?_
      refine lv_iconst (v := (-1)) hx hb dX3_write_24 (by decide) ?_
      exact ct_iret hx hb hr hlocks (by rw [HM.writeA, hs_n_out hz]) (by rw [HM.writeM, hs_n_out hz]; exact hP) hS dX3_write_25
  · have eT := hs_n_in ht (show 8 < 2 ^ 31 by decide)
    rcases hs_rng w (b := 16) (by decide) with hw | ⟨k, hk, rfl⟩
    · refine ct_of (cc := cX3_write) (maxL := 8) (ret := (some .int)) rfl (by decide) (Nat.le_of_ble_eq_true rfl) ?_
      intro p e s m below meth c ls G hx hb hml hr hlocks hP hS hl
      have hl : lv_has ls 8 [(0, .ref (ad 0)), (1, .int (nI t)), (2, .int (w)), (3, .int (v))] := hl
      refine lv_aload_n hx hb dX3_write_0 rfl (lv_at hl 0 rfl) ?_
      refine lv_iload_n hx hb dX3_write_1 rfl (lv_at hl 1 rfl) ?_
      refine hs_callV (n := 1) (As := [.int (nI t)]) (rest := []) G hml (c_transactionAt l D cy ad ho (x) ht) gX3_write_X3_transactionAt rfl rfl rfl (by decide +kernel) ⟨Nat.le_of_ble_eq_true rfl, Nat.le_of_ble_eq_true rfl⟩ (ci := 3) rfl rfl (hc_at_top (j := 0) (by decide)) rfl hl.1 (Nat.le_of_ble_eq_true rfl) ⟨Nat.zero_le _, Nat.zero_le _⟩ hP hS (fun _ h => h) rfl dX3_write_2 (fun H locs hP hS _ _ => ?_)
      refine lv_astore (lv' := [(4, .ref (ad (57 + t))), (0, .ref (ad 0)), (1, .int (nI t)), (2, .int (w)), (3, .int (v))]) hx hb dX3_write_5 hl (by decide) rfl (fun ls hl => ?_)
      refine lv_aload_n hx hb dX3_write_7 rfl (lv_at hl 1 rfl) ?_
      refine lv_iload_n hx hb dX3_write_8 rfl (lv_at hl 3 rfl) ?_
      refine hs_callV (n := 1) (As := [.int (w)]) (rest := []) G hml (c_keyAt_no l D cy ad ho (x) (w) hw) gX3_write_X3_keyAt rfl rfl rfl (by decide +kernel) ⟨Nat.le_of_ble_eq_true rfl, Nat.le_of_ble_eq_true rfl⟩ (ci := 3) rfl rfl (hc_at_top (j := 0) (by decide)) rfl hl.1 (Nat.le_of_ble_eq_true rfl) ⟨Nat.zero_le _, Nat.zero_le _⟩ hP hS (fun _ h => h) rfl dX3_write_9 (fun H locs hP hS _ _ => ?_)
      refine lv_astoreN (lv' := [(5, .null), (4, .ref (ad (57 + t))), (0, .ref (ad 0)), (1, .int (nI t)), (2, .int (w)), (3, .int (v))]) hx hb dX3_write_12 hl (by decide) rfl (fun ls hl => ?_)
      refine lv_aload hx hb dX3_write_14 (lv_at hl 1 rfl) ?_
      refine lv_ifnull hx hb dX3_write_16 ?_
      refine lv_aloadN hx hb dX3_write_19 (lv_at hl 0 rfl) ?_
      refine lv_ifnonnullN hx hb dX3_write_21 ?_
      refine lv_iconst (v := (-1)) hx hb dX3_write_24 (by decide) ?_
      exact ct_iret hx hb hr hlocks (by rw [HM.writeA, eT, hs_n_out hw]) (by rw [HM.writeM, eT, hs_n_out hw]; exact hP) hS dX3_write_25
    · have eK := hs_n_in hk (show 16 < 2 ^ 31 by decide)
      have eA : x.writeA (nI t) (nI k) = if x.stc t = 0 then ((x.stp t).opn t k).wrA t k else x.stc t := by rw [HM.writeA, eT, eK]
      have eM : x.writeM (nI t) (nI k) v = if x.stc t = 0 then (((x.stp t).opn t k).wrM t k v).cls t k else x.stp t := by rw [HM.writeM, eT, eK]
      have hI0 := hIn.stp t
      have hI1 := hI0.ev (by omega) (hI0.gt ht)
      have hI2 := hI0.opn (k := k) (by omega) ht
      have hI3 := hI2.wrM (by omega) ht hk v
      have hbi2 : ∀ j, j < 8 → ((x.stp t).opn t k).bi j < 2 ^ 31 := fun j hj => by rw [show ((x.stp t).opn t k).bi = (x.stp t).bi from rfl, hs_stp_bi]; exact hbi j hj
      refine ct_of (cc := cX3_write) (maxL := 8) (ret := (some .int)) rfl (by decide) (Nat.le_of_ble_eq_true rfl) ?_
      intro p e s m below meth c ls G hx hb hml hr hlocks hP hS hl
      have hl : lv_has ls 8 [(0, .ref (ad 0)), (1, .int (nI t)), (2, .int (nI k)), (3, .int (v))] := hl
      refine lv_aload_n hx hb dX3_write_0 rfl (lv_at hl 0 rfl) ?_
      refine lv_iload_n hx hb dX3_write_1 rfl (lv_at hl 1 rfl) ?_
      refine hs_callV (n := 1) (As := [.int (nI t)]) (rest := []) G hml (c_transactionAt l D cy ad ho (x) ht) gX3_write_X3_transactionAt rfl rfl rfl (by decide +kernel) ⟨Nat.le_of_ble_eq_true rfl, Nat.le_of_ble_eq_true rfl⟩ (ci := 3) rfl rfl (hc_at_top (j := 0) (by decide)) rfl hl.1 (Nat.le_of_ble_eq_true rfl) ⟨Nat.zero_le _, Nat.zero_le _⟩ hP hS (fun _ h => h) rfl dX3_write_2 (fun H locs hP hS _ _ => ?_)
      refine lv_astore (lv' := [(4, .ref (ad (57 + t))), (0, .ref (ad 0)), (1, .int (nI t)), (2, .int (nI k)), (3, .int (v))]) hx hb dX3_write_5 hl (by decide) rfl (fun ls hl => ?_)
      refine lv_aload_n hx hb dX3_write_7 rfl (lv_at hl 1 rfl) ?_
      refine lv_iload_n hx hb dX3_write_8 rfl (lv_at hl 3 rfl) ?_
      refine hs_callV (n := 1) (As := [.int (nI k)]) (rest := []) G hml (c_keyAt l D cy ad ho (x) hk) gX3_write_X3_keyAt rfl rfl rfl (by decide +kernel) ⟨Nat.le_of_ble_eq_true rfl, Nat.le_of_ble_eq_true rfl⟩ (ci := 3) rfl rfl (hc_at_top (j := 0) (by decide)) rfl hl.1 (Nat.le_of_ble_eq_true rfl) ⟨Nat.zero_le _, Nat.zero_le _⟩ hP hS (fun _ h => h) rfl dX3_write_9 (fun H locs hP hS _ _ => ?_)
      refine lv_astore (lv' := [(5, .ref (ad (9 + k))), (4, .ref (ad (57 + t))), (0, .ref (ad 0)), (1, .int (nI t)), (2, .int (nI k)), (3, .int (v))]) hx hb dX3_write_12 hl (by decide) rfl (fun ls hl => ?_)
      refine lv_aload hx hb dX3_write_14 (lv_at hl 1 rfl) ?_
      refine lv_ifnull hx hb dX3_write_16 ?_
      refine lv_aload hx hb dX3_write_19 (lv_at hl 0 rfl) ?_
      refine lv_ifnonnull (tgt := 26) hx hb dX3_write_21 (by decide) ?_
      refine lv_aload hx hb dX3_write_26 (lv_at hl 1 rfl) ?_
      refine hs_callN (n := 0) (As := []) (rest := []) G hml (c_takeStop l D cy ad ho (x) (ht)) gX3_write_X2_takeStoppingCode_n80 rfl rfl rfl (by decide +kernel) (by decide +kernel) (by decide +kernel) (C := RX2) (by decide +kernel) (by decide +kernel) ⟨Nat.le_of_ble_eq_true rfl, Nat.le_of_ble_eq_true rfl⟩ (ci := 2) rfl rfl (hc_at_tx (ht)) rfl hl.1 (Nat.le_of_ble_eq_true rfl) ⟨Nat.zero_le _, Nat.zero_le _⟩ hP hS (fun _ h => h) rfl dX3_write_28 (fun H locs hP hS _ _ => ?_)
      refine lv_istore (lv' := [(6, .int (HM.stc (x) (t))), (5, .ref (ad (9 + k))), (4, .ref (ad (57 + t))), (0, .ref (ad 0)), (1, .int (nI t)), (2, .int (nI k)), (3, .int (v))]) hx hb dX3_write_31 hl (by decide) rfl (fun ls hl => ?_)
      refine lv_iload hx hb dX3_write_33 (lv_at hl 0 rfl) ?_
      refine lv_if_eq (tgt := 41) hx hb dX3_write_35 (by decide) (fun c_1 => ?_) (fun c_1 => ?_)
      · refine lv_aload hx hb dX3_write_41 (lv_at hl 2 rfl) ?_
        refine hc_g_txn G (in_X3_write_X2) hP (ht) 1 (by decide) (by decide +kernel) (.ref (ad (5 + HM.gt (HM.stp (x) (t)) (t)))) rfl rfl dX3_write_43 ?_
        refine hs_callN (n := 0) (As := []) (rest := []) G hml (c_haveEvent l D cy ad ho (HM.stp (x) (t)) ((hI0.gt ht))) gX3_write_X1_haveEvent_n50 rfl rfl rfl (by decide +kernel) (by decide +kernel) (by decide +kernel) (C := RX1) (by decide +kernel) (by decide +kernel) ⟨Nat.le_of_ble_eq_true rfl, Nat.le_of_ble_eq_true rfl⟩ (ci := 1) rfl rfl (hc_at_node ((hI0.gt ht))) rfl hl.1 (Nat.le_of_ble_eq_true rfl) ⟨Nat.zero_le _, Nat.zero_le _⟩ hP hS (fun _ h => h) rfl dX3_write_46 (fun H locs hP hS _ _ => ?_)
        have hP : va_P D vwCl (hc_mem ad cy (HM.ev (HM.stp x t) (HM.gt (HM.stp x t) t))) H := hP
        refine lv_aload hx hb dX3_write_49 (lv_at hl 1 rfl) ?_
        refine hc_g_keyn G (in_X3_write_X0) hP (hk) 1 (by decide) (by decide +kernel) (.ref (ad (5 + (k) % 4))) rfl rfl dX3_write_51 ?_
        refine lv_aload hx hb dX3_write_54 (lv_at hl 2 rfl) ?_
        refine hc_g_txn G (in_X3_write_X2) hP (ht) 1 (by decide) (by decide +kernel) (.ref (ad (5 + HM.gt (HM.ev (HM.stp x t) (HM.gt (HM.stp x t) t)) (t)))) rfl rfl dX3_write_56 ?_
        refine hc_g_noden G (in_X3_write_X1) hP ((hI1.gt ht)) 1 (by decide) (by decide +kernel) (.long (HM.ck (HM.ev (HM.stp x t) (HM.gt (HM.stp x t) t)) (HM.gt (HM.ev (HM.stp x t) (HM.gt (HM.stp x t) t)) (t)))) rfl rfl dX3_write_59 ?_
        refine hs_callN (n := 1) (As := [.long (HM.ck (HM.ev (HM.stp x t) (HM.gt (HM.stp x t) t)) (HM.gt (HM.ev (HM.stp x t) (HM.gt (HM.stp x t) t)) (t)))]) (rest := []) G hml (c_takeIn l D cy ad ho (HM.ev (HM.stp x t) (HM.gt (HM.stp x t) t)) ((Nat.mod_lt _ (by decide))) (HM.ck (HM.ev (HM.stp x t) (HM.gt (HM.stp x t) t)) (HM.gt (HM.ev (HM.stp x t) (HM.gt (HM.stp x t) t)) (t)))) gX3_write_X1_takeIn_n92 rfl rfl rfl (by decide +kernel) (by decide +kernel) (by decide +kernel) (C := RX1) (by decide +kernel) (by decide +kernel) ⟨Nat.le_of_ble_eq_true rfl, Nat.le_of_ble_eq_true rfl⟩ (ci := 1) rfl rfl (hc_at_node ((Nat.mod_lt _ (by decide)))) rfl hl.1 (Nat.le_of_ble_eq_true rfl) ⟨Nat.zero_le _, Nat.zero_le _⟩ hP hS (fun _ h => h) rfl dX3_write_62 (fun H locs hP hS _ _ => ?_)
        have hP : va_P D vwCl (hc_mem ad cy (HM.opn (HM.stp x t) t k)) H := hP
        refine lv_aload_n hx hb dX3_write_65 rfl (lv_at hl 3 rfl) ?_
        refine lv_aload hx hb dX3_write_66 (lv_at hl 2 rfl) ?_
        refine lv_aload hx hb dX3_write_68 (lv_at hl 1 rfl) ?_
        refine lv_iload_n hx hb dX3_write_70 rfl (lv_at hl 6 rfl) ?_
        refine hs_callV (n := 3) (As := [.ref (ad (57 + t)), .ref (ad (9 + k)), .int (v)]) (rest := []) G hml (c_writeAtOwner l D cy ad ho (HM.opn (HM.stp x t) t k) _ (hI2) (by omega) (hbi2) (ht) (hk) (v)) gX3_write_X3_writeAtOwner rfl rfl rfl (by decide +kernel) ⟨Nat.le_of_ble_eq_true rfl, Nat.le_of_ble_eq_true rfl⟩ (ci := 3) rfl rfl (hc_at_top (j := 0) (by decide)) rfl hl.1 (Nat.le_of_ble_eq_true rfl) ⟨Nat.zero_le _, Nat.zero_le _⟩ hP hS (fun _ h => h) rfl dX3_write_71 (fun H locs hP hS _ _ => ?_)
        refine lv_istore (lv' := [(7, .int (HM.wrA (HM.opn (HM.stp x t) t k) (t) (k))), (6, .int (HM.stc (x) (t))), (5, .ref (ad (9 + k))), (4, .ref (ad (57 + t))), (0, .ref (ad 0)), (1, .int (nI t)), (2, .int (nI k)), (3, .int (v))]) hx hb dX3_write_74 hl (by decide) rfl (fun ls hl => ?_)
        have hP : va_P D vwCl (hc_mem ad cy (HM.wrM (HM.opn (HM.stp x t) t k) t k v)) H := hP
        refine lv_aload hx hb dX3_write_76 (lv_at hl 3 rfl) ?_
        refine hc_g_txn G (in_X3_write_X2) hP (ht) 1 (by decide) (by decide +kernel) (.ref (ad (5 + HM.gt (HM.wrM (HM.opn (HM.stp x t) t k) t k v) (t)))) rfl rfl dX3_write_78 ?_
        refine lv_aload hx hb dX3_write_81 (lv_at hl 2 rfl) ?_
        refine hc_g_keyn G (in_X3_write_X0) hP (hk) 1 (by decide) (by decide +kernel) (.ref (ad (5 + (k) % 4))) rfl rfl dX3_write_83 ?_
        refine hc_g_noden G (in_X3_write_X1) hP ((Nat.mod_lt _ (by decide))) 1 (by decide) (by decide +kernel) (.long (HM.ck (HM.wrM (HM.opn (HM.stp x t) t k) t k v) ((k) % 4))) rfl rfl dX3_write_86 ?_
        refine hs_callN (n := 1) (As := [.long (HM.ck (HM.wrM (HM.opn (HM.stp x t) t k) t k v) ((k) % 4))]) (rest := []) G hml (c_takeIn l D cy ad ho (HM.wrM (HM.opn (HM.stp x t) t k) t k v) ((hI3.gt ht)) (HM.ck (HM.wrM (HM.opn (HM.stp x t) t k) t k v) ((k) % 4))) gX3_write_X1_takeIn_n92 rfl rfl rfl (by decide +kernel) (by decide +kernel) (by decide +kernel) (C := RX1) (by decide +kernel) (by decide +kernel) ⟨Nat.le_of_ble_eq_true rfl, Nat.le_of_ble_eq_true rfl⟩ (ci := 1) rfl rfl (hc_at_node ((hI3.gt ht))) rfl hl.1 (Nat.le_of_ble_eq_true rfl) ⟨Nat.zero_le _, Nat.zero_le _⟩ hP hS (fun _ h => h) rfl dX3_write_89 (fun H locs hP hS _ _ => ?_)
        refine lv_iload hx hb dX3_write_92 (lv_at hl 0 rfl) ?_
        exact ct_iret hx hb hr hlocks (by rw [eA, if_pos c_1]) (by rw [eM, if_pos c_1]; exact hP) hS dX3_write_94
      · refine lv_iload hx hb dX3_write_38 (lv_at hl 0 rfl) ?_
        exact ct_iret hx hb hr hlocks (by rw [eA, if_neg c_1]) (by rw [eM, if_neg c_1]; exact hP) hS dX3_write_40
theorem in_X3_commit_X3 : ∀ w ∈ u_ws RX3 TX3 6, w ∈ wsX3_commit := by decide +kernel
theorem in_X3_commit_X1 : ∀ w ∈ u_ws RX1 TX1 2, w ∈ wsX3_commit := by decide +kernel
theorem in_X3_commit_X2 : ∀ w ∈ u_ws RX2 TX2 9, w ∈ wsX3_commit := by decide +kernel
set_option maxHeartbeats 4000000 in
set_option maxRecDepth 100000 in
/-- c_commit -/
theorem c_commit (l : Launch) (D : va_G) (cy : Nat → ClassId) (ad : Nat → Nat) (ho : hc_ok ad) (x : HM) (B : Int) (hIn : x.In B) (hB : B + 200 < 4611686018427387904) (hcm : ∀ t, t < 8 → x.ph t = 1 → x.cm.length < 256) (z : Int32) : Ct l yX3_commit wsX3_commit ({ frames := 5, cells := 0, slots := 0, locals := 113 }) D cy (hc_A ad) [.ref (ad 0), .int (z)] (hc_mem ad cy (x)) (some (.int (x.commitA z))) (hc_mem ad cy (x.commitM z)) := by
  rcases hs_rng z (b := 8) (by decide) with hz | ⟨t, ht, rfl⟩
  · refine ct_of (cc := cX3_commit) (maxL := 4) (ret := (some .int)) rfl (by decide) (Nat.le_of_ble_eq_true rfl) ?_
    intro p e s m below meth c ls G hx hb hml hr hlocks hP hS hl
    have hl : lv_has ls 4 [(0, .ref (ad 0)), (1, .int (z))] := hl
    refine lv_aload_n hx hb dX3_commit_0 rfl (lv_at hl 0 rfl) ?_
    refine lv_iload_n hx hb dX3_commit_1 rfl (lv_at hl 1 rfl) ?_
    refine hs_callV (n := 1) (As := [.int (z)]) (rest := []) G hml (c_transactionAt_no l D cy ad ho (x) (z) hz) gX3_commit_X3_transactionAt rfl rfl rfl (by decide +kernel) ⟨Nat.le_of_ble_eq_true rfl, Nat.le_of_ble_eq_true rfl⟩ (ci := 3) rfl rfl (hc_at_top (j := 0) (by decide)) rfl hl.1 (Nat.le_of_ble_eq_true rfl) ⟨Nat.zero_le _, Nat.zero_le _⟩ hP hS (fun _ h => h) rfl dX3_commit_2 (fun H locs hP hS _ _ => ?_)
    refine lv_astore_nN (lv' := [(2, .null), (0, .ref (ad 0)), (1, .int (z))]) hx hb dX3_commit_5 rfl hl (by decide) rfl (fun ls hl => ?_)
    refine lv_aload_nN hx hb dX3_commit_6 rfl (lv_at hl 0 rfl) ?_
    refine lv_ifnonnullN hx hb dX3_commit_7 ?_
    refine lv_iconst (v := (-1)) hx hb dX3_commit_10 (by decide) ?_
    exact ct_iret hx hb hr hlocks (by rw [HM.commitA, hs_n_out hz]) (by rw [HM.commitM, hs_n_out hz]; exact hP) hS dX3_commit_11
  · have eT := hs_n_in ht (show 8 < 2 ^ 31 by decide)
    have eA : x.commitA (nI t) = if x.stc t = 0 then ((x.stp t).ev ((x.stp t).gt t)).cmtA t else x.stc t := by rw [HM.commitA, eT]
    have eM : x.commitM (nI t) = if x.stc t = 0 then ((x.stp t).ev ((x.stp t).gt t)).cmtM t else x.stp t := by rw [HM.commitM, eT]
    have hI0 := hIn.stp t
    have hI1 := hI0.ev (by omega) (hI0.gt ht)
    rw [eA, eM]
    have hc1 : x.stc t = 0 → ((x.stp t).ev ((x.stp t).gt t)).cm.length < 256 := fun q => by
      have h := hs_stc0 q
      rw [show ((x.stp t).ev ((x.stp t).gt t)).cm = (x.stp t).cm from rfl, h.2]; exact hcm t ht (hs_code0 h.1)
    generalize hy : (x.stp t).ev ((x.stp t).gt t) = y at hI1 hc1 ⊢
    have hIm := HM.In.mrs ht 16 0 y _ rfl hI1 (by omega)
    refine ct_of (cc := cX3_commit) (maxL := 4) (ret := (some .int)) rfl (by decide) (Nat.le_of_ble_eq_true rfl) ?_
    intro p e s m below meth c ls G hx hb hml hr hlocks hP hS hl
    have hl : lv_has ls 4 [(0, .ref (ad 0)), (1, .int (nI t))] := hl
    have J58 : ∀ (u : HM), u.cm.length < 256 → (if x.stc t = 0 then y.cmtM t else x.stp t) = u.fin t → (if x.stc t = 0 then y.cmtA t else x.stc t) = 0 → ∀ (H : Heap) (locs : List Loc), va_P D vwCl (hc_mem ad cy (u)) H → va_S (hc_A ad) s.heap H locs → ∀ ls : Array Slot, lv_has ls 4 [(0, .ref (ad 0)), (2, .ref (ad (57 + t)))] → W p l e ({ frames := 5, cells := 0, slots := 0, locals := 113 }) s m [.ref (ad 0), .int (nI t)].toArray below meth c H locs 0 0 (MQ below (hs_Post D (some (.int (if x.stc t = 0 then y.cmtA t else x.stc t))) (hc_mem ad cy (if x.stc t = 0 then y.cmtM t else x.stp t)) (hc_A ad)) [.ref (ad 0), .int (nI t)].toArray s 0 0 (hc_A ad)) (F0 m 58 ls []) := by
      intro u hu e1 e2 H locs hP hS ls hl
      refine lv_aload_n hx hb dX3_commit_58 rfl (lv_at hl 1 rfl) ?_
      refine lv_aload_n hx hb dX3_commit_59 rfl (lv_at hl 1 rfl) ?_
      refine hc_g_txn G (in_X3_commit_X2) hP (ht) 5 (by decide) (by decide +kernel) (.long (HM.ws (u) (t))) rfl rfl dX3_commit_60 ?_
      refine hc_p_txn ho G (in_X3_commit_X2) hP hS (ht) 4 (by decide) (by decide +kernel) (.long (HM.ws (u) (t))) rfl rfl (.long) (by decide +kernel) rfl rfl (Nat.le_of_ble_eq_true rfl) (HM.u_rs (u) (t) (HM.ws (u) (t))) (hc_s_rs (v := HM.ws (u) (t)) (ht)) dX3_commit_63 (fun H locs hP hS => ?_)
      refine lv_aload_n hx hb dX3_commit_66 rfl (lv_at hl 1 rfl) ?_
      refine lv_iconst (v := 2) hx hb dX3_commit_67 (by decide) ?_
      refine hc_p_txn ho G (in_X3_commit_X2) hP hS (ht) 0 (by decide) (by decide +kernel) (.int (2)) rfl rfl (.int) (by decide +kernel) rfl rfl (Nat.le_of_ble_eq_true rfl) (HM.u_ph (HM.u_rs (u) (t) (HM.ws (u) (t))) (t) (2)) (hc_s_ph (v := 2) (ht)) dX3_commit_68 (fun H locs hP hS => ?_)
      refine lv_aload_n hx hb dX3_commit_71 rfl (lv_at hl 0 rfl) ?_
      refine lv_aload_n hx hb dX3_commit_72 rfl (lv_at hl 1 rfl) ?_
      refine hc_g_txn G (in_X3_commit_X2) hP (ht) 5 (by decide) (by decide +kernel) (.long (HM.ws (HM.u_ph (HM.u_rs (u) (t) (HM.ws (u) (t))) (t) (2)) (t))) rfl rfl dX3_commit_73 ?_
      refine hs_callV (n := 1) (As := [.long (HM.ws (HM.u_ph (HM.u_rs (u) (t) (HM.ws (u) (t))) (t) (2)) (t))]) (rest := []) G hml (c_logCommit l D cy ad ho (HM.u_ph (HM.u_rs (u) (t) (HM.ws (u) (t))) (t) (2)) (hu) (HM.ws (HM.u_ph (HM.u_rs (u) (t) (HM.ws (u) (t))) (t) (2)) (t))) gX3_commit_X3_logCommit rfl rfl rfl (by decide +kernel) ⟨Nat.le_of_ble_eq_true rfl, Nat.le_of_ble_eq_true rfl⟩ (ci := 3) rfl rfl (hc_at_top (j := 0) (by decide)) rfl hl.1 (Nat.le_of_ble_eq_true rfl) ⟨Nat.zero_le _, Nat.zero_le _⟩ hP hS (fun _ h => h) rfl dX3_commit_76 (fun H locs hP hS _ _ => ?_)
      refine lv_iconst (v := 0) hx hb dX3_commit_79 (by decide) ?_
      exact ct_iret hx hb hr hlocks (by rw [e2]) (by rw [e1]; exact hP) hS dX3_commit_80
    refine lv_aload_n hx hb dX3_commit_0 rfl (lv_at hl 0 rfl) ?_
    refine lv_iload_n hx hb dX3_commit_1 rfl (lv_at hl 1 rfl) ?_
    refine hs_callV (n := 1) (As := [.int (nI t)]) (rest := []) G hml (c_transactionAt l D cy ad ho (x) ht) gX3_commit_X3_transactionAt rfl rfl rfl (by decide +kernel) ⟨Nat.le_of_ble_eq_true rfl, Nat.le_of_ble_eq_true rfl⟩ (ci := 3) rfl rfl (hc_at_top (j := 0) (by decide)) rfl hl.1 (Nat.le_of_ble_eq_true rfl) ⟨Nat.zero_le _, Nat.zero_le _⟩ hP hS (fun _ h => h) rfl dX3_commit_2 (fun H locs hP hS _ _ => ?_)
    refine lv_astore_n (lv' := [(2, .ref (ad (57 + t))), (0, .ref (ad 0)), (1, .int (nI t))]) hx hb dX3_commit_5 rfl hl (by decide) rfl (fun ls hl => ?_)
    refine lv_aload_n hx hb dX3_commit_6 rfl (lv_at hl 0 rfl) ?_
    refine lv_ifnonnull (tgt := 12) hx hb dX3_commit_7 (by decide) ?_
    refine lv_aload_n hx hb dX3_commit_12 rfl (lv_at hl 0 rfl) ?_
    refine hs_callN (n := 0) (As := []) (rest := []) G hml (c_takeStop l D cy ad ho (x) (ht)) gX3_commit_X2_takeStoppingCode_n80 rfl rfl rfl (by decide +kernel) (by decide +kernel) (by decide +kernel) (C := RX2) (by decide +kernel) (by decide +kernel) ⟨Nat.le_of_ble_eq_true rfl, Nat.le_of_ble_eq_true rfl⟩ (ci := 2) rfl rfl (hc_at_tx (ht)) rfl hl.1 (Nat.le_of_ble_eq_true rfl) ⟨Nat.zero_le _, Nat.zero_le _⟩ hP hS (fun _ h => h) rfl dX3_commit_13 (fun H locs hP hS _ _ => ?_)
    refine lv_istore_n (lv' := [(3, .int (HM.stc (x) (t))), (2, .ref (ad (57 + t))), (0, .ref (ad 0)), (1, .int (nI t))]) hx hb dX3_commit_16 rfl hl (by decide) rfl (fun ls hl => ?_)
    refine lv_iload_n hx hb dX3_commit_17 rfl (lv_at hl 0 rfl) ?_
    refine lv_if_eq (tgt := 23) hx hb dX3_commit_18 (by decide) (fun c_1 => ?_) (fun c_1 => ?_)
    · have hc0 := c_1
      have hcl := hc1 hc0
      refine lv_aload_n hx hb dX3_commit_23 rfl (lv_at hl 1 rfl) ?_
      refine hc_g_txn G (in_X3_commit_X2) hP (ht) 1 (by decide) (by decide +kernel) (.ref (ad (5 + HM.gt (HM.stp (x) (t)) (t)))) rfl rfl dX3_commit_24 ?_
      refine hs_callN (n := 0) (As := []) (rest := []) G hml (c_haveEvent l D cy ad ho (HM.stp (x) (t)) ((hI0.gt ht))) gX3_commit_X1_haveEvent_n50 rfl rfl rfl (by decide +kernel) (by decide +kernel) (by decide +kernel) (C := RX1) (by decide +kernel) (by decide +kernel) ⟨Nat.le_of_ble_eq_true rfl, Nat.le_of_ble_eq_true rfl⟩ (ci := 1) rfl rfl (hc_at_node ((hI0.gt ht))) rfl hl.1 (Nat.le_of_ble_eq_true rfl) ⟨Nat.zero_le _, Nat.zero_le _⟩ hP hS (fun _ h => h) rfl dX3_commit_27 (fun H locs hP hS _ _ => ?_)
      rw [hy] at hP
      refine lv_aload_n hx hb dX3_commit_30 rfl (lv_at hl 1 rfl) ?_
      refine hc_g_txn G (in_X3_commit_X2) hP (ht) 5 (by decide) (by decide +kernel) (.long (HM.ws (y) (t))) rfl rfl dX3_commit_31 ?_
      refine lv_aload_n hx hb dX3_commit_34 rfl (lv_at hl 1 rfl) ?_
      refine hc_g_txn G (in_X3_commit_X2) hP (ht) 4 (by decide) (by decide +kernel) (.long (HM.rs (y) (t))) rfl rfl dX3_commit_35 ?_
      refine hs_lle (x := HM.ws (y) (t)) (y := HM.rs (y) (t)) (tgt := 58) hx hb dX3_commit_38 dX3_commit_39 (by decide) (fun c_2 => ?_) (fun c_2 => ?_)
      · exact J58 y hcl (by rw [if_pos hc0, HM.cmtM, if_neg c_2]) (by rw [if_pos hc0, HM.cmtA, if_neg c_2]) H locs hP hS ls (lv_sub hl [2, 1] rfl)
      · refine lv_aload_n hx hb dX3_commit_42 rfl (lv_at hl 2 rfl) ?_
        refine lv_aload_n hx hb dX3_commit_43 rfl (lv_at hl 1 rfl) ?_
        refine hs_callV (n := 1) (As := [.ref (ad (57 + t))]) (rest := []) G hml (c_moveReads l D cy ad ho (y) _ (hI1) (by omega) (ht)) gX3_commit_X3_moveReadsToWriteStamp rfl rfl rfl (by decide +kernel) ⟨Nat.le_of_ble_eq_true rfl, Nat.le_of_ble_eq_true rfl⟩ (ci := 3) rfl rfl (hc_at_top (j := 0) (by decide)) rfl hl.1 (Nat.le_of_ble_eq_true rfl) ⟨Nat.zero_le _, Nat.zero_le _⟩ hP hS (fun _ h => h) rfl dX3_commit_44 (fun H locs hP hS _ _ => ?_)
        refine lv_if_ne (tgt := 58) hx hb dX3_commit_47 (by decide) (fun c_3 => ?_) (fun c_3 => ?_)
        · have hmr : (hs_mrs t 16 0 y).2 = true := by
            cases hq : (hs_mrs t 16 0 y).2 with
            | true => rfl
            | false => rw [hq] at c_3; exact absurd rfl c_3
          exact J58 (hs_mrs t 16 0 y).1 (by rw [hs_mrs_cm]; exact hcl) (by rw [if_pos hc0, HM.cmtM, if_pos c_2, if_pos hmr]) (by rw [if_pos hc0, HM.cmtA, if_pos c_2, if_pos hmr]) H locs hP hS ls (lv_sub hl [2, 1] rfl)
        · have hmr : (hs_mrs t 16 0 y).2 = false := by
            cases hq : (hs_mrs t 16 0 y).2 with
            | false => rfl
            | true => rw [hq] at c_3; exact absurd c_3 (by decide)
          refine lv_aload_n hx hb dX3_commit_50 rfl (lv_at hl 2 rfl) ?_
          refine lv_aload_n hx hb dX3_commit_51 rfl (lv_at hl 1 rfl) ?_
          refine lv_lconst (v := 0) hx hb dX3_commit_52 (by decide) ?_
          refine hs_callV (n := 2) (As := [.ref (ad (57 + t)), .long (0)]) (rest := []) G hml (c_restart l D cy ad ho ((hs_mrs (t) 16 0 (y)).1) (fun _ h => hIm.hd h) (ht) (0)) gX3_commit_X3_restart rfl rfl rfl (by decide +kernel) ⟨Nat.le_of_ble_eq_true rfl, Nat.le_of_ble_eq_true rfl⟩ (ci := 3) rfl rfl (hc_at_top (j := 0) (by decide)) rfl hl.1 (Nat.le_of_ble_eq_true rfl) ⟨Nat.zero_le _, Nat.zero_le _⟩ hP hS (fun _ h => h) rfl dX3_commit_53 (fun H locs hP hS _ _ => ?_)
          refine lv_iconst (v := 1) hx hb dX3_commit_56 (by decide) ?_
          exact ct_iret hx hb hr hlocks (by rw [if_pos hc0, HM.cmtA, if_pos c_2, if_neg (by rw [hmr]; decide)]) (by rw [if_pos hc0, HM.cmtM, if_pos c_2, if_neg (by rw [hmr]; decide)]; exact hP) hS dX3_commit_57
    · refine lv_iload_n hx hb dX3_commit_21 rfl (lv_at hl 0 rfl) ?_
      exact ct_iret hx hb hr hlocks (by rw [if_neg c_1]) (by rw [if_neg c_1]; exact hP) hS dX3_commit_22
theorem in_X3_clean_X3 : ∀ w ∈ u_ws RX3 TX3 6, w ∈ wsX3_clean := by decide +kernel
theorem in_X3_clean_X0 : ∀ w ∈ u_ws RX0 TX0 8, w ∈ wsX3_clean := by decide +kernel
theorem in_X3_clean_X1 : ∀ w ∈ u_ws RX1 TX1 2, w ∈ wsX3_clean := by decide +kernel
theorem in_X3_clean_X2 : ∀ w ∈ u_ws RX2 TX2 9, w ∈ wsX3_clean := by decide +kernel
set_option maxHeartbeats 4000000 in
set_option maxRecDepth 100000 in
/-- c_clean -/
theorem c_clean (l : Launch) (D : va_G) (cy : Nat → ClassId) (ad : Nat → Nat) (ho : hc_ok ad) (x : HM) (B : Int) (hIn : x.In B) (hB : B + 200 < 4611686018427387904) (z : Int32) : Ct l yX3_clean wsX3_clean ({ frames := 2, cells := 0, slots := 0, locals := 43 }) D cy (hc_A ad) [.ref (ad 0), .int (z)] (hc_mem ad cy (x)) (some (.int (x.cleanA z))) (hc_mem ad cy (x.cleanM z)) := by
  rcases hs_rng z (b := 8) (by decide) with hz | ⟨t, ht, rfl⟩
  · refine ct_of (cc := cX3_clean) (maxL := 7) (ret := (some .int)) rfl (by decide) (Nat.le_of_ble_eq_true rfl) ?_
    intro p e s m below meth c ls G hx hb hml hr hlocks hP hS hl
    have hl : lv_has ls 7 [(0, .ref (ad 0)), (1, .int (z))] := hl
    refine lv_aload_n hx hb dX3_clean_0 rfl (lv_at hl 0 rfl) ?_
    refine lv_iload_n hx hb dX3_clean_1 rfl (lv_at hl 1 rfl) ?_
    refine hs_callV (n := 1) (As := [.int (z)]) (rest := []) G hml (c_transactionAt_no l D cy ad ho (x) (z) hz) gX3_clean_X3_transactionAt rfl rfl rfl (by decide +kernel) ⟨Nat.le_of_ble_eq_true rfl, Nat.le_of_ble_eq_true rfl⟩ (ci := 3) rfl rfl (hc_at_top (j := 0) (by decide)) rfl hl.1 (Nat.le_of_ble_eq_true rfl) ⟨Nat.zero_le _, Nat.zero_le _⟩ hP hS (fun _ h => h) rfl dX3_clean_2 (fun H locs hP hS _ _ => ?_)
    refine lv_astore_nN (lv' := [(2, .null), (0, .ref (ad 0)), (1, .int (z))]) hx hb dX3_clean_5 rfl hl (by decide) rfl (fun ls hl => ?_)
    refine lv_aload_nN hx hb dX3_clean_6 rfl (lv_at hl 0 rfl) ?_
    refine lv_ifnonnullN hx hb dX3_clean_7 ?_
    refine lv_iconst (v := (-1)) hx hb dX3_clean_10 (by decide) ?_
    exact ct_iret hx hb hr hlocks (by rw [HM.cleanA, hs_n_out hz]) (by rw [HM.cleanM, hs_n_out hz]; exact hP) hS dX3_clean_11
  · have eT := hs_n_in ht (show 8 < 2 ^ 31 by decide)
    have eA : x.cleanA (nI t) = if x.ph t = 0 then -4 else if x.ph t = 1 then -9 else 0 := by rw [HM.cleanA, eT]
    have eM : x.cleanM (nI t) = if x.ph t = 0 then x else if x.ph t = 1 then x else (hs_cl t 16 0 x).u_ph t 0 := by rw [HM.cleanM, eT]
    rw [eA, eM]
    refine ct_of (cc := cX3_clean) (maxL := 7) (ret := (some .int)) rfl (by decide) (Nat.le_of_ble_eq_true rfl) ?_
    intro p e s m below meth c ls G hx hb hml hr hlocks hP hS hl
    have hl : lv_has ls 7 [(0, .ref (ad 0)), (1, .int (nI t))] := hl
    have loop : ¬ x.ph t = 0 → ¬ x.ph t = 1 → ∀ (n i : Nat), i + n = 16 → ∀ (y : HM) (C : Int), y.In C → C + n + 20 < 4611686018427387904 → hs_cl t n i y = hs_cl t 16 0 x → ∀ (H : Heap) (locs : List Loc), va_P D vwCl (hc_mem ad cy y) H → va_S (hc_A ad) s.heap H locs → ∀ ls : Array Slot, lv_has ls 7 [(5, .int (nI i)), (4, .int (16)), (3, .ref (ad 2)), (0, .ref (ad 0)), (2, .ref (ad (57 + t)))] → W p l e ({ frames := 2, cells := 0, slots := 0, locals := 43 }) s m [.ref (ad 0), .int (nI t)].toArray below meth c H locs 0 0 (MQ below (hs_Post D (some (.int (if x.ph t = 0 then -4 else if x.ph t = 1 then -9 else 0))) (hc_mem ad cy (if x.ph t = 0 then x else if x.ph t = 1 then x else (hs_cl t 16 0 x).u_ph t 0)) (hc_A ad)) [.ref (ad 0), .int (nI t)].toArray s 0 0 (hc_A ad)) (F0 m 45 ls []) := by
      intro hp0 hp1 n
      induction n with
      | zero =>
        intro i hi y C hy hC he H locs hP hS ls hl
        refine lv_iload hx hb dX3_clean_45 (lv_at hl 0 rfl) ?_
        refine lv_iload hx hb dX3_clean_47 (lv_at hl 1 rfl) ?_
        refine lv_icmp_ge (tgt := 93) hx hb dX3_clean_49 (by decide) (fun c_1 => ?_) (fun c_1 => ?_)
        · refine lv_aload_n hx hb dX3_clean_93 rfl (lv_at hl 4 rfl) ?_
          refine lv_iconst (v := 0) hx hb dX3_clean_94 (by decide) ?_
          refine hc_p_txn ho G (in_X3_clean_X2) hP hS (ht) 0 (by decide) (by decide +kernel) (.int (0)) rfl rfl (.int) (by decide +kernel) rfl rfl (Nat.le_of_ble_eq_true rfl) (HM.u_ph (y) (t) (0)) (hc_s_ph (v := 0) (ht)) dX3_clean_95 (fun H locs hP hS => ?_)
          refine lv_iconst (v := 0) hx hb dX3_clean_98 (by decide) ?_
          exact ct_iret hx hb hr hlocks (by rw [if_neg hp0, if_neg hp1]) (by rw [if_neg hp0, if_neg hp1, ← he]; exact hP) hS dX3_clean_99
        · exact absurd (show (16 : Int32) ≤ nI i from nI_le (a := 16) (by omega) (by omega)) c_1
      | succ n ih =>
        intro i hi y C hy hC he H locs hP hS ls hl
        refine lv_iload hx hb dX3_clean_45 (lv_at hl 0 rfl) ?_
        refine lv_iload hx hb dX3_clean_47 (lv_at hl 1 rfl) ?_
        refine lv_icmp_ge (tgt := 93) hx hb dX3_clean_49 (by decide) (fun c_1 => ?_) (fun c_1 => ?_)
        · exact absurd c_1 (nI_ge (b := 16) (by omega) (by decide))
        · have hi16 : i < 16 := by omega
          refine lv_aload_n hx hb dX3_clean_52 rfl (lv_at hl 2 rfl) ?_
          refine lv_iload hx hb dX3_clean_53 (lv_at hl 0 rfl) ?_
          refine va_aldq hx hb G.2.2.2.2.1 hP 2 4 (hc_at_top (by decide)) rfl (hs_in (k := i) (n := 16) (nI_clamp (by omega)) (hs_inN (by omega) (by decide))) dX3_clean_55 ?_
          rw [show Int32.toNatClampNeg (nI i) = i from nI_clamp (by omega)]
          show W _ _ _ _ _ _ _ _ _ _ _ _ _ _ _ (F0 m (55 + 1) ls (.ref (ad (9 + i)) :: []))
          refine lv_astore (lv' := [(6, .ref (ad (9 + i))), (5, .int (nI i)), (4, .int (16)), (3, .ref (ad 2)), (0, .ref (ad 0)), (2, .ref (ad (57 + t)))]) hx hb dX3_clean_56 hl (by decide) rfl (fun ls hl => ?_)
          refine lv_aload hx hb dX3_clean_58 (lv_at hl 0 rfl) ?_
          refine hc_g_keyn G (in_X3_clean_X0) hP (hi16) 6 (by decide) (by decide +kernel) (va_rf ((HM.hd (y) (i)).map (fun t => ad (57 + t)))) rfl rfl dX3_clean_60 ?_
          refine lv_aload_n hx hb dX3_clean_63 rfl (lv_at hl 5 rfl) ?_
          refine lv_acmp_ne (rx := (HM.hd (y) (i)).map (fun t => ad (57 + t))) (ry := some (ad (57 + t))) (tgt := 87) hx hb dX3_clean_64 (by decide) (fun c_2 => ?_) (fun c_2 => ?_)
          · have hh : ¬ y.hd i = some t := fun q => c_2 ((hc_txI ho ht (hy.hd hi16)).mpr q)
            refine lv_iinc (v := nI (i + 1)) (lv' := [(5, .int (nI (i + 1))), (6, .ref (ad (9 + i))), (4, .int (16)), (3, .ref (ad 2)), (0, .ref (ad 0)), (2, .ref (ad (57 + t)))]) hx hb dX3_clean_87 hl (k := 1) rfl (nI_1 i) (by decide) rfl (fun ls hl => ?_)
            refine lv_goto (tgt := 45) hx hb dX3_clean_90 (by decide) ?_
            have hck : y.clk t i = y := if_neg hh
            exact ih (i + 1) (by omega) (y.clk t i) (C + 1) (hy.clk (by omega) ht hi16) (by omega) (by rw [← he, hs_cl_succ]) H locs (by rw [hck]; exact hP) hS ls (lv_sub hl [0, 2, 3, 4, 5] rfl)
          · have hh : y.hd i = some t := (hc_txI ho ht (hy.hd hi16)).mp c_2
            refine lv_aload hx hb dX3_clean_67 (lv_at hl 0 rfl) ?_
            refine hc_g_keyn G (in_X3_clean_X0) hP (hi16) 1 (by decide) (by decide +kernel) (.ref (ad (5 + (i) % 4))) rfl rfl dX3_clean_69 ?_
            refine lv_aload_n hx hb dX3_clean_72 rfl (lv_at hl 5 rfl) ?_
            refine hc_g_txn G (in_X3_clean_X2) hP (ht) 1 (by decide) (by decide +kernel) (.ref (ad (5 + HM.gt (y) (t)))) rfl rfl dX3_clean_73 ?_
            refine hc_g_noden G (in_X3_clean_X1) hP ((hy.gt ht)) 1 (by decide) (by decide +kernel) (.long (HM.ck (y) (HM.gt (y) (t)))) rfl rfl dX3_clean_76 ?_
            refine hs_callN (n := 1) (As := [.long (HM.ck (y) (HM.gt (y) (t)))]) (rest := []) G hml (c_takeIn l D cy ad ho (y) ((Nat.mod_lt _ (by decide))) (HM.ck (y) (HM.gt (y) (t)))) gX3_clean_X1_takeIn_n92 rfl rfl rfl (by decide +kernel) (by decide +kernel) (by decide +kernel) (C := RX1) (by decide +kernel) (by decide +kernel) ⟨Nat.le_of_ble_eq_true rfl, Nat.le_of_ble_eq_true rfl⟩ (ci := 1) rfl rfl (hc_at_node ((Nat.mod_lt _ (by decide)))) rfl hl.1 (Nat.le_of_ble_eq_true rfl) ⟨Nat.zero_le _, Nat.zero_le _⟩ hP hS (fun _ h => h) rfl dX3_clean_79 (fun H locs hP hS _ _ => ?_)
            refine lv_aload hx hb dX3_clean_82 (lv_at hl 0 rfl) ?_
            refine hs_callN (n := 0) (As := []) (rest := []) G hml (c_settle l D cy ad ho (HM.tk (y) ((i) % 4) (HM.ck (y) (HM.gt (y) (t)))) (hi16) (ht) (hh) (hy.lt16 hi16 (by rw [hh]; rfl))) gX3_clean_X0_settleIntent_n134 rfl rfl rfl (by decide +kernel) (by decide +kernel) (by decide +kernel) (C := RX0) (by decide +kernel) (by decide +kernel) ⟨Nat.le_of_ble_eq_true rfl, Nat.le_of_ble_eq_true rfl⟩ (ci := 0) rfl rfl (hc_at_key (hi16)) rfl hl.1 (Nat.le_of_ble_eq_true rfl) ⟨Nat.zero_le _, Nat.zero_le _⟩ hP hS (fun _ h => h) rfl dX3_clean_84 (fun H locs hP hS _ _ => ?_)
            refine lv_iinc (v := nI (i + 1)) (lv' := [(5, .int (nI (i + 1))), (6, .ref (ad (9 + i))), (4, .int (16)), (3, .ref (ad 2)), (0, .ref (ad 0)), (2, .ref (ad (57 + t)))]) hx hb dX3_clean_87 hl (k := 1) rfl (nI_1 i) (by decide) rfl (fun ls hl => ?_)
            refine lv_goto (tgt := 45) hx hb dX3_clean_90 (by decide) ?_
            have hck : y.clk t i = ((y.tk (i % 4) (y.ck (y.gt t))).stl i t) := if_pos hh
            exact ih (i + 1) (by omega) (y.clk t i) (C + 1) (hy.clk (by omega) ht hi16) (by omega) (by rw [← he, hs_cl_succ]) H locs (by rw [hck]; exact hP) hS ls (lv_sub hl [0, 2, 3, 4, 5] rfl)
    refine lv_aload_n hx hb dX3_clean_0 rfl (lv_at hl 0 rfl) ?_
    refine lv_iload_n hx hb dX3_clean_1 rfl (lv_at hl 1 rfl) ?_
    refine hs_callV (n := 1) (As := [.int (nI t)]) (rest := []) G hml (c_transactionAt l D cy ad ho (x) ht) gX3_clean_X3_transactionAt rfl rfl rfl (by decide +kernel) ⟨Nat.le_of_ble_eq_true rfl, Nat.le_of_ble_eq_true rfl⟩ (ci := 3) rfl rfl (hc_at_top (j := 0) (by decide)) rfl hl.1 (Nat.le_of_ble_eq_true rfl) ⟨Nat.zero_le _, Nat.zero_le _⟩ hP hS (fun _ h => h) rfl dX3_clean_2 (fun H locs hP hS _ _ => ?_)
    refine lv_astore_n (lv' := [(2, .ref (ad (57 + t))), (0, .ref (ad 0)), (1, .int (nI t))]) hx hb dX3_clean_5 rfl hl (by decide) rfl (fun ls hl => ?_)
    refine lv_aload_n hx hb dX3_clean_6 rfl (lv_at hl 0 rfl) ?_
    refine lv_ifnonnull (tgt := 12) hx hb dX3_clean_7 (by decide) ?_
    refine lv_aload_n hx hb dX3_clean_12 rfl (lv_at hl 0 rfl) ?_
    refine hc_g_txn G (in_X3_clean_X2) hP (ht) 0 (by decide) (by decide +kernel) (.int (HM.ph (x) (t))) rfl rfl dX3_clean_13 ?_
    refine lv_if_ne (tgt := 22) hx hb dX3_clean_16 (by decide) (fun c_1 => ?_) (fun c_1 => ?_)
    · refine lv_aload_n hx hb dX3_clean_22 rfl (lv_at hl 0 rfl) ?_
      refine hc_g_txn G (in_X3_clean_X2) hP (ht) 0 (by decide) (by decide +kernel) (.int (HM.ph (x) (t))) rfl rfl dX3_clean_23 ?_
      refine lv_iconst (v := 1) hx hb dX3_clean_26 (by decide) ?_
      refine lv_icmp_ne (tgt := 33) hx hb dX3_clean_27 (by decide) (fun c_2 => ?_) (fun c_2 => ?_)
      · refine lv_aload_n hx hb dX3_clean_33 rfl (lv_at hl 1 rfl) ?_
        refine hc_g_store G (in_X3_clean_X3) hP 1 (by decide) (by decide +kernel) (.ref (ad 2)) rfl rfl dX3_clean_34 ?_
        refine lv_astore_n (lv' := [(3, .ref (ad 2)), (2, .ref (ad (57 + t))), (0, .ref (ad 0)), (1, .int (nI t))]) hx hb dX3_clean_37 rfl hl (by decide) rfl (fun ls hl => ?_)
        refine lv_aload_n hx hb dX3_clean_38 rfl (lv_at hl 0 rfl) ?_
        refine va_alen hx hb G.2.2.2.2.1 hP 2 4 (hc_at_top (by decide)) rfl (v := 16) rfl dX3_clean_39 ?_
        refine lv_istore (lv' := [(4, .int (16)), (3, .ref (ad 2)), (2, .ref (ad (57 + t))), (0, .ref (ad 0)), (1, .int (nI t))]) hx hb dX3_clean_40 hl (by decide) rfl (fun ls hl => ?_)
        refine lv_iconst (v := 0) hx hb dX3_clean_42 (by decide) ?_
        refine lv_istore (lv' := [(5, .int (0)), (4, .int (16)), (3, .ref (ad 2)), (2, .ref (ad (57 + t))), (0, .ref (ad 0)), (1, .int (nI t))]) hx hb dX3_clean_43 hl (by decide) rfl (fun ls hl => ?_)
        exact loop c_1 c_2 16 0 rfl x B hIn (by omega) rfl _ _ hP hS ls (lv_sub hl [0, 1, 2, 4, 3] rfl)
      · refine lv_bipush (v := (-9)) hx hb dX3_clean_30 (by decide) ?_
        exact ct_iret hx hb hr hlocks (by rw [if_neg c_1, if_pos c_2]) (by rw [if_neg c_1, if_pos c_2]; exact hP) hS dX3_clean_32
    · refine lv_bipush (v := (-4)) hx hb dX3_clean_19 (by decide) ?_
      exact ct_iret hx hb hr hlocks (by rw [if_pos c_1]) (by rw [if_pos c_1]; exact hP) hS dX3_clean_21
end
section
/-! ===== the reference: one object and eighteen arrays ===== -/
def hm_ho (o : Option Nat) : Int32 := match o with
  | none => 0
  | some t => nI (t + 1)
def hm_gt (x : HM) : Nat → Int32 := fun t => nI (x.gt t)
def hm_bi (x : HM) : Nat → Int64 := fun t => lN (x.bi t)
def hm_se (x : HM) : Nat → Int32 := fun j => if x.se (j / 16) (j % 16) then 1 else 0
def hm_cm (x : HM) : Nat → Int64 := fun i => x.cm.getD i 0
def hm_hd (x : HM) : Nat → Int32 := fun k => hm_ho (x.hd k)
def hm_vk (x : HM) : Nat → Int32 := fun i => nI (x.vs.getD i (0, 0, 0)).1
def hm_va (x : HM) : Nat → Int64 := fun i => (x.vs.getD i (0, 0, 0)).2.1
def hm_vv (x : HM) : Nat → Int32 := fun i => (x.vs.getD i (0, 0, 0)).2.2
def hm_objL (bd : Nat → Nat) (x : HM) : List Value := [.ref (bd 1), .ref (bd 2), .ref (bd 3), .ref (bd 4), .ref (bd 5), .ref (bd 6), .ref (bd 7), .ref (bd 8), .ref (bd 9), .ref (bd 10), .ref (bd 11), .long (lN x.bs), .int (nI x.cm.length), .ref (bd 12), .ref (bd 13), .ref (bd 14), .ref (bd 15), .int (nI x.vs.length), .ref (bd 16), .ref (bd 17), .ref (bd 18)]
def hm_mem (bd : Nat → Nat) (cy : Nat → ClassId) (x : HM) : va_W := [(bd 0, .inr (4, hm_objL bd x)), (bd 1, .inl (cy 0, 4, .inl (x.rd))), (bd 2, .inl (cy 1, 4, .inr (.inl (x.ck)))), (bd 3, .inl (cy 0, 8, .inl (x.ph))), (bd 4, .inl (cy 0, 8, .inl (hm_gt x))), (bd 5, .inl (cy 0, 8, .inl (x.bt))), (bd 6, .inl (cy 1, 8, .inr (.inl (hm_bi x)))), (bd 7, .inl (cy 1, 8, .inr (.inl (x.rs)))), (bd 8, .inl (cy 1, 8, .inr (.inl (x.ws)))), (bd 9, .inl (cy 1, 8, .inr (.inl (x.lm)))), (bd 10, .inl (cy 2, 8, .inl (x.hu))), (bd 11, .inl (cy 2, 128, .inl (hm_se x))), (bd 12, .inl (cy 1, 512, .inr (.inl (hm_cm x)))), (bd 13, .inl (cy 1, 16, .inr (.inl (x.lr)))), (bd 14, .inl (cy 0, 16, .inl (hm_hd x))), (bd 15, .inl (cy 0, 16, .inl (x.pl))), (bd 16, .inl (cy 0, 256, .inl (hm_vk x))), (bd 17, .inl (cy 1, 256, .inr (.inl (hm_va x)))), (bd 18, .inl (cy 0, 256, .inl (hm_vv x)))]
def hm_ok (bd : Nat → Nat) : Prop := ∀ i, i < 19 → ∀ j, j < 19 → bd i = bd j → i = j
def hm_A (bd : Nat → Nat) : Nat → Prop := fun q => ∃ j, j < 19 ∧ q = bd j
theorem hm_D {bd : Nat → Nat} (ho : hm_ok bd) (cy : Nat → ClassId) (x : HM) : va_D (hm_A bd) (hm_mem bd cy x) := by
  have hf : (hm_mem bd cy x).map Prod.fst = (List.range 19).map bd := rfl
  have key : ∀ (k : Nat) (q : Nat × va_E), (hm_mem bd cy x)[k]? = some q → k < 19 ∧ q.1 = bd k := by
    intro k q h
    have h1 : ((hm_mem bd cy x).map Prod.fst)[k]? = some q.1 := by rw [List.getElem?_map, h]; rfl
    rw [hf] at h1
    by_cases hk : k < 19
    · refine ⟨hk, ?_⟩
      simp [hk] at h1
      exact h1.symm
    · simp [hk] at h1
  refine ⟨fun i j p q hp hq e => ?_, fun k q h => ?_⟩
  · obtain ⟨h1, h2⟩ := key i p hp
    obtain ⟨h3, h4⟩ := key j q hq
    exact ho i h1 j h3 (by rw [← h2, ← h4]; exact e)
  · obtain ⟨h1, h2⟩ := key k q h
    exact ⟨k, h1, h2⟩
/-! a place of an array is set -/
theorem hm_s_rd {bd : Nat → Nat} {cy : Nat → ClassId} {x : HM} {i : Nat} {v : Int32} : (hm_mem bd cy x).set 1 (bd 1, .inl (cy 0, 4, .inl (upd (x.rd) i (v)))) = hm_mem bd cy (x.u_rd i v) := rfl
theorem hm_s_ck {bd : Nat → Nat} {cy : Nat → ClassId} {x : HM} {i : Nat} {v : Int64} : (hm_mem bd cy x).set 2 (bd 2, .inl (cy 1, 4, .inr (.inl (vp_updL (x.ck) i (v))))) = hm_mem bd cy (x.u_ck i v) := rfl
theorem hm_s_ph {bd : Nat → Nat} {cy : Nat → ClassId} {x : HM} {i : Nat} {v : Int32} : (hm_mem bd cy x).set 3 (bd 3, .inl (cy 0, 8, .inl (upd (x.ph) i (v)))) = hm_mem bd cy (x.u_ph i v) := rfl
theorem hm_s_bt {bd : Nat → Nat} {cy : Nat → ClassId} {x : HM} {i : Nat} {v : Int32} : (hm_mem bd cy x).set 5 (bd 5, .inl (cy 0, 8, .inl (upd (x.bt) i (v)))) = hm_mem bd cy (x.u_bt i v) := rfl
theorem hm_s_rs {bd : Nat → Nat} {cy : Nat → ClassId} {x : HM} {i : Nat} {v : Int64} : (hm_mem bd cy x).set 7 (bd 7, .inl (cy 1, 8, .inr (.inl (vp_updL (x.rs) i (v))))) = hm_mem bd cy (x.u_rs i v) := rfl
theorem hm_s_ws {bd : Nat → Nat} {cy : Nat → ClassId} {x : HM} {i : Nat} {v : Int64} : (hm_mem bd cy x).set 8 (bd 8, .inl (cy 1, 8, .inr (.inl (vp_updL (x.ws) i (v))))) = hm_mem bd cy (x.u_ws i v) := rfl
theorem hm_s_lm {bd : Nat → Nat} {cy : Nat → ClassId} {x : HM} {i : Nat} {v : Int64} : (hm_mem bd cy x).set 9 (bd 9, .inl (cy 1, 8, .inr (.inl (vp_updL (x.lm) i (v))))) = hm_mem bd cy (x.u_lm i v) := rfl
theorem hm_s_hu {bd : Nat → Nat} {cy : Nat → ClassId} {x : HM} {i : Nat} {v : Int32} : (hm_mem bd cy x).set 10 (bd 10, .inl (cy 2, 8, .inl (upd (x.hu) i (v)))) = hm_mem bd cy (x.u_hu i v) := rfl
theorem hm_s_lr {bd : Nat → Nat} {cy : Nat → ClassId} {x : HM} {i : Nat} {v : Int64} : (hm_mem bd cy x).set 13 (bd 13, .inl (cy 1, 16, .inr (.inl (vp_updL (x.lr) i (v))))) = hm_mem bd cy (x.u_lr i v) := rfl
theorem hm_s_pl {bd : Nat → Nat} {cy : Nat → ClassId} {x : HM} {i : Nat} {v : Int32} : (hm_mem bd cy x).set 15 (bd 15, .inl (cy 0, 16, .inl (upd (x.pl) i (v)))) = hm_mem bd cy (x.u_pl i v) := rfl
theorem hm_f_gt {x : HM} {i v : Nat} : upd (hm_gt x) i (nI v) = hm_gt (x.u_gt i v) := by
  funext j
  show (if j = i then nI v else nI (x.gt j)) = nI (if j = i then v else x.gt j)
  split <;> rfl
theorem hm_s_gt {bd : Nat → Nat} {cy : Nat → ClassId} {x : HM} {i v : Nat} : (hm_mem bd cy x).set 4 (bd 4, .inl (cy 0, 8, .inl (upd (hm_gt x) i (nI v)))) = hm_mem bd cy (x.u_gt i v) := by
  rw [hm_f_gt]; rfl
theorem hm_f_bi {x : HM} {i v : Nat} : vp_updL (hm_bi x) i (lN v) = hm_bi (x.u_bi i v) := by
  funext j
  show (if j = i then lN v else lN (x.bi j)) = lN (if j = i then v else x.bi j)
  split <;> rfl
theorem hm_s_bi {bd : Nat → Nat} {cy : Nat → ClassId} {x : HM} {i v : Nat} : (hm_mem bd cy x).set 6 (bd 6, .inl (cy 1, 8, .inr (.inl (vp_updL (hm_bi x) i (lN v))))) = hm_mem bd cy (x.u_bi i v) := by
  rw [hm_f_bi]; rfl
theorem hm_f_hdN {x : HM} {i : Nat} : upd (hm_hd x) i (0) = hm_hd (x.u_hd i none) := by
  funext j
  show (if j = i then 0 else hm_ho (x.hd j)) = hm_ho (if j = i then none else x.hd j)
  split <;> rfl
theorem hm_s_hdN {bd : Nat → Nat} {cy : Nat → ClassId} {x : HM} {i : Nat} : (hm_mem bd cy x).set 14 (bd 14, .inl (cy 0, 16, .inl (upd (hm_hd x) i (0)))) = hm_mem bd cy (x.u_hd i none) := by
  rw [hm_f_hdN]; rfl
theorem hm_f_hdS {x : HM} {i t : Nat} : upd (hm_hd x) i (nI (t + 1)) = hm_hd (x.u_hd i (some t)) := by
  funext j
  show (if j = i then nI (t + 1) else hm_ho (x.hd j)) = hm_ho (if j = i then some t else x.hd j)
  split <;> rfl
theorem hm_s_hdS {bd : Nat → Nat} {cy : Nat → ClassId} {x : HM} {i t : Nat} : (hm_mem bd cy x).set 14 (bd 14, .inl (cy 0, 16, .inl (upd (hm_hd x) i (nI (t + 1))))) = hm_mem bd cy (x.u_hd i (some t)) := by
  rw [hm_f_hdS]; rfl
theorem hm_f_seF {x : HM} {t k : Nat} (hk : k < 16) : upd (hm_se x) (t * 16 + k) (0) = hm_se (x.u_se t (va_up (x.se t) k false)) := by
  funext j
  show (if j = t * 16 + k then 0 else if x.se (j / 16) (j % 16) then (1 : Int32) else 0) = if (va_up x.se t (va_up (x.se t) k false)) (j / 16) (j % 16) then 1 else 0
  by_cases e : j = t * 16 + k
  · rw [if_pos e, show j / 16 = t by omega, show j % 16 = k by omega, va_up_self, va_up_self]; rfl
  · rw [if_neg e]
    by_cases e2 : j / 16 = t
    · rw [e2, va_up_self, va_up_ne _ _ (show j % 16 ≠ k by omega)]
    · rw [va_up_ne _ _ e2]
theorem hm_s_seF {bd : Nat → Nat} {cy : Nat → ClassId} {x : HM} {t k : Nat} (hk : k < 16) : (hm_mem bd cy x).set 11 (bd 11, .inl (cy 2, 128, .inl (upd (hm_se x) (t * 16 + k) (0)))) = hm_mem bd cy (x.u_se t (va_up (x.se t) k false)) := by
  rw [hm_f_seF hk]; rfl
theorem hm_f_seT {x : HM} {t k : Nat} (hk : k < 16) : upd (hm_se x) (t * 16 + k) (1) = hm_se (x.u_se t (va_up (x.se t) k true)) := by
  funext j
  show (if j = t * 16 + k then 1 else if x.se (j / 16) (j % 16) then (1 : Int32) else 0) = if (va_up x.se t (va_up (x.se t) k true)) (j / 16) (j % 16) then 1 else 0
  by_cases e : j = t * 16 + k
  · rw [if_pos e, show j / 16 = t by omega, show j % 16 = k by omega, va_up_self, va_up_self]; rfl
  · rw [if_neg e]
    by_cases e2 : j / 16 = t
    · rw [e2, va_up_self, va_up_ne _ _ (show j % 16 ≠ k by omega)]
    · rw [va_up_ne _ _ e2]
theorem hm_s_seT {bd : Nat → Nat} {cy : Nat → ClassId} {x : HM} {t k : Nat} (hk : k < 16) : (hm_mem bd cy x).set 11 (bd 11, .inl (cy 2, 128, .inl (upd (hm_se x) (t * 16 + k) (1)))) = hm_mem bd cy (x.u_se t (va_up (x.se t) k true)) := by
  rw [hm_f_seT hk]; rfl
section HMR
variable {p : Program} {l : Launch} {e : Env} {R : Room} {s : State} {m : MethodId} {args : Array Value} {below : List Frame} {meth : Method} {c : Code} {H H0 : Heap} {locs : List Loc} {cells slots : Nat} {Q : State → Prop}
variable {cc : ByteArray} {pc : Nat} {ls : Array Slot} {rest : List Value} {D : va_G} {cy : Nat → ClassId} {ws : va_W} {Ts : List Cond} {own : String} {A : Nat → Prop} {a : Nat}
theorem hm_gf {fs : List Value} (G : hs_C p s m c cc args Ts own D cy) (hin : ∀ w ∈ u_ws RX4 TX4 21, w ∈ Ts) (hP : va_P D vwCl ws H) (hat : ws[0]? = some (a, .inr (4, fs))) {index : Nat} (k : Nat) (hk : k < 21) (hl : Cond.fieldLink own index RX4 (TX4 k).2.1 (TX4 k).2.2.1 ∈ Ts) (v : Value) (hs : (TX4 k).1 = RX4) (hv : fs[k]? = some v) (hdg : decode cc pc = .ok (.getfield index, 3))
    (kk : W p l e R s m args below meth c H locs cells slots Q (F0 m (pc + 3) ls (v :: rest))) : W p l e R s m args below meth c H locs cells slots Q (F0 m pc ls (.ref a :: rest)) :=
  va_get (D := D) (ci := 4) (v := v) (C := RX4) (T := TX4) (N := 21) G.1 G.2.1 G.2.2.1 hin G.2.2.2.1 G.2.2.2.2.1 hP 0 hat rfl k hk (G.2.2.1 _ hl) (fun _ h9 => by rw [hs] at h9; exact h9) hv hdg kk
theorem hm_pf {fs : List Value} (G : hs_C p s m c cc args Ts own D cy) (hin : ∀ w ∈ u_ws RX4 TX4 21, w ∈ Ts) (hP : va_P D vwCl ws H) (hD : va_D A ws) (hS : va_S A H0 H locs) (hat : ws[0]? = some (a, .inr (4, fs))) {index : Nat} (k : Nat) (hk : k < 21) (hl : Cond.fieldLink own index RX4 (TX4 k).2.1 (TX4 k).2.2.1 ∈ Ts) (v : Value) (hs : (TX4 k).1 = RX4) (hfin : (TX4 k).2.2.2 = false) (fty : FieldType) (hd : parseFieldDescriptor (TX4 k).2.2.1 = some fty) (hn : narrow fty v = v) (hfit : fits fty v = true) (hl2 : k < fs.length) (ws' : va_W) (hx' : ws.set 0 (a, .inr (4, fs.set k v)) = ws') (hdg : decode cc pc = .ok (.putfield index, 3))
    (kk : ∀ (H1 : Heap) (locs1 : List Loc), va_P D vwCl ws' H1 → va_D A ws' → va_S A H0 H1 locs1 → W p l e R s m args below meth c H1 locs1 cells slots Q (F0 m (pc + 3) ls rest)) : W p l e R s m args below meth c H locs cells slots Q (F0 m pc ls (v :: .ref a :: rest)) :=
  va_put (D := D) (ci := 4) (v := v) (ty := fty) (C := RX4) (T := TX4) (N := 21) G.1 G.2.1 G.2.2.1 hin tyX4 tyX4_ok nmX4 G.2.2.2.1 G.2.2.2.2.1 hP hD hS 0 hat rfl k hk (G.2.2.1 _ hl) (fun _ h9 => by rw [hs] at h9; exact h9) hfin hd hn hfit hl2 hdg (fun H1 locs1 hP1 hD1 hS1 => kk H1 locs1 (by rw [← hx']; exact hP1) (by rw [← hx']; exact hD1) hS1)
theorem hm_lL (G : hs_C p s m c cc args Ts own D cy) (hP : va_P D vwCl ws H) (q0 : Nat) (f : Nat → Int64) (n : Nat) (ha : ws[q0]? = some (a, .inl (cy 1, n, .inr (.inl f)))) {i : Int32} (k : Nat) (hc : i.toNatClampNeg = k) (hi : ¬ i < 0 ∧ k < n) (v : Int64) (hv : f k = v) (hdg : decode cc pc = .ok (.laload, 1))
    (kk : W p l e R s m args below meth c H locs cells slots Q (F0 m (pc + 1) ls (.long v :: rest))) : W p l e R s m args below meth c H locs cells slots Q (F0 m pc ls (.int i :: .ref a :: rest)) :=
  va_lald G.1 G.2.1 G.2.2.2.2.1 hP q0 1 ha rfl (hs_in hc hi) hdg (by rw [hc, hv]; exact kk)
theorem hm_sL (G : hs_C p s m c cc args Ts own D cy) (hP : va_P D vwCl ws H) (hD : va_D A ws) (hS : va_S A H0 H locs) (q0 : Nat) (f : Nat → Int64) (n : Nat) (ha : ws[q0]? = some (a, .inl (cy 1, n, .inr (.inl f)))) {i : Int32} (k : Nat) (hc : i.toNatClampNeg = k) (hi : ¬ i < 0 ∧ k < n) {v : Int64} (ws' : va_W) (hw : ws.set q0 (a, .inl (cy 1, n, .inr (.inl (vp_updL f k v)))) = ws') (hdg : decode cc pc = .ok (.lastore, 1))
    (kk : ∀ (H1 : Heap) (locs1 : List Loc), va_P D vwCl ws' H1 → va_D A ws' → va_S A H0 H1 locs1 → W p l e R s m args below meth c H1 locs1 cells slots Q (F0 m (pc + 1) ls rest)) : W p l e R s m args below meth c H locs cells slots Q (F0 m pc ls (.long v :: .int i :: .ref a :: rest)) :=
  va_last G.1 G.2.1 G.2.2.2.2.1 hP hD hS q0 1 ha rfl (hs_in hc hi) hdg (fun H1 locs1 hP1 hD1 hS1 => kk H1 locs1 (by rw [← hw]; rw [hc] at hP1; exact hP1) (by rw [← hw]; rw [hc] at hD1; exact hD1) hS1)
theorem hm_lI (G : hs_C p s m c cc args Ts own D cy) (hP : va_P D vwCl ws H) (q0 : Nat) (f : Nat → Int32) (n : Nat) (ha : ws[q0]? = some (a, .inl (cy 0, n, .inl f))) {i : Int32} (k : Nat) (hc : i.toNatClampNeg = k) (hi : ¬ i < 0 ∧ k < n) (v : Int32) (hv : f k = v) (hdg : decode cc pc = .ok (.iaload, 1))
    (kk : W p l e R s m args below meth c H locs cells slots Q (F0 m (pc + 1) ls (.int v :: rest))) : W p l e R s m args below meth c H locs cells slots Q (F0 m pc ls (.int i :: .ref a :: rest)) :=
  va_iald G.1 G.2.1 G.2.2.2.2.1 hP q0 0 ha rfl (hs_in hc hi) hdg (by rw [hc, hv]; exact kk)
theorem hm_sI (G : hs_C p s m c cc args Ts own D cy) (hP : va_P D vwCl ws H) (hD : va_D A ws) (hS : va_S A H0 H locs) (q0 : Nat) (f : Nat → Int32) (n : Nat) (ha : ws[q0]? = some (a, .inl (cy 0, n, .inl f))) {i : Int32} (k : Nat) (hc : i.toNatClampNeg = k) (hi : ¬ i < 0 ∧ k < n) {v : Int32} (ws' : va_W) (hw : ws.set q0 (a, .inl (cy 0, n, .inl (upd f k v))) = ws') (hdg : decode cc pc = .ok (.iastore, 1))
    (kk : ∀ (H1 : Heap) (locs1 : List Loc), va_P D vwCl ws' H1 → va_D A ws' → va_S A H0 H1 locs1 → W p l e R s m args below meth c H1 locs1 cells slots Q (F0 m (pc + 1) ls rest)) : W p l e R s m args below meth c H locs cells slots Q (F0 m pc ls (.int v :: .int i :: .ref a :: rest)) :=
  va_iast G.1 G.2.1 G.2.2.2.2.1 hP hD hS q0 0 ha rfl (hs_in hc hi) hdg (fun H1 locs1 hP1 hD1 hS1 => kk H1 locs1 (by rw [← hw]; rw [hc] at hP1; exact hP1) (by rw [← hw]; rw [hc] at hD1; exact hD1) hS1)
theorem hm_lZ (G : hs_C p s m c cc args Ts own D cy) (hP : va_P D vwCl ws H) (q0 : Nat) (f : Nat → Int32) (n : Nat) (ha : ws[q0]? = some (a, .inl (cy 2, n, .inl f))) {i : Int32} (k : Nat) (hc : i.toNatClampNeg = k) (hi : ¬ i < 0 ∧ k < n) (v : Int32) (hv : f k = v) (hdg : decode cc pc = .ok (.baload, 1))
    (kk : W p l e R s m args below meth c H locs cells slots Q (F0 m (pc + 1) ls (.int v :: rest))) : W p l e R s m args below meth c H locs cells slots Q (F0 m pc ls (.int i :: .ref a :: rest)) :=
  va_zald G.1 G.2.1 G.2.2.2.2.1 hP q0 2 ha rfl (hs_in hc hi) hdg (by rw [hc, hv]; exact kk)
theorem hm_sZ (G : hs_C p s m c cc args Ts own D cy) (hP : va_P D vwCl ws H) (hD : va_D A ws) (hS : va_S A H0 H locs) (q0 : Nat) (f : Nat → Int32) (n : Nat) (ha : ws[q0]? = some (a, .inl (cy 2, n, .inl f))) {i : Int32} (k : Nat) (hc : i.toNatClampNeg = k) (hi : ¬ i < 0 ∧ k < n) {v : Int32} (hz : vp_nar .boolean v = v) (ws' : va_W) (hw : ws.set q0 (a, .inl (cy 2, n, .inl (upd f k v))) = ws') (hdg : decode cc pc = .ok (.bastore, 1))
    (kk : ∀ (H1 : Heap) (locs1 : List Loc), va_P D vwCl ws' H1 → va_D A ws' → va_S A H0 H1 locs1 → W p l e R s m args below meth c H1 locs1 cells slots Q (F0 m (pc + 1) ls rest)) : W p l e R s m args below meth c H locs cells slots Q (F0 m pc ls (.int v :: .int i :: .ref a :: rest)) :=
  va_zast G.1 G.2.1 G.2.2.2.2.1 hP hD hS q0 2 ha rfl (hs_in hc hi) hdg (fun H1 locs1 hP1 hD1 hS1 => kk H1 locs1 (by rw [← hw]; rw [hz, hc] at hP1; exact hP1) (by rw [← hw]; rw [hz, hc] at hD1; exact hD1) hS1)
end HMR
/-! laws of the reference's codings -/
theorem hm_ho_eq {o : Option Nat} {t : Nat} (ht : t < 8) (hu : ∀ u, o = some u → u < 8) : hm_ho o = nI (t + 1) ↔ o = some t := by
  cases o with
  | none =>
    refine ⟨fun h => ?_, fun h => by cases h⟩
    exact absurd (show nI 0 = nI (t + 1) from h) (fun q => by have := (nI_eq (by decide) (by omega)).mp q; omega)
  | some u =>
    have := hu u rfl
    simp only [hm_ho, Option.some.injEq]
    rw [nI_eq (by omega) (by omega)]
    omega
theorem hs_shl20 (r : Int32) : (Int32.toInt64 r <<< (Int32.toInt64 20 &&& 63)) = Int32.toInt64 r * 1048576 := by
  apply Int64.toBitVec_inj.mp
  rw [Int64.toBitVec_shiftLeft, Int64.toBitVec_mul]
  have e : (Int32.toInt64 20 &&& 63).toBitVec.smod 64 = 20#64 := by decide
  rw [e, BitVec.shiftLeft_eq', BitVec.shiftLeft_eq_mul_twoPow]
  rfl
theorem hs_and3 {k : Nat} (hk : k < 16) : nI k &&& 3 = nI (k % 4) := by
  have h : ∀ k, k < 16 → nI k &&& 3 = nI (k % 4) := by decide
  exact h k hk
theorem hs_gt_of {z : Int32} {b : Nat} (hz : z < 0 ∨ nI (b + 1) ≤ z) (h0 : ¬ z < 0) (hb : b + 1 < 2 ^ 31) : nI b < z := by
  have h := hz.resolve_left h0
  have h1 : nI b < nI (b + 1) := nI_lt (by omega) hb
  rw [Int32.lt_iff_toInt_lt] at h1 ⊢
  rw [Int32.le_iff_toInt_le] at h
  omega
theorem hs_le_in {j b : Nat} (h : j < b + 1) (hb : b + 1 < 2 ^ 31) : ¬ nI b < nI j := nI_nlt (by omega) (by omega)
end
section
theorem in_X4_receive_X4 : ∀ w ∈ u_ws RX4 TX4 21, w ∈ wsX4_receive := by decide +kernel
set_option maxHeartbeats 4000000 in
set_option maxRecDepth 100000 in
/-- reference: r_receive -/
theorem r_receive (l : Launch) (D : va_G) (cy : Nat → ClassId) (bd : Nat → Nat) (ho : hm_ok bd) (x : HM) {i : Nat} (hi : i < 4) (s0 : Int64) : Ct l yX4_receive wsX4_receive ({ frames := 0, cells := 0, slots := 0, locals := 0 }) D cy (hm_A bd) [.ref (bd 0), .int (nI i), .long (s0)] (hm_mem bd cy (x)) none (hm_mem bd cy (x.tk i s0)) := by
  refine ct_of (cc := cX4_receive) (maxL := 8) (ret := none) rfl (by decide) (Nat.le_of_ble_eq_true rfl) ?_
  intro p e s m below meth c ls G hx hb hml hr hlocks hP hS hl
  have hD := hm_D ho cy (x)
  have hl : lv_has ls 8 [(0, .ref (bd 0)), (1, .int (nI i)), (2, .long (s0))] := hl
  refine lv_aload_n hx hb dX4_receive_0 rfl (lv_at hl 0 rfl) ?_
  refine hm_gf G in_X4_receive_X4 hP rfl 1 (by decide) (by decide +kernel) (.ref (bd 2)) rfl rfl dX4_receive_1 ?_
  refine lv_iload_n hx hb dX4_receive_4 rfl (lv_at hl 1 rfl) ?_
  refine hm_lL G hP 2 (HM.ck (x)) 4 rfl (i) (nI_clamp (by omega)) (hs_inN (by omega) (by decide)) (HM.ck (x) (i)) rfl dX4_receive_5 ?_
  refine lv_lload_n hx hb dX4_receive_6 rfl (lv_at hl 2 rfl) ?_
  refine hs_lle (x := HM.ck (x) (i)) (y := s0) (tgt := 20) hx hb dX4_receive_7 dX4_receive_8 (by decide) (fun c_1 => ?_) (fun c_1 => ?_)
  · refine lv_lload_n hx hb dX4_receive_20 rfl (lv_at hl 2 rfl) ?_
    refine lv_lconst (v := 1) hx hb dX4_receive_21 (by decide) ?_
    refine lv_ladd hx hb dX4_receive_22 ?_
    refine lv_lstore (lv' := [(4, .long ((s0 + 1))), (0, .ref (bd 0)), (1, .int (nI i)), (2, .long (s0))]) hx hb dX4_receive_23 hl (by decide) rfl (fun ls hl => ?_)
    refine lv_aload_n hx hb dX4_receive_25 rfl (lv_at hl 1 rfl) ?_
    refine hm_gf G in_X4_receive_X4 hP rfl 0 (by decide) (by decide +kernel) (.ref (bd 1)) rfl rfl dX4_receive_26 ?_
    refine lv_iload_n hx hb dX4_receive_29 rfl (lv_at hl 2 rfl) ?_
    refine hm_lI G hP 1 (HM.rd (x)) 4 rfl (i) (nI_clamp (by omega)) (hs_inN (by omega) (by decide)) (HM.rd (x) (i)) rfl dX4_receive_30 ?_
    refine lv_i2l (v := (Int32.toInt64 (HM.rd (x) (i)))) hx hb dX4_receive_31 rfl ?_
    refine lv_bipush (v := 20) hx hb dX4_receive_32 (by decide) ?_
    refine lv_lshl (v := ((Int32.toInt64 (HM.rd (x) (i))) <<< (Int32.toInt64 (20) &&& 63))) hx hb dX4_receive_34 rfl ?_
    rw [show (((Int32.toInt64 (HM.rd (x) (i))) <<< (Int32.toInt64 (20) &&& 63))) = (Int32.toInt64 (HM.rd (x) (i)) * 1048576) from hs_shl20 _]
    refine lv_lstore (lv' := [(6, .long ((Int32.toInt64 (HM.rd (x) (i)) * 1048576))), (4, .long ((s0 + 1))), (0, .ref (bd 0)), (1, .int (nI i)), (2, .long (s0))]) hx hb dX4_receive_35 hl (by decide) rfl (fun ls hl => ?_)
    refine lv_aload_n hx hb dX4_receive_37 rfl (lv_at hl 2 rfl) ?_
    refine hm_gf G in_X4_receive_X4 hP rfl 1 (by decide) (by decide +kernel) (.ref (bd 2)) rfl rfl dX4_receive_38 ?_
    refine lv_iload_n hx hb dX4_receive_41 rfl (lv_at hl 3 rfl) ?_
    refine lv_lload hx hb dX4_receive_42 (lv_at hl 1 rfl) ?_
    refine lv_lload hx hb dX4_receive_44 (lv_at hl 0 rfl) ?_
    refine hs_lle (x := (s0 + 1)) (y := (Int32.toInt64 (HM.rd (x) (i)) * 1048576)) (tgt := 55) hx hb dX4_receive_46 dX4_receive_47 (by decide) (fun c_2 => ?_) (fun c_2 => ?_)
    · refine lv_lload hx hb dX4_receive_55 (lv_at hl 0 rfl) ?_
      refine hm_sL G hP hD hS 2 (HM.ck (x)) 4 rfl (i) (nI_clamp (by omega)) (hs_inN (by omega) (by decide)) (hm_mem bd cy (HM.u_ck (x) (i) ((Int32.toInt64 (HM.rd (x) (i)) * 1048576)))) hm_s_ck dX4_receive_57 (fun H locs hP hD hS => ?_)
      exact ct_vret hx hb hr hlocks rfl (by rw [HM.tk, hs_tk, if_neg c_1, if_neg c_2]; exact hP) hS dX4_receive_58
    · refine lv_lload hx hb dX4_receive_50 (lv_at hl 1 rfl) ?_
      refine lv_goto (tgt := 57) hx hb dX4_receive_52 (by decide) ?_
      refine hm_sL G hP hD hS 2 (HM.ck (x)) 4 rfl (i) (nI_clamp (by omega)) (hs_inN (by omega) (by decide)) (hm_mem bd cy (HM.u_ck (x) (i) ((s0 + 1)))) hm_s_ck dX4_receive_57 (fun H locs hP hD hS => ?_)
      exact ct_vret hx hb hr hlocks rfl (by rw [HM.tk, hs_tk, if_neg c_1, if_pos c_2]; exact hP) hS dX4_receive_58
  · refine lv_aload_n hx hb dX4_receive_11 rfl (lv_at hl 0 rfl) ?_
    refine hm_gf G in_X4_receive_X4 hP rfl 1 (by decide) (by decide +kernel) (.ref (bd 2)) rfl rfl dX4_receive_12 ?_
    refine lv_iload_n hx hb dX4_receive_15 rfl (lv_at hl 1 rfl) ?_
    refine hm_lL G hP 2 (HM.ck (x)) 4 rfl (i) (nI_clamp (by omega)) (hs_inN (by omega) (by decide)) (HM.ck (x) (i)) rfl dX4_receive_16 ?_
    refine lv_goto (tgt := 21) hx hb dX4_receive_17 (by decide) ?_
    refine lv_lconst (v := 1) hx hb dX4_receive_21 (by decide) ?_
    refine lv_ladd hx hb dX4_receive_22 ?_
    refine lv_lstore (lv' := [(4, .long ((HM.ck (x) (i) + 1))), (0, .ref (bd 0)), (1, .int (nI i)), (2, .long (s0))]) hx hb dX4_receive_23 hl (by decide) rfl (fun ls hl => ?_)
    refine lv_aload_n hx hb dX4_receive_25 rfl (lv_at hl 1 rfl) ?_
    refine hm_gf G in_X4_receive_X4 hP rfl 0 (by decide) (by decide +kernel) (.ref (bd 1)) rfl rfl dX4_receive_26 ?_
    refine lv_iload_n hx hb dX4_receive_29 rfl (lv_at hl 2 rfl) ?_
    refine hm_lI G hP 1 (HM.rd (x)) 4 rfl (i) (nI_clamp (by omega)) (hs_inN (by omega) (by decide)) (HM.rd (x) (i)) rfl dX4_receive_30 ?_
    refine lv_i2l (v := (Int32.toInt64 (HM.rd (x) (i)))) hx hb dX4_receive_31 rfl ?_
    refine lv_bipush (v := 20) hx hb dX4_receive_32 (by decide) ?_
    refine lv_lshl (v := ((Int32.toInt64 (HM.rd (x) (i))) <<< (Int32.toInt64 (20) &&& 63))) hx hb dX4_receive_34 rfl ?_
    rw [show (((Int32.toInt64 (HM.rd (x) (i))) <<< (Int32.toInt64 (20) &&& 63))) = (Int32.toInt64 (HM.rd (x) (i)) * 1048576) from hs_shl20 _]
    refine lv_lstore (lv' := [(6, .long ((Int32.toInt64 (HM.rd (x) (i)) * 1048576))), (4, .long ((HM.ck (x) (i) + 1))), (0, .ref (bd 0)), (1, .int (nI i)), (2, .long (s0))]) hx hb dX4_receive_35 hl (by decide) rfl (fun ls hl => ?_)
    refine lv_aload_n hx hb dX4_receive_37 rfl (lv_at hl 2 rfl) ?_
    refine hm_gf G in_X4_receive_X4 hP rfl 1 (by decide) (by decide +kernel) (.ref (bd 2)) rfl rfl dX4_receive_38 ?_
    refine lv_iload_n hx hb dX4_receive_41 rfl (lv_at hl 3 rfl) ?_
    refine lv_lload hx hb dX4_receive_42 (lv_at hl 1 rfl) ?_
    refine lv_lload hx hb dX4_receive_44 (lv_at hl 0 rfl) ?_
    refine hs_lle (x := (HM.ck (x) (i) + 1)) (y := (Int32.toInt64 (HM.rd (x) (i)) * 1048576)) (tgt := 55) hx hb dX4_receive_46 dX4_receive_47 (by decide) (fun c_3 => ?_) (fun c_3 => ?_)
    · refine lv_lload hx hb dX4_receive_55 (lv_at hl 0 rfl) ?_
      refine hm_sL G hP hD hS 2 (HM.ck (x)) 4 rfl (i) (nI_clamp (by omega)) (hs_inN (by omega) (by decide)) (hm_mem bd cy (HM.u_ck (x) (i) ((Int32.toInt64 (HM.rd (x) (i)) * 1048576)))) hm_s_ck dX4_receive_57 (fun H locs hP hD hS => ?_)
      exact ct_vret hx hb hr hlocks rfl (by rw [HM.tk, hs_tk, if_pos c_1, if_neg c_3]; exact hP) hS dX4_receive_58
    · refine lv_lload hx hb dX4_receive_50 (lv_at hl 1 rfl) ?_
      refine lv_goto (tgt := 57) hx hb dX4_receive_52 (by decide) ?_
      refine hm_sL G hP hD hS 2 (HM.ck (x)) 4 rfl (i) (nI_clamp (by omega)) (hs_inN (by omega) (by decide)) (hm_mem bd cy (HM.u_ck (x) (i) ((HM.ck (x) (i) + 1)))) hm_s_ck dX4_receive_57 (fun H locs hP hD hS => ?_)
      exact ct_vret hx hb hr hlocks rfl (by rw [HM.tk, hs_tk, if_pos c_1, if_pos c_3]; exact hP) hS dX4_receive_58
theorem in_X4_event_X4 : ∀ w ∈ u_ws RX4 TX4 21, w ∈ wsX4_event := by decide +kernel
set_option maxHeartbeats 4000000 in
set_option maxRecDepth 100000 in
/-- reference: r_event -/
theorem r_event (l : Launch) (D : va_G) (cy : Nat → ClassId) (bd : Nat → Nat) (ho : hm_ok bd) (x : HM) {i : Nat} (hi : i < 4) : Ct l yX4_event wsX4_event ({ frames := 1, cells := 0, slots := 0, locals := 27 }) D cy (hm_A bd) [.ref (bd 0), .int (nI i)] (hm_mem bd cy (x)) none (hm_mem bd cy (x.ev i)) := by
  refine ct_of (cc := cX4_event) (maxL := 2) (ret := none) rfl (by decide) (Nat.le_of_ble_eq_true rfl) ?_
  intro p e s m below meth c ls G hx hb hml hr hlocks hP hS hl
  have hD := hm_D ho cy (x)
  have hl : lv_has ls 2 [(0, .ref (bd 0)), (1, .int (nI i))] := hl
  refine lv_aload_n hx hb dX4_event_0 rfl (lv_at hl 0 rfl) ?_
  refine lv_iload_n hx hb dX4_event_1 rfl (lv_at hl 1 rfl) ?_
  refine lv_aload_n hx hb dX4_event_2 rfl (lv_at hl 0 rfl) ?_
  refine hm_gf G in_X4_event_X4 hP rfl 1 (by decide) (by decide +kernel) (.ref (bd 2)) rfl rfl dX4_event_3 ?_
  refine lv_iload_n hx hb dX4_event_6 rfl (lv_at hl 1 rfl) ?_
  refine hm_lL G hP 2 (HM.ck (x)) 4 rfl (i) (nI_clamp (by omega)) (hs_inN (by omega) (by decide)) (HM.ck (x) (i)) rfl dX4_event_7 ?_
  refine hs_callV (n := 2) (As := [.int (nI i), .long (HM.ck (x) (i))]) (rest := []) G hml (r_receive l D cy bd ho (x) (show i < 4 by first | omega | exact hi) (HM.ck (x) (i))) gX4_event_X4_receive rfl rfl rfl (by decide +kernel) ⟨Nat.le_of_ble_eq_true rfl, Nat.le_of_ble_eq_true rfl⟩ (q0 := 0) (ci := 4) (fs := hm_objL bd (x)) rfl rfl rfl rfl hl.1 (Nat.le_of_ble_eq_true rfl) ⟨Nat.zero_le _, Nat.zero_le _⟩ hP hS (fun _ h => h) rfl dX4_event_8 (fun H locs hP hS _ _ => ?_)
  have hD := hm_D ho cy (HM.tk (x) (i) (HM.ck (x) (i)))
  exact ct_vret hx hb hr hlocks rfl hP hS dX4_event_11
theorem in_X4_reading_X4 : ∀ w ∈ u_ws RX4 TX4 21, w ∈ wsX4_reading := by decide +kernel
set_option maxHeartbeats 4000000 in
set_option maxRecDepth 100000 in
/-- reference: r_reading -/
theorem r_reading (l : Launch) (D : va_G) (cy : Nat → ClassId) (bd : Nat → Nat) (ho : hm_ok bd) (x : HM) (z : Int32) : Ct l yX4_reading wsX4_reading ({ frames := 0, cells := 0, slots := 0, locals := 0 }) D cy (hm_A bd) [.ref (bd 0), .int (z)] (hm_mem bd cy (x)) (some (.int (x.readingA z))) (hm_mem bd cy (x)) := by
  rcases hs_rng z (b := 4) (by decide) with hz | ⟨i, hi, rfl⟩
  · refine ct_of (cc := cX4_reading) (maxL := 2) (ret := (some .int)) rfl (by decide) (Nat.le_of_ble_eq_true rfl) ?_
    intro p e s m below meth c ls G hx hb hml hr hlocks hP hS hl
    have hD := hm_D ho cy (x)
    have hl : lv_has ls 2 [(0, .ref (bd 0)), (1, .int (z))] := hl
    refine lv_iload_n hx hb dX4_reading_0 rfl (lv_at hl 1 rfl) ?_
    refine lv_if_lt (tgt := 9) hx hb dX4_reading_1 (by decide) (fun c_1 => ?_) (fun c_1 => ?_)
    · refine lv_iconst (v := (-1)) hx hb dX4_reading_9 (by decide) ?_
      exact ct_iret hx hb hr hlocks (by rw [HM.readingA, hs_n_out hz]) hP hS dX4_reading_10
    · refine lv_iload_n hx hb dX4_reading_4 rfl (lv_at hl 1 rfl) ?_
      refine lv_iconst (v := 3) hx hb dX4_reading_5 (by decide) ?_
      refine lv_icmp_le (tgt := 11) hx hb dX4_reading_6 (by decide) (fun c_2 => ?_) (fun c_2 => ?_)
      · exact absurd c_2 (Int32.not_le.mpr (hs_gt_of hz c_1 (by decide)))
      · refine lv_iconst (v := (-1)) hx hb dX4_reading_9 (by decide) ?_
        exact ct_iret hx hb hr hlocks (by rw [HM.readingA, hs_n_out hz]) hP hS dX4_reading_10
  · have eM := hs_n_in hi (show 4 < 2 ^ 31 by decide)
    refine ct_of (cc := cX4_reading) (maxL := 2) (ret := (some .int)) rfl (by decide) (Nat.le_of_ble_eq_true rfl) ?_
    intro p e s m below meth c ls G hx hb hml hr hlocks hP hS hl
    have hD := hm_D ho cy (x)
    have hl : lv_has ls 2 [(0, .ref (bd 0)), (1, .int (nI i))] := hl
    refine lv_iload_n hx hb dX4_reading_0 rfl (lv_at hl 1 rfl) ?_
    refine lv_if_lt (tgt := 9) hx hb dX4_reading_1 (by decide) (fun c_1 => ?_) (fun c_1 => ?_)
    · exact absurd c_1 (nI_pos (by omega))
    · refine lv_iload_n hx hb dX4_reading_4 rfl (lv_at hl 1 rfl) ?_
      refine lv_iconst (v := 3) hx hb dX4_reading_5 (by decide) ?_
      refine lv_icmp_le (tgt := 11) hx hb dX4_reading_6 (by decide) (fun c_2 => ?_) (fun c_2 => ?_)
      · refine lv_aload_n hx hb dX4_reading_11 rfl (lv_at hl 0 rfl) ?_
        refine hm_gf G in_X4_reading_X4 hP rfl 0 (by decide) (by decide +kernel) (.ref (bd 1)) rfl rfl dX4_reading_12 ?_
        refine lv_iload_n hx hb dX4_reading_15 rfl (lv_at hl 1 rfl) ?_
        refine hm_lI G hP 1 (HM.rd (x)) 4 rfl (i) (nI_clamp (by omega)) (hs_inN (by omega) (by decide)) (HM.rd (x) (i)) rfl dX4_reading_16 ?_
        exact ct_iret hx hb hr hlocks (by rw [HM.readingA, eM]) hP hS dX4_reading_17
      · exact absurd (Int32.not_lt.mp (hs_le_in hi (by decide))) c_2
theorem in_X4_clock_X4 : ∀ w ∈ u_ws RX4 TX4 21, w ∈ wsX4_clock := by decide +kernel
set_option maxHeartbeats 4000000 in
set_option maxRecDepth 100000 in
/-- reference: r_clock -/
theorem r_clock (l : Launch) (D : va_G) (cy : Nat → ClassId) (bd : Nat → Nat) (ho : hm_ok bd) (x : HM) (z : Int32) : Ct l yX4_clock wsX4_clock ({ frames := 0, cells := 0, slots := 0, locals := 0 }) D cy (hm_A bd) [.ref (bd 0), .int (z)] (hm_mem bd cy (x)) (some (.long (x.clockA z))) (hm_mem bd cy (x)) := by
  rcases hs_rng z (b := 4) (by decide) with hz | ⟨i, hi, rfl⟩
  · refine ct_of (cc := cX4_clock) (maxL := 2) (ret := (some .long)) rfl (by decide) (Nat.le_of_ble_eq_true rfl) ?_
    intro p e s m below meth c ls G hx hb hml hr hlocks hP hS hl
    have hD := hm_D ho cy (x)
    have hl : lv_has ls 2 [(0, .ref (bd 0)), (1, .int (z))] := hl
    refine lv_iload_n hx hb dX4_clock_0 rfl (lv_at hl 1 rfl) ?_
    refine lv_if_lt (tgt := 9) hx hb dX4_clock_1 (by decide) (fun c_1 => ?_) (fun c_1 => ?_)
    · refine lv_ldc2 (v := (-1)) hx hb G.2.2.2.1 (G.2.2.1 (.constantLong RX4 76 (-1)) (by decide +kernel)) dX4_clock_9 ?_
      exact ct_lret hx hb hr hlocks (by rw [HM.clockA, hs_n_out hz]) hP hS dX4_clock_12
    · refine lv_iload_n hx hb dX4_clock_4 rfl (lv_at hl 1 rfl) ?_
      refine lv_iconst (v := 3) hx hb dX4_clock_5 (by decide) ?_
      refine lv_icmp_le (tgt := 13) hx hb dX4_clock_6 (by decide) (fun c_2 => ?_) (fun c_2 => ?_)
      · exact absurd c_2 (Int32.not_le.mpr (hs_gt_of hz c_1 (by decide)))
      · refine lv_ldc2 (v := (-1)) hx hb G.2.2.2.1 (G.2.2.1 (.constantLong RX4 76 (-1)) (by decide +kernel)) dX4_clock_9 ?_
        exact ct_lret hx hb hr hlocks (by rw [HM.clockA, hs_n_out hz]) hP hS dX4_clock_12
  · have eM := hs_n_in hi (show 4 < 2 ^ 31 by decide)
    refine ct_of (cc := cX4_clock) (maxL := 2) (ret := (some .long)) rfl (by decide) (Nat.le_of_ble_eq_true rfl) ?_
    intro p e s m below meth c ls G hx hb hml hr hlocks hP hS hl
    have hD := hm_D ho cy (x)
    have hl : lv_has ls 2 [(0, .ref (bd 0)), (1, .int (nI i))] := hl
    refine lv_iload_n hx hb dX4_clock_0 rfl (lv_at hl 1 rfl) ?_
    refine lv_if_lt (tgt := 9) hx hb dX4_clock_1 (by decide) (fun c_1 => ?_) (fun c_1 => ?_)
    · exact absurd c_1 (nI_pos (by omega))
    · refine lv_iload_n hx hb dX4_clock_4 rfl (lv_at hl 1 rfl) ?_
      refine lv_iconst (v := 3) hx hb dX4_clock_5 (by decide) ?_
      refine lv_icmp_le (tgt := 13) hx hb dX4_clock_6 (by decide) (fun c_2 => ?_) (fun c_2 => ?_)
      · refine lv_aload_n hx hb dX4_clock_13 rfl (lv_at hl 0 rfl) ?_
        refine hm_gf G in_X4_clock_X4 hP rfl 1 (by decide) (by decide +kernel) (.ref (bd 2)) rfl rfl dX4_clock_14 ?_
        refine lv_iload_n hx hb dX4_clock_17 rfl (lv_at hl 1 rfl) ?_
        refine hm_lL G hP 2 (HM.ck (x)) 4 rfl (i) (nI_clamp (by omega)) (hs_inN (by omega) (by decide)) (HM.ck (x) (i)) rfl dX4_clock_18 ?_
        exact ct_lret hx hb hr hlocks (by rw [HM.clockA, eM]) hP hS dX4_clock_19
      · exact absurd (Int32.not_lt.mp (hs_le_in hi (by decide))) c_2
theorem in_X4_state_X4 : ∀ w ∈ u_ws RX4 TX4 21, w ∈ wsX4_state := by decide +kernel
set_option maxHeartbeats 4000000 in
set_option maxRecDepth 100000 in
/-- reference: r_state -/
theorem r_state (l : Launch) (D : va_G) (cy : Nat → ClassId) (bd : Nat → Nat) (ho : hm_ok bd) (x : HM) (z : Int32) : Ct l yX4_state wsX4_state ({ frames := 0, cells := 0, slots := 0, locals := 0 }) D cy (hm_A bd) [.ref (bd 0), .int (z)] (hm_mem bd cy (x)) (some (.int (x.stateA z))) (hm_mem bd cy (x)) := by
  rcases hs_rng z (b := 8) (by decide) with hz | ⟨t, ht, rfl⟩
  · refine ct_of (cc := cX4_state) (maxL := 2) (ret := (some .int)) rfl (by decide) (Nat.le_of_ble_eq_true rfl) ?_
    intro p e s m below meth c ls G hx hb hml hr hlocks hP hS hl
    have hD := hm_D ho cy (x)
    have hl : lv_has ls 2 [(0, .ref (bd 0)), (1, .int (z))] := hl
    refine lv_iload_n hx hb dX4_state_0 rfl (lv_at hl 1 rfl) ?_
    refine lv_if_lt (tgt := 10) hx hb dX4_state_1 (by decide) (fun c_1 => ?_) (fun c_1 => ?_)
    · refine lv_iconst (v := (-1)) hx hb dX4_state_10 (by decide) ?_
      exact ct_iret hx hb hr hlocks (by rw [HM.stateA, hs_n_out hz]) hP hS dX4_state_11
    · refine lv_iload_n hx hb dX4_state_4 rfl (lv_at hl 1 rfl) ?_
      refine lv_bipush (v := 7) hx hb dX4_state_5 (by decide) ?_
      refine lv_icmp_le (tgt := 12) hx hb dX4_state_7 (by decide) (fun c_2 => ?_) (fun c_2 => ?_)
      · exact absurd c_2 (Int32.not_le.mpr (hs_gt_of hz c_1 (by decide)))
      · refine lv_iconst (v := (-1)) hx hb dX4_state_10 (by decide) ?_
        exact ct_iret hx hb hr hlocks (by rw [HM.stateA, hs_n_out hz]) hP hS dX4_state_11
  · have eM := hs_n_in ht (show 8 < 2 ^ 31 by decide)
    refine ct_of (cc := cX4_state) (maxL := 2) (ret := (some .int)) rfl (by decide) (Nat.le_of_ble_eq_true rfl) ?_
    intro p e s m below meth c ls G hx hb hml hr hlocks hP hS hl
    have hD := hm_D ho cy (x)
    have hl : lv_has ls 2 [(0, .ref (bd 0)), (1, .int (nI t))] := hl
    refine lv_iload_n hx hb dX4_state_0 rfl (lv_at hl 1 rfl) ?_
    refine lv_if_lt (tgt := 10) hx hb dX4_state_1 (by decide) (fun c_1 => ?_) (fun c_1 => ?_)
    · exact absurd c_1 (nI_pos (by omega))
    · refine lv_iload_n hx hb dX4_state_4 rfl (lv_at hl 1 rfl) ?_
      refine lv_bipush (v := 7) hx hb dX4_state_5 (by decide) ?_
      refine lv_icmp_le (tgt := 12) hx hb dX4_state_7 (by decide) (fun c_2 => ?_) (fun c_2 => ?_)
      · refine lv_aload_n hx hb dX4_state_12 rfl (lv_at hl 0 rfl) ?_
        refine hm_gf G in_X4_state_X4 hP rfl 2 (by decide) (by decide +kernel) (.ref (bd 3)) rfl rfl dX4_state_13 ?_
        refine lv_iload_n hx hb dX4_state_16 rfl (lv_at hl 1 rfl) ?_
        refine hm_lI G hP 3 (HM.ph (x)) 8 rfl (t) (nI_clamp (by omega)) (hs_inN (by omega) (by decide)) (HM.ph (x) (t)) rfl dX4_state_17 ?_
        exact ct_iret hx hb hr hlocks (by rw [HM.stateA, eM]) hP hS dX4_state_18
      · exact absurd (Int32.not_lt.mp (hs_le_in ht (by decide))) c_2
theorem in_X4_stamp_X4 : ∀ w ∈ u_ws RX4 TX4 21, w ∈ wsX4_stamp := by decide +kernel
set_option maxHeartbeats 4000000 in
set_option maxRecDepth 100000 in
/-- reference: r_stamp -/
theorem r_stamp (l : Launch) (D : va_G) (cy : Nat → ClassId) (bd : Nat → Nat) (ho : hm_ok bd) (x : HM) (z : Int32) : Ct l yX4_stamp wsX4_stamp ({ frames := 0, cells := 0, slots := 0, locals := 0 }) D cy (hm_A bd) [.ref (bd 0), .int (z)] (hm_mem bd cy (x)) (some (.long (x.stampA z))) (hm_mem bd cy (x)) := by
  rcases hs_rng z (b := 8) (by decide) with hz | ⟨t, ht, rfl⟩
  · refine ct_of (cc := cX4_stamp) (maxL := 2) (ret := (some .long)) rfl (by decide) (Nat.le_of_ble_eq_true rfl) ?_
    intro p e s m below meth c ls G hx hb hml hr hlocks hP hS hl
    have hD := hm_D ho cy (x)
    have hl : lv_has ls 2 [(0, .ref (bd 0)), (1, .int (z))] := hl
    refine lv_iload_n hx hb dX4_stamp_0 rfl (lv_at hl 1 rfl) ?_
    refine lv_if_lt (tgt := 29) hx hb dX4_stamp_1 (by decide) (fun c_1 => ?_) (fun c_1 => ?_)
    · refine lv_ldc2 (v := (-1)) hx hb G.2.2.2.1 (G.2.2.1 (.constantLong RX4 76 (-1)) (by decide +kernel)) dX4_stamp_29 ?_
      exact ct_lret hx hb hr hlocks (by rw [HM.stampA, hs_n_out hz]) hP hS dX4_stamp_32
    · refine lv_iload_n hx hb dX4_stamp_4 rfl (lv_at hl 1 rfl) ?_
      refine lv_bipush (v := 7) hx hb dX4_stamp_5 (by decide) ?_
      refine lv_icmp_gt (tgt := 29) hx hb dX4_stamp_7 (by decide) (fun c_2 => ?_) (fun c_2 => ?_)
      · refine lv_ldc2 (v := (-1)) hx hb G.2.2.2.1 (G.2.2.1 (.constantLong RX4 76 (-1)) (by decide +kernel)) dX4_stamp_29 ?_
        exact ct_lret hx hb hr hlocks (by rw [HM.stampA, hs_n_out hz]) hP hS dX4_stamp_32
      · exact absurd (hs_gt_of hz c_1 (by decide)) c_2
  · have eM := hs_n_in ht (show 8 < 2 ^ 31 by decide)
    refine ct_of (cc := cX4_stamp) (maxL := 2) (ret := (some .long)) rfl (by decide) (Nat.le_of_ble_eq_true rfl) ?_
    intro p e s m below meth c ls G hx hb hml hr hlocks hP hS hl
    have hD := hm_D ho cy (x)
    have hl : lv_has ls 2 [(0, .ref (bd 0)), (1, .int (nI t))] := hl
    refine lv_iload_n hx hb dX4_stamp_0 rfl (lv_at hl 1 rfl) ?_
    refine lv_if_lt (tgt := 29) hx hb dX4_stamp_1 (by decide) (fun c_1 => ?_) (fun c_1 => ?_)
    · exact absurd c_1 (nI_pos (by omega))
    · refine lv_iload_n hx hb dX4_stamp_4 rfl (lv_at hl 1 rfl) ?_
      refine lv_bipush (v := 7) hx hb dX4_stamp_5 (by decide) ?_
      refine lv_icmp_gt (tgt := 29) hx hb dX4_stamp_7 (by decide) (fun c_2 => ?_) (fun c_2 => ?_)
      · exact absurd c_2 (hs_le_in ht (by decide))
      · refine lv_aload_n hx hb dX4_stamp_10 rfl (lv_at hl 0 rfl) ?_
        refine hm_gf G in_X4_stamp_X4 hP rfl 2 (by decide) (by decide +kernel) (.ref (bd 3)) rfl rfl dX4_stamp_11 ?_
        refine lv_iload_n hx hb dX4_stamp_14 rfl (lv_at hl 1 rfl) ?_
        refine hm_lI G hP 3 (HM.ph (x)) 8 rfl (t) (nI_clamp (by omega)) (hs_inN (by omega) (by decide)) (HM.ph (x) (t)) rfl dX4_stamp_15 ?_
        refine lv_if_eq (tgt := 29) hx hb dX4_stamp_16 (by decide) (fun c_3 => ?_) (fun c_3 => ?_)
        · refine lv_ldc2 (v := (-1)) hx hb G.2.2.2.1 (G.2.2.1 (.constantLong RX4 76 (-1)) (by decide +kernel)) dX4_stamp_29 ?_
          have eA : x.stampA (nI t) = if x.ph t = 0 then -1 else if x.ph t = 3 then -1 else x.rs t := by rw [HM.stampA, eM]
          exact ct_lret hx hb hr hlocks (by rw [eA, if_pos c_3]) hP hS dX4_stamp_32
        · refine lv_aload_n hx hb dX4_stamp_19 rfl (lv_at hl 0 rfl) ?_
          refine hm_gf G in_X4_stamp_X4 hP rfl 2 (by decide) (by decide +kernel) (.ref (bd 3)) rfl rfl dX4_stamp_20 ?_
          refine lv_iload_n hx hb dX4_stamp_23 rfl (lv_at hl 1 rfl) ?_
          refine hm_lI G hP 3 (HM.ph (x)) 8 rfl (t) (nI_clamp (by omega)) (hs_inN (by omega) (by decide)) (HM.ph (x) (t)) rfl dX4_stamp_24 ?_
          refine lv_iconst (v := 3) hx hb dX4_stamp_25 (by decide) ?_
          refine lv_icmp_ne (tgt := 33) hx hb dX4_stamp_26 (by decide) (fun c_4 => ?_) (fun c_4 => ?_)
          · refine lv_aload_n hx hb dX4_stamp_33 rfl (lv_at hl 0 rfl) ?_
            refine hm_gf G in_X4_stamp_X4 hP rfl 6 (by decide) (by decide +kernel) (.ref (bd 7)) rfl rfl dX4_stamp_34 ?_
            refine lv_iload_n hx hb dX4_stamp_37 rfl (lv_at hl 1 rfl) ?_
            refine hm_lL G hP 7 (HM.rs (x)) 8 rfl (t) (nI_clamp (by omega)) (hs_inN (by omega) (by decide)) (HM.rs (x) (t)) rfl dX4_stamp_38 ?_
            have eA : x.stampA (nI t) = if x.ph t = 0 then -1 else if x.ph t = 3 then -1 else x.rs t := by rw [HM.stampA, eM]
            exact ct_lret hx hb hr hlocks (by rw [eA, if_neg c_3, if_neg c_4]) hP hS dX4_stamp_39
          · refine lv_ldc2 (v := (-1)) hx hb G.2.2.2.1 (G.2.2.1 (.constantLong RX4 76 (-1)) (by decide +kernel)) dX4_stamp_29 ?_
            have eA : x.stampA (nI t) = if x.ph t = 0 then -1 else if x.ph t = 3 then -1 else x.rs t := by rw [HM.stampA, eM]
            exact ct_lret hx hb hr hlocks (by rw [eA, if_neg c_3, if_pos c_4]) hP hS dX4_stamp_32
theorem in_X4_committed_X4 : ∀ w ∈ u_ws RX4 TX4 21, w ∈ wsX4_committed := by decide +kernel
set_option maxHeartbeats 4000000 in
set_option maxRecDepth 100000 in
/-- reference: r_committed -/
theorem r_committed (l : Launch) (D : va_G) (cy : Nat → ClassId) (bd : Nat → Nat) (ho : hm_ok bd) (x : HM) (hcm : x.cm.length ≤ 512) (z : Int32) : Ct l yX4_committed wsX4_committed ({ frames := 0, cells := 0, slots := 0, locals := 0 }) D cy (hm_A bd) [.ref (bd 0), .int (z)] (hm_mem bd cy (x)) (some (.long (x.committedA z))) (hm_mem bd cy (x)) := by
  refine ct_of (cc := cX4_committed) (maxL := 2) (ret := (some .long)) rfl (by decide) (Nat.le_of_ble_eq_true rfl) ?_
  intro p e s m below meth c ls G hx hb hml hr hlocks hP hS hl
  have hD := hm_D ho cy (x)
  have hl : lv_has ls 2 [(0, .ref (bd 0)), (1, .int (z))] := hl
  refine lv_iload_n hx hb dX4_committed_0 rfl (lv_at hl 1 rfl) ?_
  refine lv_if_lt (tgt := 12) hx hb dX4_committed_1 (by decide) (fun c_1 => ?_) (fun c_1 => ?_)
  · refine lv_ldc2 (v := (-1)) hx hb G.2.2.2.1 (G.2.2.1 (.constantLong RX4 76 (-1)) (by decide +kernel)) dX4_committed_12 ?_
    exact ct_lret hx hb hr hlocks (by rw [HM.committedA, if_pos c_1]) hP hS dX4_committed_15
  · refine lv_iload_n hx hb dX4_committed_4 rfl (lv_at hl 1 rfl) ?_
    refine lv_aload_n hx hb dX4_committed_5 rfl (lv_at hl 0 rfl) ?_
    refine hm_gf G in_X4_committed_X4 hP rfl 12 (by decide) (by decide +kernel) (.int (nI (HM.cm (x)).length)) rfl rfl dX4_committed_6 ?_
    refine lv_icmp_lt (tgt := 16) hx hb dX4_committed_9 (by decide) (fun c_2 => ?_) (fun c_2 => ?_)
    · obtain ⟨j, hj, rfl⟩ : ∃ j, j < x.cm.length ∧ z = nI j := by
        rcases hs_rng z (b := x.cm.length) (by omega) with (q | q) | q
        · exact absurd q c_1
        · exact absurd q (Int32.not_le.mpr c_2)
        · exact q
      refine lv_aload_n hx hb dX4_committed_16 rfl (lv_at hl 0 rfl) ?_
      refine hm_gf G in_X4_committed_X4 hP rfl 13 (by decide) (by decide +kernel) (.ref (bd 12)) rfl rfl dX4_committed_17 ?_
      refine lv_iload_n hx hb dX4_committed_20 rfl (lv_at hl 1 rfl) ?_
      refine hm_lL G hP 12 (hm_cm (x)) 512 rfl (j) (nI_clamp (by omega)) (hs_inN (by omega) (by decide)) (hm_cm (x) (j)) rfl dX4_committed_21 ?_
      exact ct_lret hx hb hr hlocks (by rw [HM.committedA, if_neg c_1, if_neg (Int32.not_le.mpr c_2), nI_clamp (by omega)]; rfl) hP hS dX4_committed_22
    · refine lv_ldc2 (v := (-1)) hx hb G.2.2.2.1 (G.2.2.1 (.constantLong RX4 76 (-1)) (by decide +kernel)) dX4_committed_12 ?_
      exact ct_lret hx hb hr hlocks (by rw [HM.committedA, if_neg c_1, if_pos (Int32.not_lt.mp c_2)]) hP hS dX4_committed_15
end
section
/-! ===== the reference's search over all versions, and its counts ===== -/
def hs_fi (g : Nat → Int32) (f : Nat → Int64) (k : Int32) (a u : Int64) : Nat → Option Nat
  | 0 => none
  | n + 1 => if g n = k ∧ a < f n ∧ f n ≤ u ∧ hs_fl f a (hs_fi g f k a u n) < f n then some n else hs_fi g f k a u n
theorem hs_fi_succ (g : Nat → Int32) (f : Nat → Int64) (k : Int32) (a u : Int64) (n : Nat) : hs_fi g f k a u (n + 1) = if g n = k ∧ a < f n ∧ f n ≤ u ∧ hs_fl f a (hs_fi g f k a u n) < f n then some n else hs_fi g f k a u n := rfl
theorem hs_fi_lt {g : Nat → Int32} {f : Nat → Int64} {k : Int32} {a u : Int64} : ∀ {n j : Nat}, hs_fi g f k a u n = some j → j < n ∧ a < f j := by
  intro n
  induction n with
  | zero => intro j h; cases h
  | succ n ih =>
    intro j h
    rw [hs_fi_succ] at h
    split at h
    · rename_i c; cases h; exact ⟨by omega, c.2.1⟩
    · have := ih h; exact ⟨by omega, this.2⟩
theorem hs_fi_congr {g g' : Nat → Int32} {f f' : Nat → Int64} {k : Int32} {a u : Int64} : ∀ {n : Nat}, (∀ i, i < n → g i = g' i ∧ f i = f' i) → hs_fi g f k a u n = hs_fi g' f' k a u n := by
  intro n
  induction n with
  | zero => intro _; rfl
  | succ n ih =>
    intro h
    have e := ih (fun i hi => h i (by omega))
    have e1 := h n (by omega)
    rw [hs_fi_succ, hs_fi_succ, e, e1.1, e1.2]
    have e2 : hs_fl f a (hs_fi g' f' k a u n) = hs_fl f' a (hs_fi g' f' k a u n) := by
      cases hq : hs_fi g' f' k a u n with
      | none => rfl
      | some j => exact (h j (by have := hs_fi_lt hq; omega)).2
    rw [e2]
def hs_fo (a : Int64) (acc : Option (Int64 × Int32)) : Int64 := match acc with
  | none => a
  | some w => w.1
theorem hs_fb_eq (a u : Int64) (acc : Option (Int64 × Int32)) (v : Int64 × Int32) : hs_fb a u acc v = if hs_fo a acc < v.1 ∧ v.1 ≤ u then some v else acc := by cases acc <;> rfl
theorem hs_fo_some (a : Int64) (y : Int64 × Int32) : hs_fo a (some y) = y.1 := rfl
def hs_vkL (l : List (Nat × Int64 × Int32)) (k : Nat) : List (Int64 × Int32) := (l.filter (fun v => v.1 == k)).map (fun v => v.2)
def hs_gL (l : List (Nat × Int64 × Int32)) : Nat → Int32 := fun i => nI (l.getD i (0, 0, 0)).1
def hs_aL (l : List (Nat × Int64 × Int32)) : Nat → Int64 := fun i => (l.getD i (0, 0, 0)).2.1
theorem hs_best_fi (a u : Int64) {k : Nat} (hk : k < 16) : ∀ (n : Nat) (l : List (Nat × Int64 × Int32)), l.length = n → (∀ v ∈ l, v.1 < 16) → hs_best a u (hs_vkL l k) = (hs_fi (hs_gL l) (hs_aL l) (nI k) a u n).map (fun j => (l.getD j (0, 0, 0)).2) := by
  intro n
  induction n with
  | zero => intro l h _; rw [List.length_eq_zero_iff.mp h]; rfl
  | succ n ih =>
    intro l h hl
    have hne : l ≠ [] := fun q => by rw [q] at h; cases h
    obtain ⟨l', v, rfl⟩ : ∃ l' v, l = l' ++ [v] := ⟨l.dropLast, l.getLast hne, (List.dropLast_concat_getLast hne).symm⟩
    have hn : l'.length = n := by simpa using h
    have hl' : ∀ v ∈ l', v.1 < 16 := fun w hw => hl w (List.mem_append_left _ hw)
    have hv16 : v.1 < 16 := hl v (by simp)
    have ev : (l' ++ [v]).getD n (0, 0, 0) = v := by rw [hs_getD_app, if_pos hn.symm]
    have eo : ∀ j, j < n → (l' ++ [v]).getD j (0, 0, 0) = l'.getD j (0, 0, 0) := fun j hj => by rw [hs_getD_app, if_neg (by omega)]
    have eb : hs_fi (hs_gL (l' ++ [v])) (hs_aL (l' ++ [v])) (nI k) a u n = hs_fi (hs_gL l') (hs_aL l') (nI k) a u n := hs_fi_congr (fun i hi => by simp only [hs_gL, hs_aL]; rw [eo i hi]; exact ⟨rfl, rfl⟩)
    have eg : hs_gL (l' ++ [v]) n = nI v.1 := by simp only [hs_gL]; rw [ev]
    have ef : hs_aL (l' ++ [v]) n = v.2.1 := by simp only [hs_aL]; rw [ev]
    have ih' := ih l' hn hl'
    rw [hs_fi_succ, eb, eg, ef]
    have efl : hs_fl (hs_aL (l' ++ [v])) a (hs_fi (hs_gL l') (hs_aL l') (nI k) a u n) = hs_fo a (hs_best a u (hs_vkL l' k)) := by
      rw [ih']
      cases hq : hs_fi (hs_gL l') (hs_aL l') (nI k) a u n with
      | none => rfl
      | some j =>
        show hs_aL (l' ++ [v]) j = (l'.getD j (0, 0, 0)).2.1
        simp only [hs_aL]; rw [eo j (hs_fi_lt hq).1]
    have hge : ∀ w, hs_best a u (hs_vkL l' k) = some w → a < w.1 := fun w hw => (hs_best_mem hw).2.1
    rw [efl]
    have emap : ∀ o : Option Nat, (∀ j, o = some j → j < n) → o.map (fun j => ((l' ++ [v]).getD j (0, 0, 0)).2) = o.map (fun j => (l'.getD j (0, 0, 0)).2) := by
      intro o ho
      cases o with
      | none => rfl
      | some j => simp only [Option.map_some]; rw [eo j (ho j rfl)]
    by_cases e : v.1 = k
    · have e1 : hs_vkL (l' ++ [v]) k = hs_vkL l' k ++ [v.2] := by
        unfold hs_vkL; rw [List.filter_append, List.map_append]; simp [e]
      rw [e1, hs_best_append]
      rw [hs_fb_eq]
      by_cases c : hs_fo a (hs_best a u (hs_vkL l' k)) < v.2.1 ∧ v.2.1 ≤ u
      · have ha : a < v.2.1 := by
          cases hq : hs_best a u (hs_vkL l' k) with
          | none => rw [hq] at c; exact c.1
          | some w => rw [hq] at c; exact Int64.lt_trans (hge w hq) c.1
        rw [if_pos c, if_pos ⟨by rw [e], ha, c.2, c.1⟩]
        simp only [Option.map_some]; rw [ev]
      · rw [if_neg c, if_neg (fun q => c ⟨q.2.2.2, q.2.2.1⟩), emap _ (fun j hj => (hs_fi_lt hj).1)]
        exact ih'
    · have e1 : hs_vkL (l' ++ [v]) k = hs_vkL l' k := by
        unfold hs_vkL; rw [List.filter_append, List.map_append]; simp [e]
      rw [e1, if_neg (fun q => e ((nI_eq (by omega) (by omega)).mp q.1)), emap _ (fun j hj => (hs_fi_lt hj).1)]
      exact ih'
theorem HM.In.k16 {x : HM} {B : Int} (h : x.In B) : ∀ v ∈ x.vs, v.1 < 16 := fun v hv => (h.2.2.2.2.2.2.2.2.1 v hv).1
theorem HM.In.best_fi {x : HM} {B : Int} (h : x.In B) (a u : Int64) {k : Nat} (hk : k < 16) : hs_best a u (x.vk k) = (hs_fi (hm_vk x) (hm_va x) (nI k) a u x.vs.length).map (fun j => (x.vs.getD j (0, 0, 0)).2) := hs_best_fi a u hk _ x.vs rfl h.k16
/-! how many versions there are in all -/
def hs_sum (f : Nat → Nat) : Nat → Nat
  | 0 => 0
  | n + 1 => hs_sum f n + f n
theorem hs_sum_zero : ∀ n, hs_sum (fun _ => 0) n = 0 := by
  intro n
  induction n with
  | zero => rfl
  | succ n ih => rw [hs_sum, ih]
theorem hs_sum_inc {f g : Nat → Nat} {k : Nat} (h : g k = f k + 1) (ho : ∀ j, j ≠ k → g j = f j) : ∀ n, hs_sum g n = hs_sum f n + if k < n then 1 else 0 := by
  intro n
  induction n with
  | zero => rfl
  | succ n ih =>
    rw [hs_sum, hs_sum, ih]
    by_cases e : n = k
    · subst e; rw [h]; simp; omega
    · rw [ho n e]
      by_cases q : k < n
      · simp [q, show k < n + 1 by omega]; omega
      · simp [q, show ¬ k < n + 1 by omega]
theorem hs_len_sum : ∀ (l : List (Nat × Int64 × Int32)), (∀ v ∈ l, v.1 < 16) → l.length = hs_sum (fun k => (hs_vkL l k).length) 16 := by
  intro l
  induction l with
  | nil => intro _; exact (hs_sum_zero 16).symm
  | cons v l ih =>
    intro h
    have ih' := ih (fun w hw => h w (List.mem_cons_of_mem _ hw))
    have hv := h v List.mem_cons_self
    rw [hs_sum_inc (f := fun k => (hs_vkL l k).length) (k := v.1) (by simp [hs_vkL]) (fun j hj => by simp [hs_vkL, List.filter_cons, Ne.symm hj]), ← ih', if_pos hv]
    rfl
theorem hs_sum_le {f : Nat → Nat} : ∀ n, (∀ k, k < n → f k ≤ 16) → hs_sum f n ≤ 16 * n := by
  intro n
  induction n with
  | zero => intro _; exact Nat.le_refl _
  | succ n ih => intro h; rw [hs_sum]; have := ih (fun k hk => h k (by omega)); have := h n (by omega); omega
theorem hs_sum_lt {f : Nat → Nat} {j : Nat} (hj : f j < 16) : ∀ n, j < n → (∀ k, k < n → f k ≤ 16) → hs_sum f n < 16 * n := by
  intro n
  induction n with
  | zero => intro h; omega
  | succ n ih =>
    intro h hk
    rw [hs_sum]
    by_cases e : j = n
    · subst e; have := hs_sum_le j (fun k hk' => hk k (by omega)); omega
    · have := ih (by omega) (fun k hk' => hk k (by omega)); have := hk n (by omega); omega
theorem HM.In.len {x : HM} {B : Int} (h : x.In B) : x.vs.length ≤ 256 := by
  rw [hs_len_sum x.vs h.k16]
  exact hs_sum_le 16 (fun k hk => h.le16 hk)
theorem HM.In.lenlt {x : HM} {B : Int} (h : x.In B) {k : Nat} (hk : k < 16) (hl : (x.vk k).length < 16) : x.vs.length < 256 := by
  rw [hs_len_sum x.vs h.k16]
  exact hs_sum_lt hl 16 hk (fun k hk => h.le16 hk)
/-- how many of the first n versions are of key k -/
def hs_cn (g : Nat → Int32) (k : Int32) : Nat → Nat
  | 0 => 0
  | n + 1 => if g n = k then hs_cn g k n + 1 else hs_cn g k n
theorem hs_cn_succ (g : Nat → Int32) (k : Int32) (n : Nat) : hs_cn g k (n + 1) = if g n = k then hs_cn g k n + 1 else hs_cn g k n := rfl
theorem hs_cn_le (g : Nat → Int32) (k : Int32) : ∀ n, hs_cn g k n ≤ n := by
  intro n
  induction n with
  | zero => exact Nat.le_refl _
  | succ n ih => rw [hs_cn_succ]; split <;> omega
theorem hs_cn_congr {g g' : Nat → Int32} {k : Int32} : ∀ {n : Nat}, (∀ i, i < n → g i = g' i) → hs_cn g k n = hs_cn g' k n := by
  intro n
  induction n with
  | zero => intro _; rfl
  | succ n ih => intro h; rw [hs_cn_succ, hs_cn_succ, ih (fun i hi => h i (by omega)), h n (by omega)]
theorem hs_cn_len {k : Nat} (hk : k < 16) : ∀ (n : Nat) (l : List (Nat × Int64 × Int32)), l.length = n → (∀ v ∈ l, v.1 < 16) → hs_cn (hs_gL l) (nI k) n = (hs_vkL l k).length := by
  intro n
  induction n with
  | zero => intro l h _; rw [List.length_eq_zero_iff.mp h]; rfl
  | succ n ih =>
    intro l h hl
    have hne : l ≠ [] := fun q => by rw [q] at h; cases h
    obtain ⟨l', v, rfl⟩ : ∃ l' v, l = l' ++ [v] := ⟨l.dropLast, l.getLast hne, (List.dropLast_concat_getLast hne).symm⟩
    have hn : l'.length = n := by simpa using h
    have hv16 : v.1 < 16 := hl v (by simp)
    have ev : (l' ++ [v]).getD n (0, 0, 0) = v := by rw [hs_getD_app, if_pos hn.symm]
    have eb : hs_cn (hs_gL (l' ++ [v])) (nI k) n = hs_cn (hs_gL l') (nI k) n := hs_cn_congr (fun i hi => by simp only [hs_gL]; rw [hs_getD_app, if_neg (by omega)])
    have eg : hs_gL (l' ++ [v]) n = nI v.1 := by simp only [hs_gL]; rw [ev]
    rw [hs_cn_succ, eb, eg, ih l' hn (fun w hw => hl w (List.mem_append_left _ hw))]
    unfold hs_vkL
    rw [List.filter_append, List.map_append, List.length_append]
    by_cases e : v.1 = k
    · rw [if_pos (by rw [e])]; simp [e]
    · rw [if_neg (fun q => e ((nI_eq (by omega) (by omega)).mp q))]; simp [e]
theorem HM.In.cnt {x : HM} {B : Int} (h : x.In B) {k : Nat} (hk : k < 16) : hs_cn (hm_vk x) (nI k) x.vs.length = (x.vk k).length := hs_cn_len hk _ x.vs rfl h.k16
/-- versions that have stamps above 0 are found from 0 as from -1 -/
theorem hs_best_0 {u : Int64} {l : List (Int64 × Int32)} (h : ∀ v ∈ l, 1 ≤ v.1.toInt) : hs_best 0 u l = hs_best (-1) u l := by
  have key : ∀ (l : List (Int64 × Int32)) (acc : Option (Int64 × Int32)), (∀ v ∈ l, 1 ≤ v.1.toInt) → l.foldl (hs_fb 0 u) acc = l.foldl (hs_fb (-1) u) acc := by
    intro l
    induction l with
    | nil => intro acc _; rw [List.foldl_nil, List.foldl_nil]
    | cons w l ih =>
      intro acc hl
      have hw := hl w List.mem_cons_self
      have e : hs_fb 0 u acc w = hs_fb (-1) u acc w := by
        cases acc with
        | some y => rw [hs_fb_eq, hs_fb_eq, hs_fo_some, hs_fo_some]
        | none =>
          have h1 : (0 : Int64) < w.1 := by rw [Int64.lt_iff_toInt_lt]; have : (0 : Int64).toInt = 0 := by decide
                                            rw [this]; omega
          have h2 : (-1 : Int64) < w.1 := by rw [Int64.lt_iff_toInt_lt]; have : (-1 : Int64).toInt = -1 := by decide
                                             rw [this]; omega
          rw [hs_fb_eq, hs_fb_eq]
          by_cases q : w.1 ≤ u
          · rw [if_pos (show hs_fo 0 none < w.1 ∧ w.1 ≤ u from ⟨h1, q⟩), if_pos (show hs_fo (-1) none < w.1 ∧ w.1 ≤ u from ⟨h2, q⟩)]
          · rw [if_neg (fun z => q z.2), if_neg (fun z => q z.2)]
      rw [List.foldl_cons, List.foldl_cons, e]
      exact ih _ (fun v hv => hl v (List.mem_cons_of_mem _ hv))
  exact key l none h
theorem HM.In.best0 {x : HM} {B : Int} (h : x.In B) (u : Int64) (k : Nat) : hs_best 0 u (x.vk k) = hs_best (-1) u (x.vk k) := hs_best_0 (fun v hv => (h.vk hv).1)
end
section
/-! ===== laws for settle, meet, restart of the reference ===== -/
theorem hm_mem_vs {bd : Nat → Nat} {cy : Nat → ClassId} (z : HM) (g : List (Nat × Int64 × Int32)) : ((((hm_mem bd cy z).set 16 (bd 16, .inl (cy 0, 256, .inl (hm_vk (z.s_vs g))))).set 17 (bd 17, .inl (cy 1, 256, .inr (.inl (hm_va (z.s_vs g)))))).set 18 (bd 18, .inl (cy 0, 256, .inl (hm_vv (z.s_vs g))))).set 0 (bd 0, .inr (4, (hm_objL bd z).set 17 (.int (nI (z.s_vs g).vs.length)))) = hm_mem bd cy (z.s_vs g) := rfl
theorem hm_mem_cm {bd : Nat → Nat} {cy : Nat → ClassId} (z : HM) (g : List Int64) : ((hm_mem bd cy z).set 12 (bd 12, .inl (cy 1, 512, .inr (.inl (hm_cm (z.s_cm g)))))).set 0 (bd 0, .inr (4, (hm_objL bd z).set 12 (.int (nI (z.s_cm g).cm.length)))) = hm_mem bd cy (z.s_cm g) := rfl
theorem hm_addV {bd : Nat → Nat} {cy : Nat → ClassId} {x : HM} (k : Nat) (s : Int64) (v : Int32) :
    ((((hm_mem bd cy x).set 16 (bd 16, .inl (cy 0, 256, .inl (upd (hm_vk x) x.vs.length (nI k))))).set 17 (bd 17, .inl (cy 1, 256, .inr (.inl (vp_updL (hm_va x) x.vs.length s))))).set 18 (bd 18, .inl (cy 0, 256, .inl (upd (hm_vv x) x.vs.length v)))).set 0 (bd 0, .inr (4, (hm_objL bd x).set 17 (.int (nI (x.vs.length + 1))))) = hm_mem bd cy (x.add k s v) := by
  have e1 : upd (hm_vk x) x.vs.length (nI k) = hm_vk (x.add k s v) := by
    funext i
    show (if i = x.vs.length then nI k else nI (x.vs.getD i (0, 0, 0)).1) = nI ((x.vs ++ [(k, s, v)]).getD i (0, 0, 0)).1
    rw [hs_getD_app]; split <;> rfl
  have e2 : vp_updL (hm_va x) x.vs.length s = hm_va (x.add k s v) := by
    funext i
    show (if i = x.vs.length then s else (x.vs.getD i (0, 0, 0)).2.1) = ((x.vs ++ [(k, s, v)]).getD i (0, 0, 0)).2.1
    rw [hs_getD_app]; split <;> rfl
  have e3 : upd (hm_vv x) x.vs.length v = hm_vv (x.add k s v) := by
    funext i
    show (if i = x.vs.length then v else (x.vs.getD i (0, 0, 0)).2.2) = ((x.vs ++ [(k, s, v)]).getD i (0, 0, 0)).2.2
    rw [hs_getD_app]; split <;> rfl
  have e4 : x.vs.length + 1 = (x.add k s v).vs.length := by
    show x.vs.length + 1 = (x.vs ++ [(k, s, v)]).length
    simp
  rw [e1, e2, e3, e4]
  exact hm_mem_vs x (x.vs ++ [(k, s, v)])
theorem hm_logC {bd : Nat → Nat} {cy : Nat → ClassId} {x : HM} (s : Int64) :
    ((hm_mem bd cy x).set 12 (bd 12, .inl (cy 1, 512, .inr (.inl (vp_updL (hm_cm x) x.cm.length s))))).set 0 (bd 0, .inr (4, (hm_objL bd x).set 12 (.int (nI (x.cm.length + 1))))) = hm_mem bd cy (x.s_cm (x.cm ++ [s])) := by
  have e1 : vp_updL (hm_cm x) x.cm.length s = hm_cm (x.s_cm (x.cm ++ [s])) := by
    funext i
    show (if i = x.cm.length then s else x.cm.getD i 0) = (x.cm ++ [s]).getD i 0
    rw [hs_getD_app]
  have e4 : x.cm.length + 1 = (x.s_cm (x.cm ++ [s])).cm.length := by
    show x.cm.length + 1 = (x.cm ++ [s]).length
    simp
  rw [e1, e4]
  exact hm_mem_cm x (x.cm ++ [s])
theorem hm_s_bs {bd : Nat → Nat} {cy : Nat → ClassId} {x : HM} {b : Nat} : (hm_mem bd cy x).set 0 (bd 0, .inr (4, (hm_objL bd x).set 11 (.long (lN b)))) = hm_mem bd cy (x.s_bs b) := rfl
theorem hs_up_id {α : Type} (f : Nat → α) (t : Nat) : va_up f t (f t) = f := by
  funext j
  by_cases e : j = t
  · subst e; rw [va_up_self]
  · rw [va_up_ne _ _ e]
theorem hs_s_ws_id (x : HM) : x.s_ws x.ws = x := rfl
theorem hs_s_lm_id (x : HM) : x.s_lm x.lm = x := rfl
theorem hs_s_lr_id (x : HM) : x.s_lr x.lr = x := rfl
theorem hs_u_ws_id (x : HM) (t : Nat) : x.u_ws t (x.ws t) = x := by unfold HM.u_ws; rw [hs_up_id, hs_s_ws_id]
theorem hs_u_lm_id (x : HM) (t : Nat) : x.u_lm t (x.lm t) = x := by unfold HM.u_lm; rw [hs_up_id, hs_s_lm_id]
theorem hs_u_lr_id (x : HM) (t : Nat) : x.u_lr t (x.lr t) = x := by unfold HM.u_lr; rw [hs_up_id, hs_s_lr_id]
/-- the intents and the keys read of t below n are gone -/
def HM.cs (x : HM) (t n : Nat) : HM := (x.clr t n).s_se (va_up x.se t (fun k => if k < n then false else x.se t k))
theorem hs_q_se (z : HM) (g : Nat → Nat → Bool) : (z.s_se g).se = g := rfl
theorem hs_q_seu (z : HM) (g : Nat → Nat → Bool) (t : Nat) (f : Nat → Bool) : (z.s_se g).u_se t f = z.s_se (va_up g t f) := rfl
theorem hs_q_u (z : HM) (t : Nat) (f : Nat → Bool) : z.u_se t f = z.s_se (va_up z.se t f) := rfl
theorem hs_q_c1 (z : HM) (n : Nat) (o : Option Nat) (t : Nat) (f : Nat → Bool) : (z.u_hd n o).u_se t f = (z.u_se t f).u_hd n o := rfl
theorem hs_q_c2 (z : HM) (g : Nat → Nat → Bool) (n : Nat) (o : Option Nat) : (z.s_se g).u_hd n o = (z.u_hd n o).s_se g := rfl
theorem hs_q_hse (z : HM) (n : Nat) (o : Option Nat) : (z.u_hd n o).se = z.se := rfl
theorem hs_q_hd (z : HM) (g : Nat → Nat → Bool) : (z.s_se g).hd = z.hd := rfl
theorem hs_q_cse (x : HM) (t n : Nat) : (x.clr t n).se = x.se := rfl
theorem hs_q_id (z : HM) : z.s_se z.se = z := rfl
theorem hs_cs_0 (x : HM) (t : Nat) : x.cs t 0 = x := by
  have e : (fun k => if k < 0 then false else x.se t k) = x.se t := by funext k; simp
  unfold HM.cs
  rw [hs_clr_0, e, hs_up_id, hs_q_id]
theorem hs_cs_hd (x : HM) (t n : Nat) : (x.cs t n).hd = (x.clr t n).hd := by unfold HM.cs; rw [hs_q_hd]
theorem hs_cs_se (x : HM) (t n : Nat) : (x.cs t n).u_se t (va_up ((x.cs t n).se t) n false) = (x.clr t n).s_se (va_up x.se t (fun k => if k < n + 1 then false else x.se t k)) := by
  unfold HM.cs
  rw [hs_q_se, hs_q_seu]
  congr 1
  funext j
  by_cases e : j = t
  · subst e
    rw [va_up_self, va_up_self, va_up_self]
    funext k
    by_cases e2 : k = n
    · subst e2; rw [va_up_self]; simp
    · rw [va_up_ne _ _ e2]
      by_cases q : k < n
      · simp [q, show k < n + 1 by omega]
      · simp [q, show ¬ k < n + 1 by omega]
  · rw [va_up_ne _ _ e, va_up_ne _ _ e, va_up_ne _ _ e]
theorem hs_cs_eq (x : HM) {t n : Nat} (h : x.hd n = some t) : ((x.cs t n).u_hd n none).u_se t (va_up (((x.cs t n).u_hd n none).se t) n false) = x.cs t (n + 1) := by
  rw [hs_q_hse, hs_q_c1, hs_cs_se, hs_q_c2, hs_clr_eq x h, HM.cs]
theorem hs_cs_ne (x : HM) {t n : Nat} (h : ¬ x.hd n = some t) : (x.cs t n).u_se t (va_up ((x.cs t n).se t) n false) = x.cs t (n + 1) := by
  rw [hs_cs_se, hs_clr_ne x h, HM.cs]
theorem hm_mem_se {bd : Nat → Nat} {cy : Nat → ClassId} (z : HM) (g : Nat → Nat → Bool) : hm_mem bd cy (z.s_se g) = (hm_mem bd cy z).set 11 (bd 11, .inl (cy 2, 128, .inl (fun j => if g (j / 16) (j % 16) then 1 else 0))) := rfl
theorem hm_cs16 {bd : Nat → Nat} {cy : Nat → ClassId} (x : HM) (t : Nat) : hm_mem bd cy (x.cs t 16) = hm_mem bd cy ((x.clr t 16).mv1 t) := by
  unfold HM.cs HM.mv1
  rw [hs_q_u, hs_q_cse, hm_mem_se, hm_mem_se]
  have e : (fun j => if (va_up x.se t (fun k => if k < 16 then false else x.se t k)) (j / 16) (j % 16) then (1 : Int32) else 0) = fun j => if (va_up x.se t (fun _ => false)) (j / 16) (j % 16) then 1 else 0 := by
    funext j
    by_cases e : j / 16 = t
    · rw [e, va_up_self, va_up_self]; simp [show j % 16 < 16 by omega]
    · rw [va_up_ne _ _ e, va_up_ne _ _ e]
  rw [e]
/-- the reference's way to take the greater -/
theorem hs_mv2_pos (x : HM) {t : Nat} {a : Int64} (h : x.ws t < a) : (x.mv1 t).u_ws t a = x.mv2 t a := by
  unfold HM.mv2
  rw [if_neg (show ¬ a < (x.mv1 t).ws t from fun q => Int64.lt_irrefl (Int64.lt_trans h q))]
theorem hs_mv2_neg (x : HM) {t : Nat} {a : Int64} (h : ¬ x.ws t < a) : x.mv1 t = x.mv2 t a := by
  unfold HM.mv2
  have e : (if a < (x.mv1 t).ws t then (x.mv1 t).ws t else a) = (x.mv1 t).ws t := by
    split
    · rfl
    · rename_i q
      exact Int64.le_antisymm (Int64.not_lt.mp h) (Int64.not_lt.mp q)
  rw [e, hs_u_ws_id]
theorem hs_mv_pos (x : HM) {t : Nat} {a : Int64} (h : (x.mv3 t a).lm t < (x.mv3 t a).rs t) : (x.mv3 t a).u_lm t ((x.mv3 t a).rs t) = x.mv t a := by
  unfold HM.mv
  rw [if_neg (fun q => Int64.lt_irrefl (Int64.lt_trans h q))]
theorem hs_mv_neg (x : HM) {t : Nat} {a : Int64} (h : ¬ (x.mv3 t a).lm t < (x.mv3 t a).rs t) : x.mv3 t a = x.mv t a := by
  unfold HM.mv
  have e : (if (x.mv3 t a).rs t < (x.mv3 t a).lm t then (x.mv3 t a).lm t else (x.mv3 t a).rs t) = (x.mv3 t a).lm t := by
    split
    · rfl
    · rename_i q
      exact Int64.le_antisymm (Int64.not_lt.mp h) (Int64.not_lt.mp q)
  rw [e, hs_u_lm_id]
theorem hs_mk_pos (x : HM) {k : Nat} {s : Int64} (h : x.lr k < s) : x.u_lr k s = x.mk k s := by
  unfold HM.mk
  rw [if_neg (fun q => Int64.lt_irrefl (Int64.lt_trans h q))]
theorem hs_mk_neg (x : HM) {k : Nat} {s : Int64} (h : ¬ x.lr k < s) : x = x.mk k s := by
  unfold HM.mk
  have e : (if s < x.lr k then x.lr k else s) = x.lr k := by
    split
    · rfl
    · rename_i q
      exact Int64.le_antisymm (Int64.not_lt.mp h) (Int64.not_lt.mp q)
  rw [e, hs_u_lr_id]
theorem hs_pu_pos (x : HM) {t : Nat} {s : Int64} (h : ¬ s < x.ws t) : x.u_ws t (s + 1) = x.pu t s := by
  unfold HM.pu
  rw [if_pos (Int64.not_lt.mp h)]
theorem hs_pu_neg (x : HM) {t : Nat} {s : Int64} (h : s < x.ws t) : x = x.pu t s := by
  unfold HM.pu
  rw [if_neg (Int64.not_le.mpr h), hs_u_ws_id]
def HM.stopA (x : HM) (z : Int32) : Int32 := match hs_n 8 z with
  | none => -1
  | some t => x.stc t
def HM.stopM (x : HM) (z : Int32) : HM := match hs_n 8 z with
  | none => x
  | some t => x.stp t
def hs_Ph (x : HM) : Prop := ∀ t, t < 8 → x.ph t = 0 ∨ x.ph t = 1 ∨ x.ph t = 2 ∨ x.ph t = 3
theorem hs_sil_vs (x : HM) (u : Nat) : (x.sil u).vs = x.vs := by unfold HM.sil; split <;> rfl
theorem hs_lk3_vs (x : HM) (k u : Nat) : (x.lk3 k u).vs = x.vs := hs_sil_vs _ _
end
section
theorem in_X4_find_X4 : ∀ w ∈ u_ws RX4 TX4 21, w ∈ wsX4_find := by decide +kernel
set_option maxHeartbeats 4000000 in
set_option maxRecDepth 100000 in
/-- reference: r_find -/
theorem r_find (l : Launch) (D : va_G) (cy : Nat → ClassId) (bd : Nat → Nat) (ho : hm_ok bd) (x : HM) (hlen : x.vs.length ≤ 256) {k : Nat} (hk : k < 16) (a u : Int64) : Ct l yX4_find wsX4_find ({ frames := 0, cells := 0, slots := 0, locals := 0 }) D cy (hm_A bd) [.ref (bd 0), .int (nI k), .long (a), .long (u)] (hm_mem bd cy (x)) (some (.int (hs_ix (hs_fi (hm_vk x) (hm_va x) (nI k) a u x.vs.length)))) (hm_mem bd cy (x)) := by
  refine ct_of (cc := cX4_find) (maxL := 8) (ret := (some .int)) rfl (by decide) (Nat.le_of_ble_eq_true rfl) ?_
  intro p e s m below meth c ls G hx hb hml hr hlocks hP hS hl
  have hD := hm_D ho cy (x)
  have hl : lv_has ls 8 [(0, .ref (bd 0)), (1, .int (nI k)), (2, .long (a)), (4, .long (u))] := hl
  have loop : ∀ (n i : Nat), i ≤ x.vs.length → x.vs.length + 1 ≤ i + n → ∀ ls : Array Slot, lv_has ls 8 [(7, .int (nI i)), (6, .int (hs_ix (hs_fi (hm_vk x) (hm_va x) (nI k) a u (i)))), (0, .ref (bd 0)), (1, .int (nI k)), (2, .long (a)), (4, .long (u))] → W p l e ({ frames := 0, cells := 0, slots := 0, locals := 0 }) s m [.ref (bd 0), .int (nI k), .long a, .long u].toArray below meth c s.heap [] 0 0 (MQ below (hs_Post D (some (.int (hs_ix (hs_fi (hm_vk x) (hm_va x) (nI k) a u x.vs.length)))) (hm_mem bd cy (x)) (hm_A bd)) [.ref (bd 0), .int (nI k), .long a, .long u].toArray s 0 0 (hm_A bd)) (F0 m 6 ls []) := by
    intro n
    induction n with
    | zero => intro i h1 h2; exact absurd h2 (by omega)
    | succ n ih =>
      intro i hi hin ls hl
      refine lv_iload hx hb dX4_find_6 (lv_at hl 0 rfl) ?_
      refine lv_aload_n hx hb dX4_find_8 rfl (lv_at hl 2 rfl) ?_
      refine hm_gf G in_X4_find_X4 hP rfl 17 (by decide) (by decide +kernel) (.int (nI (HM.vs (x)).length)) rfl rfl dX4_find_9 ?_
      refine lv_icmp_ge (tgt := 84) hx hb dX4_find_12 (by decide) (fun c_1 => ?_) (fun c_1 => ?_)
      · have hie : i = x.vs.length := Nat.le_antisymm hi ((nI_leI (by omega) (by omega)).mp c_1)
        refine lv_iload hx hb dX4_find_84 (lv_at hl 1 rfl) ?_
        exact ct_iret hx hb hr hlocks (by rw [hie]) hP hS dX4_find_86
      · have hlt : i < x.vs.length := Nat.lt_of_not_le (fun q => c_1 (nI_le q (by omega)))
        refine lv_aload_n hx hb dX4_find_15 rfl (lv_at hl 2 rfl) ?_
        refine hm_gf G in_X4_find_X4 hP rfl 18 (by decide) (by decide +kernel) (.ref (bd 16)) rfl rfl dX4_find_16 ?_
        refine lv_iload hx hb dX4_find_19 (lv_at hl 0 rfl) ?_
        refine hm_lI G hP 16 (hm_vk (x)) 256 rfl (i) (nI_clamp (by omega)) (hs_inN (by omega) (by decide)) (hm_vk (x) (i)) rfl dX4_find_21 ?_
        refine lv_iload_n hx hb dX4_find_22 rfl (lv_at hl 3 rfl) ?_
        refine lv_icmp_ne (tgt := 78) hx hb dX4_find_23 (by decide) (fun c_2 => ?_) (fun c_2 => ?_)
        · refine lv_iinc (v := nI (i + 1)) (lv' := [(7, .int (nI (i + 1))), (6, .int (hs_ix (hs_fi (hm_vk x) (hm_va x) (nI k) a u (i)))), (0, .ref (bd 0)), (1, .int (nI k)), (2, .long (a)), (4, .long (u))]) hx hb dX4_find_78 hl (k := 0) rfl (nI_1 i) (by decide) rfl (fun ls hl => ?_)
          refine lv_goto (tgt := 6) hx hb dX4_find_81 (by decide) ?_
          have e1 : hs_fi (hm_vk x) (hm_va x) (nI k) a u (i + 1) = hs_fi (hm_vk x) (hm_va x) (nI k) a u (i) := if_neg (fun q => c_2 q.1)
          refine ih (i + 1) (by omega) (by omega) ls ?_
          rw [e1]; exact lv_sub hl [0, 1, 2, 3, 4, 5] rfl
        · refine lv_aload_n hx hb dX4_find_26 rfl (lv_at hl 2 rfl) ?_
          refine hm_gf G in_X4_find_X4 hP rfl 19 (by decide) (by decide +kernel) (.ref (bd 17)) rfl rfl dX4_find_27 ?_
          refine lv_iload hx hb dX4_find_30 (lv_at hl 0 rfl) ?_
          refine hm_lL G hP 17 (hm_va (x)) 256 rfl (i) (nI_clamp (by omega)) (hs_inN (by omega) (by decide)) (hm_va (x) (i)) rfl dX4_find_32 ?_
          refine lv_lload_n hx hb dX4_find_33 rfl (lv_at hl 4 rfl) ?_
          refine hs_lle (x := hm_va (x) (i)) (y := a) (tgt := 78) hx hb dX4_find_34 dX4_find_35 (by decide) (fun c_3 => ?_) (fun c_3 => ?_)
          · refine lv_iinc (v := nI (i + 1)) (lv' := [(7, .int (nI (i + 1))), (6, .int (hs_ix (hs_fi (hm_vk x) (hm_va x) (nI k) a u (i)))), (0, .ref (bd 0)), (1, .int (nI k)), (2, .long (a)), (4, .long (u))]) hx hb dX4_find_78 hl (k := 0) rfl (nI_1 i) (by decide) rfl (fun ls hl => ?_)
            refine lv_goto (tgt := 6) hx hb dX4_find_81 (by decide) ?_
            have e1 : hs_fi (hm_vk x) (hm_va x) (nI k) a u (i + 1) = hs_fi (hm_vk x) (hm_va x) (nI k) a u (i) := if_neg (fun q => c_3 q.2.1)
            refine ih (i + 1) (by omega) (by omega) ls ?_
            rw [e1]; exact lv_sub hl [0, 1, 2, 3, 4, 5] rfl
          · refine lv_aload_n hx hb dX4_find_38 rfl (lv_at hl 2 rfl) ?_
            refine hm_gf G in_X4_find_X4 hP rfl 19 (by decide) (by decide +kernel) (.ref (bd 17)) rfl rfl dX4_find_39 ?_
            refine lv_iload hx hb dX4_find_42 (lv_at hl 0 rfl) ?_
            refine hm_lL G hP 17 (hm_va (x)) 256 rfl (i) (nI_clamp (by omega)) (hs_inN (by omega) (by decide)) (hm_va (x) (i)) rfl dX4_find_44 ?_
            refine lv_lload hx hb dX4_find_45 (lv_at hl 5 rfl) ?_
            refine hs_lgt (x := hm_va (x) (i)) (y := u) (tgt := 78) hx hb dX4_find_47 dX4_find_48 (by decide) (fun c_4 => ?_) (fun c_4 => ?_)
            · refine lv_iinc (v := nI (i + 1)) (lv' := [(7, .int (nI (i + 1))), (6, .int (hs_ix (hs_fi (hm_vk x) (hm_va x) (nI k) a u (i)))), (0, .ref (bd 0)), (1, .int (nI k)), (2, .long (a)), (4, .long (u))]) hx hb dX4_find_78 hl (k := 0) rfl (nI_1 i) (by decide) rfl (fun ls hl => ?_)
              refine lv_goto (tgt := 6) hx hb dX4_find_81 (by decide) ?_
              have e1 : hs_fi (hm_vk x) (hm_va x) (nI k) a u (i + 1) = hs_fi (hm_vk x) (hm_va x) (nI k) a u (i) := if_neg (fun q => Int64.not_le.mpr c_4 q.2.2.1)
              refine ih (i + 1) (by omega) (by omega) ls ?_
              rw [e1]; exact lv_sub hl [0, 1, 2, 3, 4, 5] rfl
            · refine lv_iload hx hb dX4_find_51 (lv_at hl 1 rfl) ?_
              refine lv_if_lt (tgt := 74) hx hb dX4_find_53 (by decide) (fun c_5 => ?_) (fun c_5 => ?_)
              · have hp : hs_fi (hm_vk x) (hm_va x) (nI k) a u (i) = none := by
                  cases hq : hs_fi (hm_vk x) (hm_va x) (nI k) a u (i) with
                  | none => rfl
                  | some j => rw [hq] at c_5; exact absurd c_5 (nI_pos (by have := (hs_fi_lt hq).1; omega))
                refine lv_iload hx hb dX4_find_74 (lv_at hl 0 rfl) ?_
                refine lv_istore (lv' := [(6, .int (nI i)), (7, .int (nI i)), (0, .ref (bd 0)), (1, .int (nI k)), (2, .long (a)), (4, .long (u))]) hx hb dX4_find_76 hl (by decide) rfl (fun ls hl => ?_)
                refine lv_iinc (v := nI (i + 1)) (lv' := [(7, .int (nI (i + 1))), (6, .int (nI i)), (0, .ref (bd 0)), (1, .int (nI k)), (2, .long (a)), (4, .long (u))]) hx hb dX4_find_78 hl (k := 1) rfl (nI_1 i) (by decide) rfl (fun ls hl => ?_)
                refine lv_goto (tgt := 6) hx hb dX4_find_81 (by decide) ?_
                have e1 : hs_fi (hm_vk x) (hm_va x) (nI k) a u (i + 1) = some i := if_pos ⟨c_2, c_3, Int64.not_lt.mp c_4, by rw [hp]; exact c_3⟩
                refine ih (i + 1) (by omega) (by omega) ls ?_
                rw [e1]; exact lv_sub hl [0, 1, 2, 3, 4, 5] rfl
              · obtain ⟨j, hp⟩ : ∃ j, hs_fi (hm_vk x) (hm_va x) (nI k) a u (i) = some j := by
                  cases hq : hs_fi (hm_vk x) (hm_va x) (nI k) a u (i) with
                  | none => rw [hq] at c_5; exact absurd (by decide) c_5
                  | some j => exact ⟨j, rfl⟩
                have hjl := (hs_fi_lt hp).1
                have hjx : hs_ix (hs_fi (hm_vk x) (hm_va x) (nI k) a u (i)) = nI j := by rw [hp]; rfl
                refine lv_aload_n hx hb dX4_find_56 rfl (lv_at hl 2 rfl) ?_
                refine hm_gf G in_X4_find_X4 hP rfl 19 (by decide) (by decide +kernel) (.ref (bd 17)) rfl rfl dX4_find_57 ?_
                refine lv_iload hx hb dX4_find_60 (lv_at hl 0 rfl) ?_
                refine hm_lL G hP 17 (hm_va (x)) 256 rfl (i) (nI_clamp (by omega)) (hs_inN (by omega) (by decide)) (hm_va (x) (i)) rfl dX4_find_62 ?_
                refine lv_aload_n hx hb dX4_find_63 rfl (lv_at hl 2 rfl) ?_
                refine hm_gf G in_X4_find_X4 hP rfl 19 (by decide) (by decide +kernel) (.ref (bd 17)) rfl rfl dX4_find_64 ?_
                refine lv_iload hx hb dX4_find_67 (lv_at hl 1 rfl) ?_
                refine hm_lL G hP 17 (hm_va (x)) 256 rfl (j) (by rw [hjx]; exact nI_clamp (by omega)) (by rw [hjx]; exact hs_inN (by omega) (by decide)) (hm_va (x) (j)) rfl dX4_find_69 ?_
                refine hs_lle (x := hm_va (x) (i)) (y := hm_va (x) (j)) (tgt := 78) hx hb dX4_find_70 dX4_find_71 (by decide) (fun c_6 => ?_) (fun c_6 => ?_)
                · refine lv_iinc (v := nI (i + 1)) (lv' := [(7, .int (nI (i + 1))), (6, .int (hs_ix (hs_fi (hm_vk x) (hm_va x) (nI k) a u (i)))), (0, .ref (bd 0)), (1, .int (nI k)), (2, .long (a)), (4, .long (u))]) hx hb dX4_find_78 hl (k := 0) rfl (nI_1 i) (by decide) rfl (fun ls hl => ?_)
                  refine lv_goto (tgt := 6) hx hb dX4_find_81 (by decide) ?_
                  have e1 : hs_fi (hm_vk x) (hm_va x) (nI k) a u (i + 1) = hs_fi (hm_vk x) (hm_va x) (nI k) a u (i) := if_neg (fun q => c_6 (by have z := q.2.2.2; rw [hp] at z; exact z))
                  refine ih (i + 1) (by omega) (by omega) ls ?_
                  rw [e1]; exact lv_sub hl [0, 1, 2, 3, 4, 5] rfl
                · refine lv_iload hx hb dX4_find_74 (lv_at hl 0 rfl) ?_
                  refine lv_istore (lv' := [(6, .int (nI i)), (7, .int (nI i)), (0, .ref (bd 0)), (1, .int (nI k)), (2, .long (a)), (4, .long (u))]) hx hb dX4_find_76 hl (by decide) rfl (fun ls hl => ?_)
                  refine lv_iinc (v := nI (i + 1)) (lv' := [(7, .int (nI (i + 1))), (6, .int (nI i)), (0, .ref (bd 0)), (1, .int (nI k)), (2, .long (a)), (4, .long (u))]) hx hb dX4_find_78 hl (k := 1) rfl (nI_1 i) (by decide) rfl (fun ls hl => ?_)
                  refine lv_goto (tgt := 6) hx hb dX4_find_81 (by decide) ?_
                  have e1 : hs_fi (hm_vk x) (hm_va x) (nI k) a u (i + 1) = some i := if_pos ⟨c_2, c_3, Int64.not_lt.mp c_4, by rw [hp]; exact c_6⟩
                  refine ih (i + 1) (by omega) (by omega) ls ?_
                  rw [e1]; exact lv_sub hl [0, 1, 2, 3, 4, 5] rfl
  refine lv_iconst (v := (-1)) hx hb dX4_find_0 (by decide) ?_
  refine lv_istore (lv' := [(6, .int ((-1))), (0, .ref (bd 0)), (1, .int (nI k)), (2, .long (a)), (4, .long (u))]) hx hb dX4_find_1 hl (by decide) rfl (fun ls hl => ?_)
  refine lv_iconst (v := 0) hx hb dX4_find_3 (by decide) ?_
  refine lv_istore (lv' := [(7, .int (0)), (6, .int ((-1))), (0, .ref (bd 0)), (1, .int (nI k)), (2, .long (a)), (4, .long (u))]) hx hb dX4_find_4 hl (by decide) rfl (fun ls hl => ?_)
  exact loop (x.vs.length + 1) 0 (Nat.zero_le _) (by omega) ls (lv_sub hl [0, 1, 2, 3, 4, 5] rfl)
theorem in_X4_versions_X4 : ∀ w ∈ u_ws RX4 TX4 21, w ∈ wsX4_versions := by decide +kernel
set_option maxHeartbeats 4000000 in
set_option maxRecDepth 100000 in
/-- reference: r_versions -/
theorem r_versions (l : Launch) (D : va_G) (cy : Nat → ClassId) (bd : Nat → Nat) (ho : hm_ok bd) (x : HM) (B : Int) (hIn : x.In B) (z : Int32) : Ct l yX4_versions wsX4_versions ({ frames := 0, cells := 0, slots := 0, locals := 0 }) D cy (hm_A bd) [.ref (bd 0), .int (z)] (hm_mem bd cy (x)) (some (.int (x.versionsA z))) (hm_mem bd cy (x)) := by
  rcases hs_rng z (b := 16) (by decide) with hz | ⟨k, hk, rfl⟩
  · refine ct_of (cc := cX4_versions) (maxL := 4) (ret := (some .int)) rfl (by decide) (Nat.le_of_ble_eq_true rfl) ?_
    intro p e s m below meth c ls G hx hb hml hr hlocks hP hS hl
    have hD := hm_D ho cy (x)
    have hl : lv_has ls 4 [(0, .ref (bd 0)), (1, .int (z))] := hl
    refine lv_iload_n hx hb dX4_versions_0 rfl (lv_at hl 1 rfl) ?_
    refine lv_if_lt (tgt := 10) hx hb dX4_versions_1 (by decide) (fun c_1 => ?_) (fun c_1 => ?_)
    · refine lv_iconst (v := (-1)) hx hb dX4_versions_10 (by decide) ?_
      exact ct_iret hx hb hr hlocks (by rw [HM.versionsA, hs_n_out hz]) hP hS dX4_versions_11
    · refine lv_iload_n hx hb dX4_versions_4 rfl (lv_at hl 1 rfl) ?_
      refine lv_bipush (v := 15) hx hb dX4_versions_5 (by decide) ?_
      refine lv_icmp_le (tgt := 12) hx hb dX4_versions_7 (by decide) (fun c_2 => ?_) (fun c_2 => ?_)
      · exact absurd c_2 (Int32.not_le.mpr (hs_gt_of hz c_1 (by decide)))
      · refine lv_iconst (v := (-1)) hx hb dX4_versions_10 (by decide) ?_
        exact ct_iret hx hb hr hlocks (by rw [HM.versionsA, hs_n_out hz]) hP hS dX4_versions_11
  · have eM := hs_n_in hk (show 16 < 2 ^ 31 by decide)
    have hlen := hIn.len
    refine ct_of (cc := cX4_versions) (maxL := 4) (ret := (some .int)) rfl (by decide) (Nat.le_of_ble_eq_true rfl) ?_
    intro p e s m below meth c ls G hx hb hml hr hlocks hP hS hl
    have hD := hm_D ho cy (x)
    have hl : lv_has ls 4 [(0, .ref (bd 0)), (1, .int (nI k))] := hl
    have loop : ∀ (n i : Nat), i ≤ x.vs.length → x.vs.length + 1 ≤ i + n → ∀ ls : Array Slot, lv_has ls 4 [(3, .int (nI i)), (2, .int (nI (hs_cn (hm_vk x) (nI k) (i)))), (0, .ref (bd 0)), (1, .int (nI k))] → W p l e ({ frames := 0, cells := 0, slots := 0, locals := 0 }) s m [.ref (bd 0), .int (nI k)].toArray below meth c s.heap [] 0 0 (MQ below (hs_Post D (some (.int (x.versionsA (nI k)))) (hm_mem bd cy (x)) (hm_A bd)) [.ref (bd 0), .int (nI k)].toArray s 0 0 (hm_A bd)) (F0 m 16 ls []) := by
      intro n
      induction n with
      | zero => intro i h1 h2; exact absurd h2 (by omega)
      | succ n ih =>
        intro i hi hin ls hl
        refine lv_iload_n hx hb dX4_versions_16 rfl (lv_at hl 0 rfl) ?_
        refine lv_aload_n hx hb dX4_versions_17 rfl (lv_at hl 2 rfl) ?_
        refine hm_gf G in_X4_versions_X4 hP rfl 17 (by decide) (by decide +kernel) (.int (nI (HM.vs (x)).length)) rfl rfl dX4_versions_18 ?_
        refine lv_icmp_ge (tgt := 44) hx hb dX4_versions_21 (by decide) (fun c_1 => ?_) (fun c_1 => ?_)
        · have hie : i = x.vs.length := Nat.le_antisymm hi ((nI_leI (by omega) (by omega)).mp c_1)
          refine lv_iload_n hx hb dX4_versions_44 rfl (lv_at hl 1 rfl) ?_
          exact ct_iret hx hb hr hlocks (by rw [HM.versionsA, eM, hie, hIn.cnt hk]) hP hS dX4_versions_45
        · have hlt : i < x.vs.length := Nat.lt_of_not_le (fun q => c_1 (nI_le q (by omega)))
          refine lv_aload_n hx hb dX4_versions_24 rfl (lv_at hl 2 rfl) ?_
          refine hm_gf G in_X4_versions_X4 hP rfl 18 (by decide) (by decide +kernel) (.ref (bd 16)) rfl rfl dX4_versions_25 ?_
          refine lv_iload_n hx hb dX4_versions_28 rfl (lv_at hl 0 rfl) ?_
          refine hm_lI G hP 16 (hm_vk (x)) 256 rfl (i) (nI_clamp (by omega)) (hs_inN (by omega) (by decide)) (hm_vk (x) (i)) rfl dX4_versions_29 ?_
          refine lv_iload_n hx hb dX4_versions_30 rfl (lv_at hl 3 rfl) ?_
          refine lv_icmp_ne (tgt := 38) hx hb dX4_versions_31 (by decide) (fun c_2 => ?_) (fun c_2 => ?_)
          · refine lv_iinc (v := nI (i + 1)) (lv' := [(3, .int (nI (i + 1))), (2, .int (nI (hs_cn (hm_vk x) (nI k) (i)))), (0, .ref (bd 0)), (1, .int (nI k))]) hx hb dX4_versions_38 hl (k := 0) rfl (nI_1 i) (by decide) rfl (fun ls hl => ?_)
            refine lv_goto (tgt := 16) hx hb dX4_versions_41 (by decide) ?_
            have e1 : hs_cn (hm_vk x) (nI k) (i + 1) = hs_cn (hm_vk x) (nI k) (i) := if_neg c_2
            refine ih (i + 1) (by omega) (by omega) ls ?_
            rw [e1]; exact lv_sub hl [0, 1, 2, 3] rfl
          · refine lv_iload_n hx hb dX4_versions_34 rfl (lv_at hl 1 rfl) ?_
            refine lv_iconst (v := 1) hx hb dX4_versions_35 (by decide) ?_
            refine lv_iadd hx hb dX4_versions_36 ?_
            rw [show ((nI (hs_cn (hm_vk x) (nI k) (i)) + 1)) = nI (hs_cn (hm_vk x) (nI k) (i) + 1) from nI_1 _]
            refine lv_istore_n (lv' := [(2, .int (nI (hs_cn (hm_vk x) (nI k) (i) + 1))), (3, .int (nI i)), (0, .ref (bd 0)), (1, .int (nI k))]) hx hb dX4_versions_37 rfl hl (by decide) rfl (fun ls hl => ?_)
            refine lv_iinc (v := nI (i + 1)) (lv' := [(3, .int (nI (i + 1))), (2, .int (nI (hs_cn (hm_vk x) (nI k) (i) + 1))), (0, .ref (bd 0)), (1, .int (nI k))]) hx hb dX4_versions_38 hl (k := 1) rfl (nI_1 i) (by decide) rfl (fun ls hl => ?_)
            refine lv_goto (tgt := 16) hx hb dX4_versions_41 (by decide) ?_
            have e1 : hs_cn (hm_vk x) (nI k) (i + 1) = hs_cn (hm_vk x) (nI k) (i) + 1 := if_pos c_2
            refine ih (i + 1) (by omega) (by omega) ls ?_
            rw [e1]; exact lv_sub hl [0, 1, 2, 3] rfl
    refine lv_iload_n hx hb dX4_versions_0 rfl (lv_at hl 1 rfl) ?_
    refine lv_if_lt (tgt := 10) hx hb dX4_versions_1 (by decide) (fun c_1 => ?_) (fun c_1 => ?_)
    · exact absurd c_1 (nI_pos (by omega))
    · refine lv_iload_n hx hb dX4_versions_4 rfl (lv_at hl 1 rfl) ?_
      refine lv_bipush (v := 15) hx hb dX4_versions_5 (by decide) ?_
      refine lv_icmp_le (tgt := 12) hx hb dX4_versions_7 (by decide) (fun c_2 => ?_) (fun c_2 => ?_)
      · refine lv_iconst (v := 0) hx hb dX4_versions_12 (by decide) ?_
        refine lv_istore_n (lv' := [(2, .int (0)), (0, .ref (bd 0)), (1, .int (nI k))]) hx hb dX4_versions_13 rfl hl (by decide) rfl (fun ls hl => ?_)
        refine lv_iconst (v := 0) hx hb dX4_versions_14 (by decide) ?_
        refine lv_istore_n (lv' := [(3, .int (0)), (2, .int (0)), (0, .ref (bd 0)), (1, .int (nI k))]) hx hb dX4_versions_15 rfl hl (by decide) rfl (fun ls hl => ?_)
        exact loop (x.vs.length + 1) 0 (Nat.zero_le _) (by omega) ls (lv_sub hl [0, 1, 2, 3] rfl)
      · exact absurd (Int32.not_lt.mp (hs_le_in hk (by decide))) c_2
theorem in_X4_settle_X4 : ∀ w ∈ u_ws RX4 TX4 21, w ∈ wsX4_settle := by decide +kernel
set_option maxHeartbeats 4000000 in
set_option maxRecDepth 100000 in
/-- reference: r_settle -/
theorem r_settle (l : Launch) (D : va_G) (cy : Nat → ClassId) (bd : Nat → Nat) (ho : hm_ok bd) (x : HM) {k : Nat} (hk : k < 16) {u : Nat} (hu : u < 8) (hh : x.hd k = some u) (hlen : x.vs.length < 256) : Ct l yX4_settle wsX4_settle ({ frames := 0, cells := 0, slots := 0, locals := 0 }) D cy (hm_A bd) [.ref (bd 0), .int (nI k)] (hm_mem bd cy (x)) none (hm_mem bd cy (x.stl k u)) := by
  refine ct_of (cc := cX4_settle) (maxL := 3) (ret := none) rfl (by decide) (Nat.le_of_ble_eq_true rfl) ?_
  intro p e s m below meth c ls G hx hb hml hr hlocks hP hS hl
  have hD := hm_D ho cy (x)
  have hl : lv_has ls 3 [(0, .ref (bd 0)), (1, .int (nI k))] := hl
  refine lv_aload_n hx hb dX4_settle_0 rfl (lv_at hl 0 rfl) ?_
  refine hm_gf G in_X4_settle_X4 hP rfl 15 (by decide) (by decide +kernel) (.ref (bd 14)) rfl rfl dX4_settle_1 ?_
  refine lv_iload_n hx hb dX4_settle_4 rfl (lv_at hl 1 rfl) ?_
  refine hm_lI G hP 14 (hm_hd (x)) 16 rfl (k) (nI_clamp (by omega)) (hs_inN (by omega) (by decide)) (nI (u + 1)) (by show hm_ho (HM.hd (x) (k)) = _; rw [hh]; rfl) dX4_settle_5 ?_
  refine lv_iconst (v := 1) hx hb dX4_settle_6 (by decide) ?_
  refine lv_isub hx hb dX4_settle_7 ?_
  rw [show ((nI (u + 1) - 1)) = nI u from nI_pred u]
  refine lv_istore_n (lv' := [(2, .int (nI u)), (0, .ref (bd 0)), (1, .int (nI k))]) hx hb dX4_settle_8 rfl hl (by decide) rfl (fun ls hl => ?_)
  refine lv_aload_n hx hb dX4_settle_9 rfl (lv_at hl 1 rfl) ?_
  refine hm_gf G in_X4_settle_X4 hP rfl 2 (by decide) (by decide +kernel) (.ref (bd 3)) rfl rfl dX4_settle_10 ?_
  refine lv_iload_n hx hb dX4_settle_13 rfl (lv_at hl 0 rfl) ?_
  refine hm_lI G hP 3 (HM.ph (x)) 8 rfl (u) (nI_clamp (by omega)) (hs_inN (by omega) (by decide)) (HM.ph (x) (u)) rfl dX4_settle_14 ?_
  refine lv_iconst (v := 2) hx hb dX4_settle_15 (by decide) ?_
  refine lv_icmp_ne (tgt := 69) hx hb dX4_settle_16 (by decide) (fun c_1 => ?_) (fun c_1 => ?_)
  · refine lv_aload_n hx hb dX4_settle_69 rfl (lv_at hl 1 rfl) ?_
    refine hm_gf G in_X4_settle_X4 hP rfl 15 (by decide) (by decide +kernel) (.ref (bd 14)) rfl rfl dX4_settle_70 ?_
    refine lv_iload_n hx hb dX4_settle_73 rfl (lv_at hl 2 rfl) ?_
    refine lv_iconst (v := 0) hx hb dX4_settle_74 (by decide) ?_
    refine hm_sI G hP hD hS 14 (hm_hd (x)) 16 rfl (k) (nI_clamp (by omega)) (hs_inN (by omega) (by decide)) (hm_mem bd cy (HM.u_hd (x) (k) none)) hm_s_hdN dX4_settle_75 (fun H locs hP hD hS => ?_)
    exact ct_vret hx hb hr hlocks rfl (by rw [HM.stl, if_neg c_1]; exact hP) hS dX4_settle_76
  · refine lv_aload_n hx hb dX4_settle_19 rfl (lv_at hl 1 rfl) ?_
    refine hm_gf G in_X4_settle_X4 hP rfl 18 (by decide) (by decide +kernel) (.ref (bd 16)) rfl rfl dX4_settle_20 ?_
    refine lv_aload_n hx hb dX4_settle_23 rfl (lv_at hl 1 rfl) ?_
    refine hm_gf G in_X4_settle_X4 hP rfl 17 (by decide) (by decide +kernel) (.int (nI (HM.vs (x)).length)) rfl rfl dX4_settle_24 ?_
    refine lv_iload_n hx hb dX4_settle_27 rfl (lv_at hl 2 rfl) ?_
    refine hm_sI G hP hD hS 16 (hm_vk (x)) 256 rfl ((HM.vs (x)).length) (nI_clamp (by omega)) (hs_inN (by omega) (by decide)) _ rfl dX4_settle_28 (fun H locs hP hD hS => ?_)
    refine lv_aload_n hx hb dX4_settle_29 rfl (lv_at hl 1 rfl) ?_
    refine hm_gf G in_X4_settle_X4 hP rfl 19 (by decide) (by decide +kernel) (.ref (bd 17)) rfl rfl dX4_settle_30 ?_
    refine lv_aload_n hx hb dX4_settle_33 rfl (lv_at hl 1 rfl) ?_
    refine hm_gf G in_X4_settle_X4 hP rfl 17 (by decide) (by decide +kernel) (.int (nI (HM.vs (x)).length)) rfl rfl dX4_settle_34 ?_
    refine lv_aload_n hx hb dX4_settle_37 rfl (lv_at hl 1 rfl) ?_
    refine hm_gf G in_X4_settle_X4 hP rfl 7 (by decide) (by decide +kernel) (.ref (bd 8)) rfl rfl dX4_settle_38 ?_
    refine lv_iload_n hx hb dX4_settle_41 rfl (lv_at hl 0 rfl) ?_
    refine hm_lL G hP 8 (HM.ws (x)) 8 rfl (u) (nI_clamp (by omega)) (hs_inN (by omega) (by decide)) (HM.ws (x) (u)) rfl dX4_settle_42 ?_
    refine hm_sL G hP hD hS 17 (hm_va (x)) 256 rfl ((HM.vs (x)).length) (nI_clamp (by omega)) (hs_inN (by omega) (by decide)) _ rfl dX4_settle_43 (fun H locs hP hD hS => ?_)
    refine lv_aload_n hx hb dX4_settle_44 rfl (lv_at hl 1 rfl) ?_
    refine hm_gf G in_X4_settle_X4 hP rfl 20 (by decide) (by decide +kernel) (.ref (bd 18)) rfl rfl dX4_settle_45 ?_
    refine lv_aload_n hx hb dX4_settle_48 rfl (lv_at hl 1 rfl) ?_
    refine hm_gf G in_X4_settle_X4 hP rfl 17 (by decide) (by decide +kernel) (.int (nI (HM.vs (x)).length)) rfl rfl dX4_settle_49 ?_
    refine lv_aload_n hx hb dX4_settle_52 rfl (lv_at hl 1 rfl) ?_
    refine hm_gf G in_X4_settle_X4 hP rfl 16 (by decide) (by decide +kernel) (.ref (bd 15)) rfl rfl dX4_settle_53 ?_
    refine lv_iload_n hx hb dX4_settle_56 rfl (lv_at hl 2 rfl) ?_
    refine hm_lI G hP 15 (HM.pl (x)) 16 rfl (k) (nI_clamp (by omega)) (hs_inN (by omega) (by decide)) (HM.pl (x) (k)) rfl dX4_settle_57 ?_
    refine hm_sI G hP hD hS 18 (hm_vv (x)) 256 rfl ((HM.vs (x)).length) (nI_clamp (by omega)) (hs_inN (by omega) (by decide)) _ rfl dX4_settle_58 (fun H locs hP hD hS => ?_)
    refine lv_aload_n hx hb dX4_settle_59 rfl (lv_at hl 1 rfl) ?_
    refine lv_aload_n hx hb dX4_settle_60 rfl (lv_at hl 1 rfl) ?_
    refine hm_gf G in_X4_settle_X4 hP rfl 17 (by decide) (by decide +kernel) (.int (nI (HM.vs (x)).length)) rfl rfl dX4_settle_61 ?_
    refine lv_iconst (v := 1) hx hb dX4_settle_64 (by decide) ?_
    refine lv_iadd hx hb dX4_settle_65 ?_
    rw [show ((nI (HM.vs (x)).length + 1)) = nI ((HM.vs x).length + 1) from nI_1 _]
    refine hm_pf G in_X4_settle_X4 hP hD hS rfl 17 (by decide) (by decide +kernel) (.int (nI ((HM.vs x).length + 1))) rfl rfl (.int) (by decide +kernel) rfl rfl (Nat.le_of_ble_eq_true rfl) _ rfl dX4_settle_66 (fun H locs hP hD hS => ?_)
    have hP : va_P D vwCl (hm_mem bd cy (x.add k (x.ws u) (x.pl k))) H := by rw [← hm_addV k (x.ws u) (x.pl k)]; exact hP
    have hD := hm_D ho cy (x.add k (x.ws u) (x.pl k))
    refine lv_aload_n hx hb dX4_settle_69 rfl (lv_at hl 1 rfl) ?_
    refine hm_gf G in_X4_settle_X4 hP rfl 15 (by decide) (by decide +kernel) (.ref (bd 14)) rfl rfl dX4_settle_70 ?_
    refine lv_iload_n hx hb dX4_settle_73 rfl (lv_at hl 2 rfl) ?_
    refine lv_iconst (v := 0) hx hb dX4_settle_74 (by decide) ?_
    refine hm_sI G hP hD hS 14 (hm_hd (HM.add x k (HM.ws x u) (HM.pl x k))) 16 rfl (k) (nI_clamp (by omega)) (hs_inN (by omega) (by decide)) (hm_mem bd cy (HM.u_hd (HM.add x k (HM.ws x u) (HM.pl x k)) (k) none)) hm_s_hdN dX4_settle_75 (fun H locs hP hD hS => ?_)
    exact ct_vret hx hb hr hlocks rfl (by rw [HM.stl, if_pos c_1]; exact hP) hS dX4_settle_76
theorem in_X4_meet_X4 : ∀ w ∈ u_ws RX4 TX4 21, w ∈ wsX4_meet := by decide +kernel
set_option maxHeartbeats 4000000 in
set_option maxRecDepth 100000 in
/-- reference: r_meet -/
theorem r_meet (l : Launch) (D : va_G) (cy : Nat → ClassId) (bd : Nat → Nat) (ho : hm_ok bd) (x : HM) (B : Int) (hIn : x.In B) {k : Nat} (hk : k < 16) {t : Nat} (hne : ¬ x.hd k = some t) : Ct l yX4_meet wsX4_meet ({ frames := 1, cells := 0, slots := 0, locals := 27 }) D cy (hm_A bd) [.ref (bd 0), .int (nI k)] (hm_mem bd cy (x)) (some (.int (hs_ix (x.lkU t k)))) (hm_mem bd cy (x.look t k)) := by
  cases hh : x.hd k with
  | none =>
    refine ct_of (cc := cX4_meet) (maxL := 5) (ret := (some .int)) rfl (by decide) (Nat.le_of_ble_eq_true rfl) ?_
    intro p e s m below meth c ls G hx hb hml hr hlocks hP hS hl
    have hD := hm_D ho cy (x)
    have hl : lv_has ls 5 [(0, .ref (bd 0)), (1, .int (nI k))] := hl
    refine lv_aload_n hx hb dX4_meet_0 rfl (lv_at hl 0 rfl) ?_
    refine hm_gf G in_X4_meet_X4 hP rfl 15 (by decide) (by decide +kernel) (.ref (bd 14)) rfl rfl dX4_meet_1 ?_
    refine lv_iload_n hx hb dX4_meet_4 rfl (lv_at hl 1 rfl) ?_
    refine hm_lI G hP 14 (hm_hd (x)) 16 rfl (k) (nI_clamp (by omega)) (hs_inN (by omega) (by decide)) (0) (by show hm_ho (HM.hd (x) (k)) = _; rw [hh]; rfl) dX4_meet_5 ?_
    refine lv_iconst (v := 1) hx hb dX4_meet_6 (by decide) ?_
    refine lv_isub hx hb dX4_meet_7 ?_
    rw [show ((0 : Int32) - 1) = (-1) from (by decide)]
    refine lv_istore_n (lv' := [(2, .int ((-1))), (0, .ref (bd 0)), (1, .int (nI k))]) hx hb dX4_meet_8 rfl hl (by decide) rfl (fun ls hl => ?_)
    refine lv_iload_n hx hb dX4_meet_9 rfl (lv_at hl 0 rfl) ?_
    refine lv_if_ge (tgt := 15) hx hb dX4_meet_10 (by decide) (fun c_1 => ?_) (fun c_1 => ?_)
    · exact absurd c_1 (by decide)
    · refine lv_iconst (v := (-1)) hx hb dX4_meet_13 (by decide) ?_
      exact ct_iret hx hb hr hlocks (by rw [HM.lkU, hh]; rfl) (by rw [HM.look, hh]; exact hP) hS dX4_meet_14
  | some u =>
    have hu := hIn.hd hk u hh
    have hut : ¬ u = t := fun q => hne (by rw [hh, q])
    have hg := hIn.gt hu
    have hl16 := hIn.lt16 hk (by rw [hh]; rfl)
    have hlen := hIn.lenlt hk hl16
    refine ct_of (cc := cX4_meet) (maxL := 5) (ret := (some .int)) rfl (by decide) (Nat.le_of_ble_eq_true rfl) ?_
    intro p e s m below meth c ls G hx hb hml hr hlocks hP hS hl
    have hD := hm_D ho cy (x)
    have hl : lv_has ls 5 [(0, .ref (bd 0)), (1, .int (nI k))] := hl
    refine lv_aload_n hx hb dX4_meet_0 rfl (lv_at hl 0 rfl) ?_
    refine hm_gf G in_X4_meet_X4 hP rfl 15 (by decide) (by decide +kernel) (.ref (bd 14)) rfl rfl dX4_meet_1 ?_
    refine lv_iload_n hx hb dX4_meet_4 rfl (lv_at hl 1 rfl) ?_
    refine hm_lI G hP 14 (hm_hd (x)) 16 rfl (k) (nI_clamp (by omega)) (hs_inN (by omega) (by decide)) (nI (u + 1)) (by show hm_ho (HM.hd (x) (k)) = _; rw [hh]; rfl) dX4_meet_5 ?_
    refine lv_iconst (v := 1) hx hb dX4_meet_6 (by decide) ?_
    refine lv_isub hx hb dX4_meet_7 ?_
    rw [show ((nI (u + 1) - 1)) = nI u from nI_pred u]
    refine lv_istore_n (lv' := [(2, .int (nI u)), (0, .ref (bd 0)), (1, .int (nI k))]) hx hb dX4_meet_8 rfl hl (by decide) rfl (fun ls hl => ?_)
    refine lv_iload_n hx hb dX4_meet_9 rfl (lv_at hl 0 rfl) ?_
    refine lv_if_ge (tgt := 15) hx hb dX4_meet_10 (by decide) (fun c_1 => ?_) (fun c_1 => ?_)
    · refine lv_iload_n hx hb dX4_meet_15 rfl (lv_at hl 2 rfl) ?_
      refine lv_iconst (v := 3) hx hb dX4_meet_16 (by decide) ?_
      refine lv_iand hx hb dX4_meet_17 ?_
      rw [show ((nI k &&& 3)) = nI (k % 4) from hs_and3 hk]
      refine lv_istore_n (lv' := [(3, .int (nI (k % 4))), (2, .int (nI u)), (0, .ref (bd 0)), (1, .int (nI k))]) hx hb dX4_meet_18 rfl hl (by decide) rfl (fun ls hl => ?_)
      refine lv_aload_n hx hb dX4_meet_19 rfl (lv_at hl 2 rfl) ?_
      refine hm_gf G in_X4_meet_X4 hP rfl 3 (by decide) (by decide +kernel) (.ref (bd 4)) rfl rfl dX4_meet_20 ?_
      refine lv_iload_n hx hb dX4_meet_23 rfl (lv_at hl 1 rfl) ?_
      refine hm_lI G hP 4 (hm_gt (x)) 8 rfl (u) (nI_clamp (by omega)) (hs_inN (by omega) (by decide)) (nI (HM.gt (x) (u))) rfl dX4_meet_24 ?_
      refine lv_istore (lv' := [(4, .int (nI (HM.gt (x) (u)))), (3, .int (nI (k % 4))), (2, .int (nI u)), (0, .ref (bd 0)), (1, .int (nI k))]) hx hb dX4_meet_25 hl (by decide) rfl (fun ls hl => ?_)
      refine lv_aload_n hx hb dX4_meet_27 rfl (lv_at hl 3 rfl) ?_
      refine lv_iload hx hb dX4_meet_28 (lv_at hl 0 rfl) ?_
      refine lv_aload_n hx hb dX4_meet_30 rfl (lv_at hl 3 rfl) ?_
      refine hm_gf G in_X4_meet_X4 hP rfl 1 (by decide) (by decide +kernel) (.ref (bd 2)) rfl rfl dX4_meet_31 ?_
      refine lv_iload_n hx hb dX4_meet_34 rfl (lv_at hl 1 rfl) ?_
      refine hm_lL G hP 2 (HM.ck (x)) 4 rfl (k % 4) (nI_clamp (by omega)) (hs_inN (by omega) (by decide)) (HM.ck (x) (k % 4)) rfl dX4_meet_35 ?_
      refine hs_callV (n := 2) (As := [.int (nI (HM.gt (x) (u))), .long (HM.ck (x) (k % 4))]) (rest := []) G hml (r_receive l D cy bd ho (x) (show HM.gt (x) (u) < 4 by first | omega | exact hi) (HM.ck (x) (k % 4))) gX4_meet_X4_receive rfl rfl rfl (by decide +kernel) ⟨Nat.le_of_ble_eq_true rfl, Nat.le_of_ble_eq_true rfl⟩ (q0 := 0) (ci := 4) (fs := hm_objL bd (x)) rfl rfl rfl rfl hl.1 (Nat.le_of_ble_eq_true rfl) ⟨Nat.zero_le _, Nat.zero_le _⟩ hP hS (fun _ h => h) rfl dX4_meet_36 (fun H locs hP hS _ _ => ?_)
      have hD := hm_D ho cy (HM.tk (x) (HM.gt (x) (u)) (HM.ck (x) (k % 4)))
      refine lv_aload_n hx hb dX4_meet_39 rfl (lv_at hl 3 rfl) ?_
      refine lv_iload_n hx hb dX4_meet_40 rfl (lv_at hl 1 rfl) ?_
      refine lv_aload_n hx hb dX4_meet_41 rfl (lv_at hl 3 rfl) ?_
      refine hm_gf G in_X4_meet_X4 hP rfl 1 (by decide) (by decide +kernel) (.ref (bd 2)) rfl rfl dX4_meet_42 ?_
      refine lv_iload hx hb dX4_meet_45 (lv_at hl 0 rfl) ?_
      refine hm_lL G hP 2 (HM.ck (HM.tk (x) (HM.gt (x) (u)) (HM.ck (x) (k % 4)))) 4 rfl (HM.gt (x) (u)) (nI_clamp (by omega)) (hs_inN (by omega) (by decide)) (HM.ck (HM.tk (x) (HM.gt (x) (u)) (HM.ck (x) (k % 4))) (HM.gt (x) (u))) rfl dX4_meet_47 ?_
      refine hs_callV (n := 2) (As := [.int (nI (k % 4)), .long (HM.ck (HM.tk (x) (HM.gt (x) (u)) (HM.ck (x) (k % 4))) (HM.gt (x) (u)))]) (rest := []) G hml (r_receive l D cy bd ho (HM.tk (x) (HM.gt (x) (u)) (HM.ck (x) (k % 4))) (show k % 4 < 4 by first | omega | exact hi) (HM.ck (HM.tk (x) (HM.gt (x) (u)) (HM.ck (x) (k % 4))) (HM.gt (x) (u)))) gX4_meet_X4_receive rfl rfl rfl (by decide +kernel) ⟨Nat.le_of_ble_eq_true rfl, Nat.le_of_ble_eq_true rfl⟩ (q0 := 0) (ci := 4) (fs := hm_objL bd (HM.tk (x) (HM.gt (x) (u)) (HM.ck (x) (k % 4)))) rfl rfl rfl rfl hl.1 (Nat.le_of_ble_eq_true rfl) ⟨Nat.zero_le _, Nat.zero_le _⟩ hP hS (fun _ h => h) rfl dX4_meet_48 (fun H locs hP hS _ _ => ?_)
      have hD := hm_D ho cy (HM.tk (HM.tk (x) (HM.gt (x) (u)) (HM.ck (x) (k % 4))) (k % 4) (HM.ck (HM.tk (x) (HM.gt (x) (u)) (HM.ck (x) (k % 4))) (HM.gt (x) (u))))
      have hP : va_P D vwCl (hm_mem bd cy (x.lk2 k u)) H := hP
      have hD := hm_D ho cy (x.lk2 k u)
      refine lv_aload_n hx hb dX4_meet_51 rfl (lv_at hl 3 rfl) ?_
      refine hm_gf G in_X4_meet_X4 hP rfl 2 (by decide) (by decide +kernel) (.ref (bd 3)) rfl rfl dX4_meet_52 ?_
      refine lv_iload_n hx hb dX4_meet_55 rfl (lv_at hl 2 rfl) ?_
      refine hm_lI G hP 3 (HM.ph (HM.lk2 x k u)) 8 rfl (u) (nI_clamp (by omega)) (hs_inN (by omega) (by decide)) (HM.ph (HM.lk2 x k u) (u)) rfl dX4_meet_56 ?_
      refine lv_iconst (v := 1) hx hb dX4_meet_57 (by decide) ?_
      refine lv_icmp_ne (tgt := 87) hx hb dX4_meet_58 (by decide) (fun c_2 => ?_) (fun c_2 => ?_)
      · have hP : va_P D vwCl (hm_mem bd cy (x.lk3 k u)) H := by rw [HM.lk3, HM.sil, if_neg (fun q => c_2 q.1)]; exact hP
        have hD := hm_D ho cy (x.lk3 k u)
        refine lv_aload_n hx hb dX4_meet_87 rfl (lv_at hl 3 rfl) ?_
        refine hm_gf G in_X4_meet_X4 hP rfl 2 (by decide) (by decide +kernel) (.ref (bd 3)) rfl rfl dX4_meet_88 ?_
        refine lv_iload_n hx hb dX4_meet_91 rfl (lv_at hl 2 rfl) ?_
        refine hm_lI G hP 3 (HM.ph (HM.lk3 x k u)) 8 rfl (u) (nI_clamp (by omega)) (hs_inN (by omega) (by decide)) (HM.ph (HM.lk3 x k u) (u)) rfl dX4_meet_92 ?_
        refine lv_iconst (v := 1) hx hb dX4_meet_93 (by decide) ?_
        refine lv_icmp_ne (tgt := 99) hx hb dX4_meet_94 (by decide) (fun c_3 => ?_) (fun c_3 => ?_)
        · refine lv_aload_n hx hb dX4_meet_99 rfl (lv_at hl 3 rfl) ?_
          refine lv_iload_n hx hb dX4_meet_100 rfl (lv_at hl 4 rfl) ?_
          refine hs_callV (n := 1) (As := [.int (nI k)]) (rest := []) G hml (r_settle l D cy bd ho (HM.lk3 x k u) (hk) (hu) (by rw [hs_lk3_hd]; exact hh) (by rw [hs_lk3_vs]; exact hlen)) gX4_meet_X4_settle rfl rfl rfl (by decide +kernel) ⟨Nat.le_of_ble_eq_true rfl, Nat.le_of_ble_eq_true rfl⟩ (q0 := 0) (ci := 4) (fs := hm_objL bd (HM.lk3 x k u)) rfl rfl rfl rfl hl.1 (Nat.le_of_ble_eq_true rfl) ⟨Nat.zero_le _, Nat.zero_le _⟩ hP hS (fun _ h => h) rfl dX4_meet_101 (fun H locs hP hS _ _ => ?_)
          have hD := hm_D ho cy (HM.stl (HM.lk3 x k u) (k) (u))
          refine lv_iconst (v := (-1)) hx hb dX4_meet_104 (by decide) ?_
          exact ct_iret hx hb hr hlocks (by rw [HM.lkU, hh]; dsimp only; rw [if_neg hut, if_neg c_3]; rfl) (by rw [HM.look, hh]; dsimp only; rw [if_neg hut, HM.lk, if_neg c_3]; exact hP) hS dX4_meet_105
        · refine lv_iload_n hx hb dX4_meet_97 rfl (lv_at hl 2 rfl) ?_
          exact ct_iret hx hb hr hlocks (by rw [HM.lkU, hh]; dsimp only; rw [if_neg hut, if_pos c_3]; rfl) (by rw [HM.look, hh]; dsimp only; rw [if_neg hut, HM.lk, if_pos c_3]; exact hP) hS dX4_meet_98
      · refine lv_aload_n hx hb dX4_meet_61 rfl (lv_at hl 3 rfl) ?_
        refine hm_gf G in_X4_meet_X4 hP rfl 0 (by decide) (by decide +kernel) (.ref (bd 1)) rfl rfl dX4_meet_62 ?_
        refine lv_iload hx hb dX4_meet_65 (lv_at hl 0 rfl) ?_
        refine hm_lI G hP 1 (HM.rd (HM.lk2 x k u)) 4 rfl (HM.gt (x) (u)) (nI_clamp (by omega)) (hs_inN (by omega) (by decide)) (HM.rd (HM.lk2 x k u) (HM.gt (x) (u))) rfl dX4_meet_67 ?_
        refine lv_aload_n hx hb dX4_meet_68 rfl (lv_at hl 3 rfl) ?_
        refine hm_gf G in_X4_meet_X4 hP rfl 4 (by decide) (by decide +kernel) (.ref (bd 5)) rfl rfl dX4_meet_69 ?_
        refine lv_iload_n hx hb dX4_meet_72 rfl (lv_at hl 2 rfl) ?_
        refine hm_lI G hP 5 (HM.bt (HM.lk2 x k u)) 8 rfl (u) (nI_clamp (by omega)) (hs_inN (by omega) (by decide)) (HM.bt (HM.lk2 x k u) (u)) rfl dX4_meet_73 ?_
        refine lv_isub hx hb dX4_meet_74 ?_
        refine lv_bipush (v := 40) hx hb dX4_meet_75 (by decide) ?_
        refine lv_icmp_le (tgt := 87) hx hb dX4_meet_77 (by decide) (fun c_4 => ?_) (fun c_4 => ?_)
        · have hP : va_P D vwCl (hm_mem bd cy (x.lk3 k u)) H := by rw [HM.lk3, HM.sil, if_neg (fun q => Int32.not_le.mpr q.2 c_4)]; exact hP
          have hD := hm_D ho cy (x.lk3 k u)
          refine lv_aload_n hx hb dX4_meet_87 rfl (lv_at hl 3 rfl) ?_
          refine hm_gf G in_X4_meet_X4 hP rfl 2 (by decide) (by decide +kernel) (.ref (bd 3)) rfl rfl dX4_meet_88 ?_
          refine lv_iload_n hx hb dX4_meet_91 rfl (lv_at hl 2 rfl) ?_
          refine hm_lI G hP 3 (HM.ph (HM.lk3 x k u)) 8 rfl (u) (nI_clamp (by omega)) (hs_inN (by omega) (by decide)) (HM.ph (HM.lk3 x k u) (u)) rfl dX4_meet_92 ?_
          refine lv_iconst (v := 1) hx hb dX4_meet_93 (by decide) ?_
          refine lv_icmp_ne (tgt := 99) hx hb dX4_meet_94 (by decide) (fun c_5 => ?_) (fun c_5 => ?_)
          · refine lv_aload_n hx hb dX4_meet_99 rfl (lv_at hl 3 rfl) ?_
            refine lv_iload_n hx hb dX4_meet_100 rfl (lv_at hl 4 rfl) ?_
            refine hs_callV (n := 1) (As := [.int (nI k)]) (rest := []) G hml (r_settle l D cy bd ho (HM.lk3 x k u) (hk) (hu) (by rw [hs_lk3_hd]; exact hh) (by rw [hs_lk3_vs]; exact hlen)) gX4_meet_X4_settle rfl rfl rfl (by decide +kernel) ⟨Nat.le_of_ble_eq_true rfl, Nat.le_of_ble_eq_true rfl⟩ (q0 := 0) (ci := 4) (fs := hm_objL bd (HM.lk3 x k u)) rfl rfl rfl rfl hl.1 (Nat.le_of_ble_eq_true rfl) ⟨Nat.zero_le _, Nat.zero_le _⟩ hP hS (fun _ h => h) rfl dX4_meet_101 (fun H locs hP hS _ _ => ?_)
            have hD := hm_D ho cy (HM.stl (HM.lk3 x k u) (k) (u))
            refine lv_iconst (v := (-1)) hx hb dX4_meet_104 (by decide) ?_
            exact ct_iret hx hb hr hlocks (by rw [HM.lkU, hh]; dsimp only; rw [if_neg hut, if_neg c_5]; rfl) (by rw [HM.look, hh]; dsimp only; rw [if_neg hut, HM.lk, if_neg c_5]; exact hP) hS dX4_meet_105
          · refine lv_iload_n hx hb dX4_meet_97 rfl (lv_at hl 2 rfl) ?_
            exact ct_iret hx hb hr hlocks (by rw [HM.lkU, hh]; dsimp only; rw [if_neg hut, if_pos c_5]; rfl) (by rw [HM.look, hh]; dsimp only; rw [if_neg hut, HM.lk, if_pos c_5]; exact hP) hS dX4_meet_98
        · refine lv_aload_n hx hb dX4_meet_80 rfl (lv_at hl 3 rfl) ?_
          refine hm_gf G in_X4_meet_X4 hP rfl 2 (by decide) (by decide +kernel) (.ref (bd 3)) rfl rfl dX4_meet_81 ?_
          refine lv_iload_n hx hb dX4_meet_84 rfl (lv_at hl 2 rfl) ?_
          refine lv_iconst (v := 3) hx hb dX4_meet_85 (by decide) ?_
          refine hm_sI G hP hD hS 3 (HM.ph (HM.lk2 x k u)) 8 rfl (u) (nI_clamp (by omega)) (hs_inN (by omega) (by decide)) (hm_mem bd cy (HM.u_ph (HM.lk2 x k u) (u) (3))) hm_s_ph dX4_meet_86 (fun H locs hP hD hS => ?_)
          have hP : va_P D vwCl (hm_mem bd cy (x.lk3 k u)) H := by rw [HM.lk3, HM.sil, if_pos ⟨c_2, Int32.not_le.mp c_4⟩]; exact hP
          have hD := hm_D ho cy (x.lk3 k u)
          refine lv_aload_n hx hb dX4_meet_87 rfl (lv_at hl 3 rfl) ?_
          refine hm_gf G in_X4_meet_X4 hP rfl 2 (by decide) (by decide +kernel) (.ref (bd 3)) rfl rfl dX4_meet_88 ?_
          refine lv_iload_n hx hb dX4_meet_91 rfl (lv_at hl 2 rfl) ?_
          refine hm_lI G hP 3 (HM.ph (HM.lk3 x k u)) 8 rfl (u) (nI_clamp (by omega)) (hs_inN (by omega) (by decide)) (HM.ph (HM.lk3 x k u) (u)) rfl dX4_meet_92 ?_
          refine lv_iconst (v := 1) hx hb dX4_meet_93 (by decide) ?_
          refine lv_icmp_ne (tgt := 99) hx hb dX4_meet_94 (by decide) (fun c_6 => ?_) (fun c_6 => ?_)
          · refine lv_aload_n hx hb dX4_meet_99 rfl (lv_at hl 3 rfl) ?_
            refine lv_iload_n hx hb dX4_meet_100 rfl (lv_at hl 4 rfl) ?_
            refine hs_callV (n := 1) (As := [.int (nI k)]) (rest := []) G hml (r_settle l D cy bd ho (HM.lk3 x k u) (hk) (hu) (by rw [hs_lk3_hd]; exact hh) (by rw [hs_lk3_vs]; exact hlen)) gX4_meet_X4_settle rfl rfl rfl (by decide +kernel) ⟨Nat.le_of_ble_eq_true rfl, Nat.le_of_ble_eq_true rfl⟩ (q0 := 0) (ci := 4) (fs := hm_objL bd (HM.lk3 x k u)) rfl rfl rfl rfl hl.1 (Nat.le_of_ble_eq_true rfl) ⟨Nat.zero_le _, Nat.zero_le _⟩ hP hS (fun _ h => h) rfl dX4_meet_101 (fun H locs hP hS _ _ => ?_)
            have hD := hm_D ho cy (HM.stl (HM.lk3 x k u) (k) (u))
            refine lv_iconst (v := (-1)) hx hb dX4_meet_104 (by decide) ?_
            exact ct_iret hx hb hr hlocks (by rw [HM.lkU, hh]; dsimp only; rw [if_neg hut, if_neg c_6]; rfl) (by rw [HM.look, hh]; dsimp only; rw [if_neg hut, HM.lk, if_neg c_6]; exact hP) hS dX4_meet_105
          · refine lv_iload_n hx hb dX4_meet_97 rfl (lv_at hl 2 rfl) ?_
            exact ct_iret hx hb hr hlocks (by rw [HM.lkU, hh]; dsimp only; rw [if_neg hut, if_pos c_6]; rfl) (by rw [HM.look, hh]; dsimp only; rw [if_neg hut, HM.lk, if_pos c_6]; exact hP) hS dX4_meet_98
    · exact absurd (nI_pos' (by omega)) c_1
end
section
theorem in_X4_restart_X4 : ∀ w ∈ u_ws RX4 TX4 21, w ∈ wsX4_restart := by decide +kernel
set_option maxHeartbeats 4000000 in
set_option maxRecDepth 100000 in
/-- reference: r_restart -/
theorem r_restart (l : Launch) (D : va_G) (cy : Nat → ClassId) (bd : Nat → Nat) (ho : hm_ok bd) (x : HM) (hhd : ∀ k, k < 16 → ∀ u, x.hd k = some u → u < 8) {t : Nat} (ht : t < 8) (a : Int64) : Ct l yX4_restart wsX4_restart ({ frames := 0, cells := 0, slots := 0, locals := 0 }) D cy (hm_A bd) [.ref (bd 0), .int (nI t), .long (a)] (hm_mem bd cy (x)) none (hm_mem bd cy (x.re t a)) := by
  refine ct_of (cc := cX4_restart) (maxL := 5) (ret := none) rfl (by decide) (Nat.le_of_ble_eq_true rfl) ?_
  intro p e s m below meth c ls G hx hb hml hr hlocks hP hS hl
  have hD := hm_D ho cy (x)
  have hl : lv_has ls 5 [(0, .ref (bd 0)), (1, .int (nI t)), (2, .long (a))] := hl
  have loop : ∀ (n i : Nat), i + n = 16 → ∀ (H : Heap) (locs : List Loc), va_P D vwCl (hm_mem bd cy (x.cs t i)) H → va_S (hm_A bd) s.heap H locs → ∀ ls : Array Slot, lv_has ls 5 [(4, .int (nI i)), (0, .ref (bd 0)), (1, .int (nI t)), (2, .long (a))] → W p l e ({ frames := 0, cells := 0, slots := 0, locals := 0 }) s m [.ref (bd 0), .int (nI t), .long a].toArray below meth c H locs 0 0 (MQ below (hs_Post D none (hm_mem bd cy (x.re t a)) (hm_A bd)) [.ref (bd 0), .int (nI t), .long a].toArray s 0 0 (hm_A bd)) (F0 m 3 ls []) := by
    intro n
    induction n with
    | zero =>
      intro i hi H locs hP hS ls hl
      have hi16 : i = 16 := by omega
      subst hi16
      rw [hm_cs16] at hP
      generalize hz : x.clr t 16 = z at hP
      have hre : x.re t a = z.mv t a := by rw [← hz]; rfl
      rw [hre]
      have hD := hm_D ho cy (z.mv1 t)
      refine lv_iload hx hb dX4_restart_3 (lv_at hl 0 rfl) ?_
      refine lv_bipush (v := 16) hx hb dX4_restart_5 (by decide) ?_
      refine lv_icmp_ge (tgt := 50) hx hb dX4_restart_7 (by decide) (fun c_1 => ?_) (fun c_1 => ?_)
      · refine lv_lload_n hx hb dX4_restart_50 rfl (lv_at hl 3 rfl) ?_
        refine lv_aload_n hx hb dX4_restart_51 rfl (lv_at hl 1 rfl) ?_
        refine hm_gf G in_X4_restart_X4 hP rfl 7 (by decide) (by decide +kernel) (.ref (bd 8)) rfl rfl dX4_restart_52 ?_
        refine lv_iload_n hx hb dX4_restart_55 rfl (lv_at hl 2 rfl) ?_
        refine hm_lL G hP 8 (HM.ws (HM.mv1 z t)) 8 rfl (t) (nI_clamp (by omega)) (hs_inN (by omega) (by decide)) (HM.ws (HM.mv1 z t) (t)) rfl dX4_restart_56 ?_
        refine hs_lle (x := a) (y := HM.ws (HM.mv1 z t) (t)) (tgt := 68) hx hb dX4_restart_57 dX4_restart_58 (by decide) (fun c_2 => ?_) (fun c_2 => ?_)
        · have hP : va_P D vwCl (hm_mem bd cy (z.mv2 t a)) H := by rw [← hs_mv2_neg z (a := a) c_2]; exact hP
          have hD := hm_D ho cy (z.mv2 t a)
          refine lv_aload_n hx hb dX4_restart_68 rfl (lv_at hl 1 rfl) ?_
          refine hm_gf G in_X4_restart_X4 hP rfl 6 (by decide) (by decide +kernel) (.ref (bd 7)) rfl rfl dX4_restart_69 ?_
          refine lv_iload_n hx hb dX4_restart_72 rfl (lv_at hl 2 rfl) ?_
          refine lv_aload_n hx hb dX4_restart_73 rfl (lv_at hl 1 rfl) ?_
          refine hm_gf G in_X4_restart_X4 hP rfl 7 (by decide) (by decide +kernel) (.ref (bd 8)) rfl rfl dX4_restart_74 ?_
          refine lv_iload_n hx hb dX4_restart_77 rfl (lv_at hl 2 rfl) ?_
          refine hm_lL G hP 8 (HM.ws (HM.mv2 z t a)) 8 rfl (t) (nI_clamp (by omega)) (hs_inN (by omega) (by decide)) (HM.ws (HM.mv2 z t a) (t)) rfl dX4_restart_78 ?_
          refine hm_sL G hP hD hS 7 (HM.rs (HM.mv2 z t a)) 8 rfl (t) (nI_clamp (by omega)) (hs_inN (by omega) (by decide)) (hm_mem bd cy (HM.u_rs (HM.mv2 z t a) (t) (HM.ws (HM.mv2 z t a) (t)))) hm_s_rs dX4_restart_79 (fun H locs hP hD hS => ?_)
          have hP : va_P D vwCl (hm_mem bd cy (z.mv3 t a)) H := hP
          have hD := hm_D ho cy (z.mv3 t a)
          refine lv_aload_n hx hb dX4_restart_80 rfl (lv_at hl 1 rfl) ?_
          refine hm_gf G in_X4_restart_X4 hP rfl 8 (by decide) (by decide +kernel) (.ref (bd 9)) rfl rfl dX4_restart_81 ?_
          refine lv_iload_n hx hb dX4_restart_84 rfl (lv_at hl 2 rfl) ?_
          refine hm_lL G hP 9 (HM.lm (HM.mv3 z t a)) 8 rfl (t) (nI_clamp (by omega)) (hs_inN (by omega) (by decide)) (HM.lm (HM.mv3 z t a) (t)) rfl dX4_restart_85 ?_
          refine lv_aload_n hx hb dX4_restart_86 rfl (lv_at hl 1 rfl) ?_
          refine hm_gf G in_X4_restart_X4 hP rfl 6 (by decide) (by decide +kernel) (.ref (bd 7)) rfl rfl dX4_restart_87 ?_
          refine lv_iload_n hx hb dX4_restart_90 rfl (lv_at hl 2 rfl) ?_
          refine hm_lL G hP 7 (HM.rs (HM.mv3 z t a)) 8 rfl (t) (nI_clamp (by omega)) (hs_inN (by omega) (by decide)) (HM.rs (HM.mv3 z t a) (t)) rfl dX4_restart_91 ?_
          refine hs_lge (x := HM.lm (HM.mv3 z t a) (t)) (y := HM.rs (HM.mv3 z t a) (t)) (tgt := 108) hx hb dX4_restart_92 dX4_restart_93 (by decide) (fun c_3 => ?_) (fun c_3 => ?_)
          · exact ct_vret hx hb hr hlocks rfl (by rw [← hs_mv_neg z c_3]; exact hP) hS dX4_restart_108
          · refine lv_aload_n hx hb dX4_restart_96 rfl (lv_at hl 1 rfl) ?_
            refine hm_gf G in_X4_restart_X4 hP rfl 8 (by decide) (by decide +kernel) (.ref (bd 9)) rfl rfl dX4_restart_97 ?_
            refine lv_iload_n hx hb dX4_restart_100 rfl (lv_at hl 2 rfl) ?_
            refine lv_aload_n hx hb dX4_restart_101 rfl (lv_at hl 1 rfl) ?_
            refine hm_gf G in_X4_restart_X4 hP rfl 6 (by decide) (by decide +kernel) (.ref (bd 7)) rfl rfl dX4_restart_102 ?_
            refine lv_iload_n hx hb dX4_restart_105 rfl (lv_at hl 2 rfl) ?_
            refine hm_lL G hP 7 (HM.rs (HM.mv3 z t a)) 8 rfl (t) (nI_clamp (by omega)) (hs_inN (by omega) (by decide)) (HM.rs (HM.mv3 z t a) (t)) rfl dX4_restart_106 ?_
            refine hm_sL G hP hD hS 9 (HM.lm (HM.mv3 z t a)) 8 rfl (t) (nI_clamp (by omega)) (hs_inN (by omega) (by decide)) (hm_mem bd cy (HM.u_lm (HM.mv3 z t a) (t) (HM.rs (HM.mv3 z t a) (t)))) hm_s_lm dX4_restart_107 (fun H locs hP hD hS => ?_)
            exact ct_vret hx hb hr hlocks rfl (by rw [← hs_mv_pos z c_3]; exact hP) hS dX4_restart_108
        · refine lv_aload_n hx hb dX4_restart_61 rfl (lv_at hl 1 rfl) ?_
          refine hm_gf G in_X4_restart_X4 hP rfl 7 (by decide) (by decide +kernel) (.ref (bd 8)) rfl rfl dX4_restart_62 ?_
          refine lv_iload_n hx hb dX4_restart_65 rfl (lv_at hl 2 rfl) ?_
          refine lv_lload_n hx hb dX4_restart_66 rfl (lv_at hl 3 rfl) ?_
          refine hm_sL G hP hD hS 8 (HM.ws (HM.mv1 z t)) 8 rfl (t) (nI_clamp (by omega)) (hs_inN (by omega) (by decide)) (hm_mem bd cy (HM.u_ws (HM.mv1 z t) (t) (a))) hm_s_ws dX4_restart_67 (fun H locs hP hD hS => ?_)
          have hP : va_P D vwCl (hm_mem bd cy (z.mv2 t a)) H := by rw [← hs_mv2_pos z c_2]; exact hP
          have hD := hm_D ho cy (z.mv2 t a)
          refine lv_aload_n hx hb dX4_restart_68 rfl (lv_at hl 1 rfl) ?_
          refine hm_gf G in_X4_restart_X4 hP rfl 6 (by decide) (by decide +kernel) (.ref (bd 7)) rfl rfl dX4_restart_69 ?_
          refine lv_iload_n hx hb dX4_restart_72 rfl (lv_at hl 2 rfl) ?_
          refine lv_aload_n hx hb dX4_restart_73 rfl (lv_at hl 1 rfl) ?_
          refine hm_gf G in_X4_restart_X4 hP rfl 7 (by decide) (by decide +kernel) (.ref (bd 8)) rfl rfl dX4_restart_74 ?_
          refine lv_iload_n hx hb dX4_restart_77 rfl (lv_at hl 2 rfl) ?_
          refine hm_lL G hP 8 (HM.ws (HM.mv2 z t a)) 8 rfl (t) (nI_clamp (by omega)) (hs_inN (by omega) (by decide)) (HM.ws (HM.mv2 z t a) (t)) rfl dX4_restart_78 ?_
          refine hm_sL G hP hD hS 7 (HM.rs (HM.mv2 z t a)) 8 rfl (t) (nI_clamp (by omega)) (hs_inN (by omega) (by decide)) (hm_mem bd cy (HM.u_rs (HM.mv2 z t a) (t) (HM.ws (HM.mv2 z t a) (t)))) hm_s_rs dX4_restart_79 (fun H locs hP hD hS => ?_)
          have hP : va_P D vwCl (hm_mem bd cy (z.mv3 t a)) H := hP
          have hD := hm_D ho cy (z.mv3 t a)
          refine lv_aload_n hx hb dX4_restart_80 rfl (lv_at hl 1 rfl) ?_
          refine hm_gf G in_X4_restart_X4 hP rfl 8 (by decide) (by decide +kernel) (.ref (bd 9)) rfl rfl dX4_restart_81 ?_
          refine lv_iload_n hx hb dX4_restart_84 rfl (lv_at hl 2 rfl) ?_
          refine hm_lL G hP 9 (HM.lm (HM.mv3 z t a)) 8 rfl (t) (nI_clamp (by omega)) (hs_inN (by omega) (by decide)) (HM.lm (HM.mv3 z t a) (t)) rfl dX4_restart_85 ?_
          refine lv_aload_n hx hb dX4_restart_86 rfl (lv_at hl 1 rfl) ?_
          refine hm_gf G in_X4_restart_X4 hP rfl 6 (by decide) (by decide +kernel) (.ref (bd 7)) rfl rfl dX4_restart_87 ?_
          refine lv_iload_n hx hb dX4_restart_90 rfl (lv_at hl 2 rfl) ?_
          refine hm_lL G hP 7 (HM.rs (HM.mv3 z t a)) 8 rfl (t) (nI_clamp (by omega)) (hs_inN (by omega) (by decide)) (HM.rs (HM.mv3 z t a) (t)) rfl dX4_restart_91 ?_
          refine hs_lge (x := HM.lm (HM.mv3 z t a) (t)) (y := HM.rs (HM.mv3 z t a) (t)) (tgt := 108) hx hb dX4_restart_92 dX4_restart_93 (by decide) (fun c_4 => ?_) (fun c_4 => ?_)
          · exact ct_vret hx hb hr hlocks rfl (by rw [← hs_mv_neg z c_4]; exact hP) hS dX4_restart_108
          · refine lv_aload_n hx hb dX4_restart_96 rfl (lv_at hl 1 rfl) ?_
            refine hm_gf G in_X4_restart_X4 hP rfl 8 (by decide) (by decide +kernel) (.ref (bd 9)) rfl rfl dX4_restart_97 ?_
            refine lv_iload_n hx hb dX4_restart_100 rfl (lv_at hl 2 rfl) ?_
            refine lv_aload_n hx hb dX4_restart_101 rfl (lv_at hl 1 rfl) ?_
            refine hm_gf G in_X4_restart_X4 hP rfl 6 (by decide) (by decide +kernel) (.ref (bd 7)) rfl rfl dX4_restart_102 ?_
            refine lv_iload_n hx hb dX4_restart_105 rfl (lv_at hl 2 rfl) ?_
            refine hm_lL G hP 7 (HM.rs (HM.mv3 z t a)) 8 rfl (t) (nI_clamp (by omega)) (hs_inN (by omega) (by decide)) (HM.rs (HM.mv3 z t a) (t)) rfl dX4_restart_106 ?_
            refine hm_sL G hP hD hS 9 (HM.lm (HM.mv3 z t a)) 8 rfl (t) (nI_clamp (by omega)) (hs_inN (by omega) (by decide)) (hm_mem bd cy (HM.u_lm (HM.mv3 z t a) (t) (HM.rs (HM.mv3 z t a) (t)))) hm_s_lm dX4_restart_107 (fun H locs hP hD hS => ?_)
            exact ct_vret hx hb hr hlocks rfl (by rw [← hs_mv_pos z c_4]; exact hP) hS dX4_restart_108
      · exact absurd (show (16 : Int32) ≤ nI 16 by decide) c_1
    | succ n ih =>
      intro i hi H locs hP hS ls hl
      have hD := hm_D ho cy (x.cs t i)
      have hi16 : i < 16 := by omega
      refine lv_iload hx hb dX4_restart_3 (lv_at hl 0 rfl) ?_
      refine lv_bipush (v := 16) hx hb dX4_restart_5 (by decide) ?_
      refine lv_icmp_ge (tgt := 50) hx hb dX4_restart_7 (by decide) (fun c_1 => ?_) (fun c_1 => ?_)
      · exact absurd c_1 (nI_ge (b := 16) (by omega) (by decide))
      · refine lv_aload_n hx hb dX4_restart_10 rfl (lv_at hl 1 rfl) ?_
        refine hm_gf G in_X4_restart_X4 hP rfl 15 (by decide) (by decide +kernel) (.ref (bd 14)) rfl rfl dX4_restart_11 ?_
        refine lv_iload hx hb dX4_restart_14 (lv_at hl 0 rfl) ?_
        refine hm_lI G hP 14 (hm_hd (HM.cs x t i)) 16 rfl (i) (nI_clamp (by omega)) (hs_inN (by omega) (by decide)) (hm_ho (HM.hd (HM.cs x t i) (i))) rfl dX4_restart_16 ?_
        refine lv_iload_n hx hb dX4_restart_17 rfl (lv_at hl 2 rfl) ?_
        refine lv_iconst (v := 1) hx hb dX4_restart_18 (by decide) ?_
        refine lv_iadd hx hb dX4_restart_19 ?_
        rw [show ((nI t + 1)) = nI (t + 1) from nI_1 t]
        refine lv_icmp_ne (tgt := 31) hx hb dX4_restart_20 (by decide) (fun c_2 => ?_) (fun c_2 => ?_)
        · have hq : (x.cs t i).hd i = x.hd i := by rw [hs_cs_hd, hs_clr_self]
          have he : ¬ x.hd i = some t := fun q => c_2 (by rw [hq]; exact (hm_ho_eq ht (hhd i hi16)).mpr q)
          refine lv_aload_n hx hb dX4_restart_31 rfl (lv_at hl 1 rfl) ?_
          refine hm_gf G in_X4_restart_X4 hP rfl 10 (by decide) (by decide +kernel) (.ref (bd 11)) rfl rfl dX4_restart_32 ?_
          refine lv_iload_n hx hb dX4_restart_35 rfl (lv_at hl 2 rfl) ?_
          refine lv_bipush (v := 16) hx hb dX4_restart_36 (by decide) ?_
          refine lv_imul hx hb dX4_restart_38 ?_
          refine lv_iload hx hb dX4_restart_39 (lv_at hl 0 rfl) ?_
          refine lv_iadd hx hb dX4_restart_41 ?_
          rw [show (((nI t * 16) + nI i)) = nI (t * 16 + i) from by rw [show (16 : Int32) = nI 16 from rfl, pk_mul, nI_add]]
          refine lv_iconst (v := 0) hx hb dX4_restart_42 (by decide) ?_
          refine hm_sZ G hP hD hS 11 (hm_se (HM.cs x t i)) 128 rfl (t * 16 + i) (nI_clamp (by omega)) (hs_inN (by omega) (by decide)) (by decide) (hm_mem bd cy (HM.u_se (HM.cs x t i) t (va_up (HM.se (HM.cs x t i) t) i false))) (hm_s_seF hi16) dX4_restart_43 (fun H locs hP hD hS => ?_)
          refine lv_iinc (v := nI (i + 1)) (lv' := [(4, .int (nI (i + 1))), (0, .ref (bd 0)), (1, .int (nI t)), (2, .long (a))]) hx hb dX4_restart_44 hl (k := 0) rfl (nI_1 i) (by decide) rfl (fun ls hl => ?_)
          refine lv_goto (tgt := 3) hx hb dX4_restart_47 (by decide) ?_
          exact ih (i + 1) (by omega) H locs (by rw [← hs_cs_ne x he]; exact hP) hS ls (lv_sub hl [0, 1, 2, 3] rfl)
        · have hq : (x.cs t i).hd i = x.hd i := by rw [hs_cs_hd, hs_clr_self]
          have he : x.hd i = some t := (hm_ho_eq ht (hhd i hi16)).mp (by rw [← hq]; exact c_2)
          refine lv_aload_n hx hb dX4_restart_23 rfl (lv_at hl 1 rfl) ?_
          refine hm_gf G in_X4_restart_X4 hP rfl 15 (by decide) (by decide +kernel) (.ref (bd 14)) rfl rfl dX4_restart_24 ?_
          refine lv_iload hx hb dX4_restart_27 (lv_at hl 0 rfl) ?_
          refine lv_iconst (v := 0) hx hb dX4_restart_29 (by decide) ?_
          refine hm_sI G hP hD hS 14 (hm_hd (HM.cs x t i)) 16 rfl (i) (nI_clamp (by omega)) (hs_inN (by omega) (by decide)) (hm_mem bd cy (HM.u_hd (HM.cs x t i) (i) none)) hm_s_hdN dX4_restart_30 (fun H locs hP hD hS => ?_)
          refine lv_aload_n hx hb dX4_restart_31 rfl (lv_at hl 1 rfl) ?_
          refine hm_gf G in_X4_restart_X4 hP rfl 10 (by decide) (by decide +kernel) (.ref (bd 11)) rfl rfl dX4_restart_32 ?_
          refine lv_iload_n hx hb dX4_restart_35 rfl (lv_at hl 2 rfl) ?_
          refine lv_bipush (v := 16) hx hb dX4_restart_36 (by decide) ?_
          refine lv_imul hx hb dX4_restart_38 ?_
          refine lv_iload hx hb dX4_restart_39 (lv_at hl 0 rfl) ?_
          refine lv_iadd hx hb dX4_restart_41 ?_
          rw [show (((nI t * 16) + nI i)) = nI (t * 16 + i) from by rw [show (16 : Int32) = nI 16 from rfl, pk_mul, nI_add]]
          refine lv_iconst (v := 0) hx hb dX4_restart_42 (by decide) ?_
          refine hm_sZ G hP hD hS 11 (hm_se (HM.u_hd (HM.cs x t i) (i) none)) 128 rfl (t * 16 + i) (nI_clamp (by omega)) (hs_inN (by omega) (by decide)) (by decide) (hm_mem bd cy (HM.u_se (HM.u_hd (HM.cs x t i) (i) none) t (va_up (HM.se (HM.u_hd (HM.cs x t i) (i) none) t) i false))) (hm_s_seF hi16) dX4_restart_43 (fun H locs hP hD hS => ?_)
          refine lv_iinc (v := nI (i + 1)) (lv' := [(4, .int (nI (i + 1))), (0, .ref (bd 0)), (1, .int (nI t)), (2, .long (a))]) hx hb dX4_restart_44 hl (k := 0) rfl (nI_1 i) (by decide) rfl (fun ls hl => ?_)
          refine lv_goto (tgt := 3) hx hb dX4_restart_47 (by decide) ?_
          exact ih (i + 1) (by omega) H locs (by rw [← hs_cs_eq x he]; exact hP) hS ls (lv_sub hl [0, 1, 2, 3] rfl)
  refine lv_iconst (v := 0) hx hb dX4_restart_0 (by decide) ?_
  refine lv_istore (lv' := [(4, .int (0)), (0, .ref (bd 0)), (1, .int (nI t)), (2, .long (a))]) hx hb dX4_restart_1 hl (by decide) rfl (fun ls hl => ?_)
  exact loop 16 0 rfl s.heap [] (by rw [hs_cs_0]; exact hP) hS ls (lv_sub hl [0, 1, 2, 3] rfl)
theorem in_X4_refused_X4 : ∀ w ∈ u_ws RX4 TX4 21, w ∈ wsX4_refused := by decide +kernel
set_option maxHeartbeats 4000000 in
set_option maxRecDepth 100000 in
/-- reference: r_refused -/
theorem r_refused (l : Launch) (D : va_G) (cy : Nat → ClassId) (bd : Nat → Nat) (ho : hm_ok bd) (x : HM) (hph : hs_Ph x) (z : Int32) : Ct l yX4_refused wsX4_refused ({ frames := 0, cells := 0, slots := 0, locals := 0 }) D cy (hm_A bd) [.ref (bd 0), .int (z)] (hm_mem bd cy (x)) (some (.int (x.codeA z))) (hm_mem bd cy (x)) := by
  rcases hs_rng z (b := 8) (by decide) with hz | ⟨t, ht, rfl⟩
  · refine ct_of (cc := cX4_refused) (maxL := 2) (ret := (some .int)) rfl (by decide) (Nat.le_of_ble_eq_true rfl) ?_
    intro p e s m below meth c ls G hx hb hml hr hlocks hP hS hl
    have hD := hm_D ho cy (x)
    have hl : lv_has ls 2 [(0, .ref (bd 0)), (1, .int (z))] := hl
    refine lv_iload_n hx hb dX4_refused_0 rfl (lv_at hl 1 rfl) ?_
    refine lv_if_lt (tgt := 10) hx hb dX4_refused_1 (by decide) (fun c_1 => ?_) (fun c_1 => ?_)
    · refine lv_iconst (v := (-1)) hx hb dX4_refused_10 (by decide) ?_
      exact ct_iret hx hb hr hlocks (by rw [HM.codeA, hs_n_out hz]) hP hS dX4_refused_11
    · refine lv_iload_n hx hb dX4_refused_4 rfl (lv_at hl 1 rfl) ?_
      refine lv_bipush (v := 7) hx hb dX4_refused_5 (by decide) ?_
      refine lv_icmp_le (tgt := 12) hx hb dX4_refused_7 (by decide) (fun c_2 => ?_) (fun c_2 => ?_)
      · exact absurd c_2 (Int32.not_le.mpr (hs_gt_of hz c_1 (by decide)))
      · refine lv_iconst (v := (-1)) hx hb dX4_refused_10 (by decide) ?_
        exact ct_iret hx hb hr hlocks (by rw [HM.codeA, hs_n_out hz]) hP hS dX4_refused_11
  · have eM := hs_n_in ht (show 8 < 2 ^ 31 by decide)
    refine ct_of (cc := cX4_refused) (maxL := 2) (ret := (some .int)) rfl (by decide) (Nat.le_of_ble_eq_true rfl) ?_
    intro p e s m below meth c ls G hx hb hml hr hlocks hP hS hl
    have hD := hm_D ho cy (x)
    have hl : lv_has ls 2 [(0, .ref (bd 0)), (1, .int (nI t))] := hl
    refine lv_iload_n hx hb dX4_refused_0 rfl (lv_at hl 1 rfl) ?_
    refine lv_if_lt (tgt := 10) hx hb dX4_refused_1 (by decide) (fun c_1 => ?_) (fun c_1 => ?_)
    · exact absurd c_1 (nI_pos (by omega))
    · refine lv_iload_n hx hb dX4_refused_4 rfl (lv_at hl 1 rfl) ?_
      refine lv_bipush (v := 7) hx hb dX4_refused_5 (by decide) ?_
      refine lv_icmp_le (tgt := 12) hx hb dX4_refused_7 (by decide) (fun c_2 => ?_) (fun c_2 => ?_)
      · refine lv_aload_n hx hb dX4_refused_12 rfl (lv_at hl 0 rfl) ?_
        refine hm_gf G in_X4_refused_X4 hP rfl 2 (by decide) (by decide +kernel) (.ref (bd 3)) rfl rfl dX4_refused_13 ?_
        refine lv_iload_n hx hb dX4_refused_16 rfl (lv_at hl 1 rfl) ?_
        refine hm_lI G hP 3 (HM.ph (x)) 8 rfl (t) (nI_clamp (by omega)) (hs_inN (by omega) (by decide)) (HM.ph (x) (t)) rfl dX4_refused_17 ?_
        refine lv_if_ne (tgt := 24) hx hb dX4_refused_18 (by decide) (fun c_3 => ?_) (fun c_3 => ?_)
        · refine lv_aload_n hx hb dX4_refused_24 rfl (lv_at hl 0 rfl) ?_
          refine hm_gf G in_X4_refused_X4 hP rfl 2 (by decide) (by decide +kernel) (.ref (bd 3)) rfl rfl dX4_refused_25 ?_
          refine lv_iload_n hx hb dX4_refused_28 rfl (lv_at hl 1 rfl) ?_
          refine hm_lI G hP 3 (HM.ph (x)) 8 rfl (t) (nI_clamp (by omega)) (hs_inN (by omega) (by decide)) (HM.ph (x) (t)) rfl dX4_refused_29 ?_
          refine lv_iconst (v := 3) hx hb dX4_refused_30 (by decide) ?_
          refine lv_icmp_ne (tgt := 37) hx hb dX4_refused_31 (by decide) (fun c_4 => ?_) (fun c_4 => ?_)
          · refine lv_aload_n hx hb dX4_refused_37 rfl (lv_at hl 0 rfl) ?_
            refine hm_gf G in_X4_refused_X4 hP rfl 2 (by decide) (by decide +kernel) (.ref (bd 3)) rfl rfl dX4_refused_38 ?_
            refine lv_iload_n hx hb dX4_refused_41 rfl (lv_at hl 1 rfl) ?_
            refine hm_lI G hP 3 (HM.ph (x)) 8 rfl (t) (nI_clamp (by omega)) (hs_inN (by omega) (by decide)) (HM.ph (x) (t)) rfl dX4_refused_42 ?_
            refine lv_iconst (v := 2) hx hb dX4_refused_43 (by decide) ?_
            refine lv_icmp_ne (tgt := 50) hx hb dX4_refused_44 (by decide) (fun c_5 => ?_) (fun c_5 => ?_)
            · refine lv_iconst (v := 0) hx hb dX4_refused_50 (by decide) ?_
              have h1 : x.ph t = 1 := ((hph t ht).resolve_left c_3).resolve_right (fun q => q.elim c_5 c_4)
              exact ct_iret hx hb hr hlocks (by rw [HM.codeA, eM]; show _ = some (Value.int (HM.code x t)); rw [HM.code, h1]; rfl) hP hS dX4_refused_51
            · refine lv_bipush (v := (-8)) hx hb dX4_refused_47 (by decide) ?_
              exact ct_iret hx hb hr hlocks (by rw [HM.codeA, eM]; show _ = some (Value.int (HM.code x t)); rw [HM.code, c_5]; rfl) hP hS dX4_refused_49
          · refine lv_bipush (v := (-6)) hx hb dX4_refused_34 (by decide) ?_
            exact ct_iret hx hb hr hlocks (by rw [HM.codeA, eM]; show _ = some (Value.int (HM.code x t)); rw [HM.code, c_4]; rfl) hP hS dX4_refused_36
        · refine lv_bipush (v := (-4)) hx hb dX4_refused_21 (by decide) ?_
          exact ct_iret hx hb hr hlocks (by rw [HM.codeA, eM]; show _ = some (Value.int (HM.code x t)); rw [HM.code, c_3]; rfl) hP hS dX4_refused_23
      · exact absurd (Int32.not_lt.mp (hs_le_in ht (by decide))) c_2
theorem in_X4_stopped_X4 : ∀ w ∈ u_ws RX4 TX4 21, w ∈ wsX4_stopped := by decide +kernel
set_option maxHeartbeats 4000000 in
set_option maxRecDepth 100000 in
/-- reference: r_stopped -/
theorem r_stopped (l : Launch) (D : va_G) (cy : Nat → ClassId) (bd : Nat → Nat) (ho : hm_ok bd) (x : HM) (hph : hs_Ph x) (z : Int32) : Ct l yX4_stopped wsX4_stopped ({ frames := 1, cells := 0, slots := 0, locals := 21 }) D cy (hm_A bd) [.ref (bd 0), .int (z)] (hm_mem bd cy (x)) (some (.int (x.stopA z))) (hm_mem bd cy (x.stopM z)) := by
  rcases hs_rng z (b := 8) (by decide) with hz | ⟨t, ht, rfl⟩
  · have eA : x.codeA z = -1 := by rw [HM.codeA, hs_n_out hz]
    refine ct_of (cc := cX4_stopped) (maxL := 3) (ret := (some .int)) rfl (by decide) (Nat.le_of_ble_eq_true rfl) ?_
    intro p e s m below meth c ls G hx hb hml hr hlocks hP hS hl
    have hD := hm_D ho cy (x)
    have hl : lv_has ls 3 [(0, .ref (bd 0)), (1, .int (z))] := hl
    refine lv_aload_n hx hb dX4_stopped_0 rfl (lv_at hl 0 rfl) ?_
    refine lv_iload_n hx hb dX4_stopped_1 rfl (lv_at hl 1 rfl) ?_
    refine hs_callV (n := 1) (As := [.int (z)]) (rest := []) G hml (r_refused l D cy bd ho (x) (hph) (z)) gX4_stopped_X4_refused rfl rfl rfl (by decide +kernel) ⟨Nat.le_of_ble_eq_true rfl, Nat.le_of_ble_eq_true rfl⟩ (q0 := 0) (ci := 4) (fs := hm_objL bd (x)) rfl rfl rfl rfl hl.1 (Nat.le_of_ble_eq_true rfl) ⟨Nat.zero_le _, Nat.zero_le _⟩ hP hS (fun _ h => h) rfl dX4_stopped_2 (fun H locs hP hS _ _ => ?_)
    refine lv_istore_n (lv' := [(2, .int (HM.codeA (x) (z))), (0, .ref (bd 0)), (1, .int (z))]) hx hb dX4_stopped_5 rfl hl (by decide) rfl (fun ls hl => ?_)
    refine lv_iload_n hx hb dX4_stopped_6 rfl (lv_at hl 0 rfl) ?_
    refine lv_if_ne (tgt := 28) hx hb dX4_stopped_7 (by decide) (fun c_1 => ?_) (fun c_1 => ?_)
    · refine lv_iload_n hx hb dX4_stopped_28 rfl (lv_at hl 0 rfl) ?_
      exact ct_iret hx hb hr hlocks (by rw [eA, HM.stopA, hs_n_out hz]) (by rw [HM.stopM, hs_n_out hz]; exact hP) hS dX4_stopped_29
    · exact absurd (eA.symm.trans c_1) (by decide)
  · have eM := hs_n_in ht (show 8 < 2 ^ 31 by decide)
    have eC : x.codeA (nI t) = x.code t := by rw [HM.codeA, eM]
    have eA : x.stopA (nI t) = x.stc t := by rw [HM.stopA, eM]
    have eB : x.stopM (nI t) = x.stp t := by rw [HM.stopM, eM]
    rw [eA, eB]
    refine ct_of (cc := cX4_stopped) (maxL := 3) (ret := (some .int)) rfl (by decide) (Nat.le_of_ble_eq_true rfl) ?_
    intro p e s m below meth c ls G hx hb hml hr hlocks hP hS hl
    have hD := hm_D ho cy (x)
    have hl : lv_has ls 3 [(0, .ref (bd 0)), (1, .int (nI t))] := hl
    refine lv_aload_n hx hb dX4_stopped_0 rfl (lv_at hl 0 rfl) ?_
    refine lv_iload_n hx hb dX4_stopped_1 rfl (lv_at hl 1 rfl) ?_
    refine hs_callV (n := 1) (As := [.int (nI t)]) (rest := []) G hml (r_refused l D cy bd ho (x) (hph) (nI t)) gX4_stopped_X4_refused rfl rfl rfl (by decide +kernel) ⟨Nat.le_of_ble_eq_true rfl, Nat.le_of_ble_eq_true rfl⟩ (q0 := 0) (ci := 4) (fs := hm_objL bd (x)) rfl rfl rfl rfl hl.1 (Nat.le_of_ble_eq_true rfl) ⟨Nat.zero_le _, Nat.zero_le _⟩ hP hS (fun _ h => h) rfl dX4_stopped_2 (fun H locs hP hS _ _ => ?_)
    refine lv_istore_n (lv' := [(2, .int (HM.codeA (x) (nI t))), (0, .ref (bd 0)), (1, .int (nI t))]) hx hb dX4_stopped_5 rfl hl (by decide) rfl (fun ls hl => ?_)
    refine lv_iload_n hx hb dX4_stopped_6 rfl (lv_at hl 0 rfl) ?_
    refine lv_if_ne (tgt := 28) hx hb dX4_stopped_7 (by decide) (fun c_1 => ?_) (fun c_1 => ?_)
    · refine lv_iload_n hx hb dX4_stopped_28 rfl (lv_at hl 0 rfl) ?_
      exact ct_iret hx hb hr hlocks (by rw [HM.stc, if_neg (fun q => c_1 (eC.trans q.1))]; first | rfl | rw [eC]) (by rw [HM.stp, if_neg (fun q => c_1 (eC.trans q.1))]; exact hP) hS dX4_stopped_29
    · refine lv_aload_n hx hb dX4_stopped_10 rfl (lv_at hl 1 rfl) ?_
      refine hm_gf G in_X4_stopped_X4 hP rfl 9 (by decide) (by decide +kernel) (.ref (bd 10)) rfl rfl dX4_stopped_11 ?_
      refine lv_iload_n hx hb dX4_stopped_14 rfl (lv_at hl 2 rfl) ?_
      refine hm_lZ G hP 10 (HM.hu (x)) 8 rfl (t) (nI_clamp (by omega)) (hs_inN (by omega) (by decide)) (HM.hu (x) (t)) rfl dX4_stopped_15 ?_
      refine lv_if_eq (tgt := 28) hx hb dX4_stopped_16 (by decide) (fun c_2 => ?_) (fun c_2 => ?_)
      · refine lv_iload_n hx hb dX4_stopped_28 rfl (lv_at hl 0 rfl) ?_
        exact ct_iret hx hb hr hlocks (by rw [HM.stc, if_neg (fun q => q.2 c_2)]; first | rfl | rw [eC]) (by rw [HM.stp, if_neg (fun q => q.2 c_2)]; exact hP) hS dX4_stopped_29
      · refine lv_aload_n hx hb dX4_stopped_19 rfl (lv_at hl 1 rfl) ?_
        refine hm_gf G in_X4_stopped_X4 hP rfl 9 (by decide) (by decide +kernel) (.ref (bd 10)) rfl rfl dX4_stopped_20 ?_
        refine lv_iload_n hx hb dX4_stopped_23 rfl (lv_at hl 2 rfl) ?_
        refine lv_iconst (v := 0) hx hb dX4_stopped_24 (by decide) ?_
        refine hm_sZ G hP hD hS 10 (HM.hu (x)) 8 rfl (t) (nI_clamp (by omega)) (hs_inN (by omega) (by decide)) (by decide) (hm_mem bd cy (HM.u_hu (x) (t) (0))) hm_s_hu dX4_stopped_25 (fun H locs hP hD hS => ?_)
        refine lv_iconst (v := 1) hx hb dX4_stopped_26 (by decide) ?_
        exact ct_iret hx hb hr hlocks (by rw [HM.stc, if_pos ⟨eC.symm.trans c_1, c_2⟩]) (by rw [HM.stp, if_pos ⟨eC.symm.trans c_1, c_2⟩]; exact hP) hS dX4_stopped_27
end
section
/-! ===== laws for tick and begin of the reference ===== -/
theorem hs_ra_l {r f : Int32} (hr : 0 ≤ r.toInt) (hf : 0 ≤ f.toInt) : (10 : Int64) < Int32.toInt64 r - Int32.toInt64 f ↔ (10 : Int32) < r - f := by
  have h1 := Int32.toInt_lt r
  have h2 := Int32.toInt_lt f
  have e1 : (Int32.toInt64 r - Int32.toInt64 f).toInt = r.toInt - f.toInt := by
    rw [Int64.toInt_sub, Int32.toInt_toInt64, Int32.toInt_toInt64]
    exact Int.bmod_eq_of_le (by omega) (by omega)
  have e2 : (r - f).toInt = r.toInt - f.toInt := by
    rw [Int32.toInt_sub]
    exact Int.bmod_eq_of_le (by omega) (by omega)
  have e3 : (10 : Int64).toInt = 10 := by decide
  have e4 : (10 : Int32).toInt = 10 := by decide
  rw [Int64.lt_iff_toInt_lt, Int32.lt_iff_toInt_lt, e1, e2, e3, e4]
theorem hs_shl20b (y : Int64) : (y <<< (Int32.toInt64 20 &&& 63)) = y * 1048576 := by
  apply Int64.toBitVec_inj.mp
  rw [Int64.toBitVec_shiftLeft, Int64.toBitVec_mul]
  have e : (Int32.toInt64 20 &&& 63).toBitVec.smod 64 = 20#64 := by decide
  rw [e, BitVec.shiftLeft_eq', BitVec.shiftLeft_eq_mul_twoPow]
  rfl
theorem hs_shr20 {c : Int64} (h : 0 ≤ c.toInt) : (c >>> (Int32.toInt64 20 &&& 63)) = c / 1048576 := by
  apply Int64.toInt_inj.mp
  have hlt := Int64.toInt_lt c
  have e : (Int32.toInt64 20 &&& 63).toBitVec.smod 64 = 20#64 := by decide
  have e1 : (c >>> (Int32.toInt64 20 &&& 63)).toInt = c.toInt >>> 20 := by
    show (c >>> (Int32.toInt64 20 &&& 63)).toBitVec.toInt = _
    rw [Int64.toBitVec_shiftRight, e, BitVec.toInt_sshiftRight']
    rfl
  have e3 : (1048576 : Int64).toInt = 1048576 := by decide
  rw [e1, Int64.toInt_div, e3, Int.shiftRight_eq_div_pow, Int.tdiv_eq_ediv_of_nonneg h]
  have h1 : c.toInt / 1048576 ≤ c.toInt := Int.ediv_le_self _ h
  have h0 : 0 ≤ c.toInt / 1048576 := Int.ediv_nonneg h (by decide)
  rw [Int.bmod_eq_of_le (by omega) (by omega)]
  rfl
theorem hs_lim {c : Int64} (h : 0 ≤ c.toInt) : ((((c >>> (Int32.toInt64 20 &&& 63)) + 10) <<< (Int32.toInt64 20 &&& 63)) + 1048575) = (((c / 1048576) + 10) * 1048576 + 1048575) := by
  rw [hs_shr20 h, hs_shl20b]
theorem hs_b1 (y : HM) (b t : Nat) (a : Int64) : (y.s_bs b).u_rs t a = (y.u_rs t a).s_bs b := rfl
theorem hs_b2 (y : HM) (b t : Nat) (a : Int64) : (y.s_bs b).u_ws t a = (y.u_ws t a).s_bs b := rfl
theorem hs_b3 (y : HM) (b t : Nat) (a : Int64) : (y.s_bs b).u_lm t a = (y.u_lm t a).s_bs b := rfl
theorem hs_b4 (y : HM) (b t : Nat) (a : Int32) : (y.s_bs b).u_hu t a = (y.u_hu t a).s_bs b := rfl
theorem hs_b5 (y : HM) (b t : Nat) (f : Nat → Bool) : (y.s_bs b).u_se t f = (y.u_se t f).s_bs b := rfl
theorem hs_b6 (y : HM) (t : Nat) (a : Int32) (f : Nat → Bool) : (y.u_hu t a).u_se t f = (y.u_se t f).u_hu t a := rfl
theorem hs_beg_ref (v : HM) (t i b : Nat) (A : Int32) (C L : Int64) (f : Nat → Bool) : (((((((((v.u_ph t 1).u_gt t i).u_bt t A).u_bi t b).s_bs (b + 1)).u_rs t C).u_ws t C).u_lm t L).u_hu t 0).u_se t f = (((((((((v.u_ph t 1).u_gt t i).u_bt t A).u_bi t b).u_rs t C).u_ws t C).u_lm t L).u_se t f).u_hu t 0).s_bs (b + 1) := by
  generalize ((((v.u_ph t 1).u_gt t i).u_bt t A).u_bi t b) = y
  rw [hs_b1, hs_b2, hs_b3, hs_b4, hs_b5, hs_b6]
def HM.ss (z : HM) (t n : Nat) : HM := z.s_se (va_up z.se t (fun k => if k < n then false else z.se t k))
theorem hs_ss_0 (z : HM) (t : Nat) : z.ss t 0 = z := by
  have e : (fun k => if k < 0 then false else z.se t k) = z.se t := by funext k; simp
  unfold HM.ss
  rw [e, hs_up_id, hs_q_id]
theorem hs_ss_succ (z : HM) (t n : Nat) : (z.ss t n).u_se t (va_up ((z.ss t n).se t) n false) = z.ss t (n + 1) := by
  unfold HM.ss
  rw [hs_q_se, hs_q_seu]
  congr 1
  funext j
  by_cases e : j = t
  · subst e
    rw [va_up_self, va_up_self, va_up_self]
    funext k
    by_cases e2 : k = n
    · subst e2; rw [va_up_self]; simp
    · rw [va_up_ne _ _ e2]
      by_cases q : k < n
      · simp [q, show k < n + 1 by omega]
      · simp [q, show ¬ k < n + 1 by omega]
  · rw [va_up_ne _ _ e, va_up_ne _ _ e, va_up_ne _ _ e]
theorem hm_ss16 {bd : Nat → Nat} {cy : Nat → ClassId} (z : HM) (t : Nat) : hm_mem bd cy (z.ss t 16) = hm_mem bd cy (z.u_se t (fun _ => false)) := by
  unfold HM.ss
  rw [hs_q_u, hm_mem_se, hm_mem_se]
  have e : (fun j => if (va_up z.se t (fun k => if k < 16 then false else z.se t k)) (j / 16) (j % 16) then (1 : Int32) else 0) = fun j => if (va_up z.se t (fun _ => false)) (j / 16) (j % 16) then 1 else 0 := by
    funext j
    by_cases e : j / 16 = t
    · rw [e, va_up_self, va_up_self]; simp [show j % 16 < 16 by omega]
    · rw [va_up_ne _ _ e, va_up_ne _ _ e]
  rw [e]
end
section
theorem in_X4_tick_X4 : ∀ w ∈ u_ws RX4 TX4 21, w ∈ wsX4_tick := by decide +kernel
set_option maxHeartbeats 4000000 in
set_option maxRecDepth 100000 in
/-- reference: r_tick -/
theorem r_tick (l : Launch) (D : va_G) (cy : Nat → ClassId) (bd : Nat → Nat) (ho : hm_ok bd) (x : HM) (B : Int) (hIn : x.In B) (z r : Int32) : Ct l yX4_tick wsX4_tick ({ frames := 2, cells := 0, slots := 0, locals := 48 }) D cy (hm_A bd) [.ref (bd 0), .int (z), .int (r)] (hm_mem bd cy (x)) (some (.int (x.tickA z r))) (hm_mem bd cy (x.tickM z r)) := by
  rcases hs_rng z (b := 4) (by decide) with hz | ⟨i, hi, rfl⟩
  · refine ct_of (cc := cX4_tick) (maxL := 4) (ret := (some .int)) rfl (by decide) (Nat.le_of_ble_eq_true rfl) ?_
    intro p e s m below meth c ls G hx hb hml hr hlocks hP hS hl
    have hD := hm_D ho cy (x)
    have hl : lv_has ls 4 [(0, .ref (bd 0)), (1, .int (z)), (2, .int (r))] := hl
    refine lv_iload_n hx hb dX4_tick_0 rfl (lv_at hl 1 rfl) ?_
    refine lv_if_lt (tgt := 9) hx hb dX4_tick_1 (by decide) (fun c_1 => ?_) (fun c_1 => ?_)
    · refine lv_iconst (v := (-1)) hx hb dX4_tick_9 (by decide) ?_
      exact ct_iret hx hb hr hlocks (by rw [HM.tickA, hs_n_out hz]) (by rw [HM.tickM, hs_n_out hz]; exact hP) hS dX4_tick_10
    · refine lv_iload_n hx hb dX4_tick_4 rfl (lv_at hl 1 rfl) ?_
      refine lv_iconst (v := 3) hx hb dX4_tick_5 (by decide) ?_
      refine lv_icmp_le (tgt := 11) hx hb dX4_tick_6 (by decide) (fun c_2 => ?_) (fun c_2 => ?_)
      · exact absurd c_2 (Int32.not_le.mpr (hs_gt_of hz c_1 (by decide)))
      · refine lv_iconst (v := (-1)) hx hb dX4_tick_9 (by decide) ?_
        exact ct_iret hx hb hr hlocks (by rw [HM.tickA, hs_n_out hz]) (by rw [HM.tickM, hs_n_out hz]; exact hP) hS dX4_tick_10
  · have eM := hs_n_in hi (show 4 < 2 ^ 31 by decide)
    have eA : x.tickA (nI i) r = if r < x.rd i then -2 else if hs_ra x.rd i r 4 0 then -2 else 0 := by rw [HM.tickA, eM]
    have eB : x.tickM (nI i) r = if r < x.rd i then x else if hs_ra x.rd i r 4 0 then x else (x.u_rd i r).ev i := by rw [HM.tickM, eM]
    rw [eA, eB]
    refine ct_of (cc := cX4_tick) (maxL := 4) (ret := (some .int)) rfl (by decide) (Nat.le_of_ble_eq_true rfl) ?_
    intro p e s m below meth c ls G hx hb hml hr hlocks hP hS hl
    have hD := hm_D ho cy (x)
    have hl : lv_has ls 4 [(0, .ref (bd 0)), (1, .int (nI i)), (2, .int (r))] := hl
    have loop : ¬ r < x.rd i → ∀ (n j : Nat), j + n = 4 → hs_ra x.rd i r n j = hs_ra x.rd i r 4 0 → ∀ ls : Array Slot, lv_has ls 4 [(3, .int (nI j)), (0, .ref (bd 0)), (1, .int (nI i)), (2, .int (r))] → W p l e ({ frames := 2, cells := 0, slots := 0, locals := 48 }) s m [.ref (bd 0), .int (nI i), .int r].toArray below meth c s.heap [] 0 0 (MQ below (hs_Post D (some (.int (if r < x.rd i then -2 else if hs_ra x.rd i r 4 0 then -2 else 0))) (hm_mem bd cy (if r < x.rd i then x else if hs_ra x.rd i r 4 0 then x else (x.u_rd i r).ev i)) (hm_A bd)) [.ref (bd 0), .int (nI i), .int r].toArray s 0 0 (hm_A bd)) (F0 m 26 ls []) := by
      intro hr0
      have hrp : 0 ≤ r.toInt := by have h1 := hIn.2.2.2.1 i hi; have h2 := Int32.le_iff_toInt_le.mp (Int32.not_lt.mp hr0); omega
      intro n
      induction n with
      | zero =>
        intro j hj he ls hl
        refine lv_iload_n hx hb dX4_tick_26 rfl (lv_at hl 0 rfl) ?_
        refine lv_iconst (v := 4) hx hb dX4_tick_27 (by decide) ?_
        refine lv_icmp_ge (tgt := 62) hx hb dX4_tick_28 (by decide) (fun c_1 => ?_) (fun c_1 => ?_)
        · have hra : hs_ra x.rd i r 4 0 = false := he.symm
          refine lv_aload_n hx hb dX4_tick_62 rfl (lv_at hl 1 rfl) ?_
          refine hm_gf G in_X4_tick_X4 hP rfl 0 (by decide) (by decide +kernel) (.ref (bd 1)) rfl rfl dX4_tick_63 ?_
          refine lv_iload_n hx hb dX4_tick_66 rfl (lv_at hl 2 rfl) ?_
          refine lv_iload_n hx hb dX4_tick_67 rfl (lv_at hl 3 rfl) ?_
          refine hm_sI G hP hD hS 1 (HM.rd (x)) 4 rfl (i) (nI_clamp (by omega)) (hs_inN (by omega) (by decide)) (hm_mem bd cy (HM.u_rd (x) (i) (r))) hm_s_rd dX4_tick_68 (fun H locs hP hD hS => ?_)
          refine lv_aload_n hx hb dX4_tick_69 rfl (lv_at hl 1 rfl) ?_
          refine lv_iload_n hx hb dX4_tick_70 rfl (lv_at hl 2 rfl) ?_
          refine hs_callV (n := 1) (As := [.int (nI i)]) (rest := []) G hml (r_event l D cy bd ho (HM.u_rd (x) (i) (r)) (show i < 4 by first | omega | exact hi)) gX4_tick_X4_event rfl rfl rfl (by decide +kernel) ⟨Nat.le_of_ble_eq_true rfl, Nat.le_of_ble_eq_true rfl⟩ (q0 := 0) (ci := 4) (fs := hm_objL bd (HM.u_rd (x) (i) (r))) rfl rfl rfl rfl hl.1 (Nat.le_of_ble_eq_true rfl) ⟨Nat.zero_le _, Nat.zero_le _⟩ hP hS (fun _ h => h) rfl dX4_tick_71 (fun H locs hP hS _ _ => ?_)
          have hD := hm_D ho cy (HM.ev (HM.u_rd (x) (i) (r)) (i))
          refine lv_iconst (v := 0) hx hb dX4_tick_74 (by decide) ?_
          exact ct_iret hx hb hr hlocks (by rw [if_neg hr0, if_neg (by rw [hra]; decide)]) (by rw [if_neg hr0, if_neg (by rw [hra]; decide)]; exact hP) hS dX4_tick_75
        · exact absurd (show (4 : Int32) ≤ nI j from nI_le (a := 4) (by omega) (by omega)) c_1
      | succ n ih =>
        intro j hj he ls hl
        refine lv_iload_n hx hb dX4_tick_26 rfl (lv_at hl 0 rfl) ?_
        refine lv_iconst (v := 4) hx hb dX4_tick_27 (by decide) ?_
        refine lv_icmp_ge (tgt := 62) hx hb dX4_tick_28 (by decide) (fun c_1 => ?_) (fun c_1 => ?_)
        · exact absurd c_1 (nI_ge (b := 4) (by omega) (by decide))
        · have hj4 : j < 4 := by omega
          have hfj := hIn.2.2.2.1 j hj4
          refine lv_iload_n hx hb dX4_tick_31 rfl (lv_at hl 0 rfl) ?_
          refine lv_iload_n hx hb dX4_tick_32 rfl (lv_at hl 2 rfl) ?_
          refine lv_icmp_eq (tgt := 56) hx hb dX4_tick_33 (by decide) (fun c_2 => ?_) (fun c_2 => ?_)
          · have hji : j = i := (nI_eq (by omega) (by omega)).mp c_2
            refine lv_iinc (v := nI (j + 1)) (lv' := [(3, .int (nI (j + 1))), (0, .ref (bd 0)), (1, .int (nI i)), (2, .int (r))]) hx hb dX4_tick_56 hl (k := 0) rfl (nI_1 j) (by decide) rfl (fun ls hl => ?_)
            refine lv_goto (tgt := 26) hx hb dX4_tick_59 (by decide) ?_
            exact ih (j + 1) (by omega) (by rw [← he, hs_ra_succ, if_neg (fun q => q.1 hji)]) ls (lv_sub hl [0, 1, 2, 3] rfl)
          · have hji : ¬ j = i := fun q => c_2 (by rw [q])
            refine lv_iload_n hx hb dX4_tick_36 rfl (lv_at hl 3 rfl) ?_
            refine lv_i2l (v := (Int32.toInt64 (r))) hx hb dX4_tick_37 rfl ?_
            refine lv_aload_n hx hb dX4_tick_38 rfl (lv_at hl 1 rfl) ?_
            refine hm_gf G in_X4_tick_X4 hP rfl 0 (by decide) (by decide +kernel) (.ref (bd 1)) rfl rfl dX4_tick_39 ?_
            refine lv_iload_n hx hb dX4_tick_42 rfl (lv_at hl 0 rfl) ?_
            refine hm_lI G hP 1 (HM.rd (x)) 4 rfl (j) (nI_clamp (by omega)) (hs_inN (by omega) (by decide)) (HM.rd (x) (j)) rfl dX4_tick_43 ?_
            refine lv_i2l (v := (Int32.toInt64 (HM.rd (x) (j)))) hx hb dX4_tick_44 rfl ?_
            refine lv_lsub hx hb dX4_tick_45 ?_
            refine lv_ldc2 (v := 10) hx hb G.2.2.2.1 (G.2.2.1 (.constantLong RX4 70 10) (by decide +kernel)) dX4_tick_46 ?_
            refine hs_lle (x := ((Int32.toInt64 (r)) - (Int32.toInt64 (HM.rd (x) (j))))) (y := 10) (tgt := 56) hx hb dX4_tick_49 dX4_tick_50 (by decide) (fun c_3 => ?_) (fun c_3 => ?_)
            · have hf : ¬ (10 : Int32) < r - x.rd j := fun q => c_3 ((hs_ra_l hrp hfj).mpr q)
              refine lv_iinc (v := nI (j + 1)) (lv' := [(3, .int (nI (j + 1))), (0, .ref (bd 0)), (1, .int (nI i)), (2, .int (r))]) hx hb dX4_tick_56 hl (k := 0) rfl (nI_1 j) (by decide) rfl (fun ls hl => ?_)
              refine lv_goto (tgt := 26) hx hb dX4_tick_59 (by decide) ?_
              exact ih (j + 1) (by omega) (by rw [← he, hs_ra_succ, if_neg (fun q => hf q.2)]) ls (lv_sub hl [0, 1, 2, 3] rfl)
            · have hf : (10 : Int32) < r - x.rd j := (hs_ra_l hrp hfj).mp c_3
              refine lv_bipush (v := (-2)) hx hb dX4_tick_53 (by decide) ?_
              have hra : hs_ra x.rd i r 4 0 = true := by rw [← he, hs_ra_succ]; exact if_pos ⟨hji, hf⟩
              exact ct_iret hx hb hr hlocks (by rw [if_neg hr0, if_pos hra]) (by rw [if_neg hr0, if_pos hra]; exact hP) hS dX4_tick_55
    refine lv_iload_n hx hb dX4_tick_0 rfl (lv_at hl 1 rfl) ?_
    refine lv_if_lt (tgt := 9) hx hb dX4_tick_1 (by decide) (fun c_1 => ?_) (fun c_1 => ?_)
    · exact absurd c_1 (nI_pos (by omega))
    · refine lv_iload_n hx hb dX4_tick_4 rfl (lv_at hl 1 rfl) ?_
      refine lv_iconst (v := 3) hx hb dX4_tick_5 (by decide) ?_
      refine lv_icmp_le (tgt := 11) hx hb dX4_tick_6 (by decide) (fun c_2 => ?_) (fun c_2 => ?_)
      · refine lv_iload_n hx hb dX4_tick_11 rfl (lv_at hl 2 rfl) ?_
        refine lv_aload_n hx hb dX4_tick_12 rfl (lv_at hl 0 rfl) ?_
        refine hm_gf G in_X4_tick_X4 hP rfl 0 (by decide) (by decide +kernel) (.ref (bd 1)) rfl rfl dX4_tick_13 ?_
        refine lv_iload_n hx hb dX4_tick_16 rfl (lv_at hl 1 rfl) ?_
        refine hm_lI G hP 1 (HM.rd (x)) 4 rfl (i) (nI_clamp (by omega)) (hs_inN (by omega) (by decide)) (HM.rd (x) (i)) rfl dX4_tick_17 ?_
        refine lv_icmp_ge (tgt := 24) hx hb dX4_tick_18 (by decide) (fun c_3 => ?_) (fun c_3 => ?_)
        · refine lv_iconst (v := 0) hx hb dX4_tick_24 (by decide) ?_
          refine lv_istore_n (lv' := [(3, .int (0)), (0, .ref (bd 0)), (1, .int (nI i)), (2, .int (r))]) hx hb dX4_tick_25 rfl hl (by decide) rfl (fun ls hl => ?_)
          exact loop (Int32.not_lt.mpr c_3) 4 0 rfl rfl ls (lv_sub hl [0, 1, 2, 3] rfl)
        · refine lv_bipush (v := (-2)) hx hb dX4_tick_21 (by decide) ?_
          exact ct_iret hx hb hr hlocks (by rw [if_pos (Int32.not_le.mp c_3)]) (by rw [if_pos (Int32.not_le.mp c_3)]; exact hP) hS dX4_tick_23
      · exact absurd (Int32.not_lt.mp (hs_le_in hi (by decide))) c_2
theorem in_X4_abort_X4 : ∀ w ∈ u_ws RX4 TX4 21, w ∈ wsX4_abort := by decide +kernel
set_option maxHeartbeats 4000000 in
set_option maxRecDepth 100000 in
/-- reference: r_abort -/
theorem r_abort (l : Launch) (D : va_G) (cy : Nat → ClassId) (bd : Nat → Nat) (ho : hm_ok bd) (x : HM) (B : Int) (hIn : x.In B) (hph : hs_Ph x) (z : Int32) : Ct l yX4_abort wsX4_abort ({ frames := 2, cells := 0, slots := 0, locals := 48 }) D cy (hm_A bd) [.ref (bd 0), .int (z)] (hm_mem bd cy (x)) (some (.int (x.codeA z))) (hm_mem bd cy (x.abortM z)) := by
  rcases hs_rng z (b := 8) (by decide) with hz | ⟨t, ht, rfl⟩
  · have eA : x.codeA z = -1 := by rw [HM.codeA, hs_n_out hz]
    refine ct_of (cc := cX4_abort) (maxL := 3) (ret := (some .int)) rfl (by decide) (Nat.le_of_ble_eq_true rfl) ?_
    intro p e s m below meth c ls G hx hb hml hr hlocks hP hS hl
    have hD := hm_D ho cy (x)
    have hl : lv_has ls 3 [(0, .ref (bd 0)), (1, .int (z))] := hl
    refine lv_aload_n hx hb dX4_abort_0 rfl (lv_at hl 0 rfl) ?_
    refine lv_iload_n hx hb dX4_abort_1 rfl (lv_at hl 1 rfl) ?_
    refine hs_callV (n := 1) (As := [.int (z)]) (rest := []) G hml (r_refused l D cy bd ho (x) (hph) (z)) gX4_abort_X4_refused rfl rfl rfl (by decide +kernel) ⟨Nat.le_of_ble_eq_true rfl, Nat.le_of_ble_eq_true rfl⟩ (q0 := 0) (ci := 4) (fs := hm_objL bd (x)) rfl rfl rfl rfl hl.1 (Nat.le_of_ble_eq_true rfl) ⟨Nat.zero_le _, Nat.zero_le _⟩ hP hS (fun _ h => h) rfl dX4_abort_2 (fun H locs hP hS _ _ => ?_)
    refine lv_istore_n (lv' := [(2, .int (HM.codeA (x) (z))), (0, .ref (bd 0)), (1, .int (z))]) hx hb dX4_abort_5 rfl hl (by decide) rfl (fun ls hl => ?_)
    refine lv_iload_n hx hb dX4_abort_6 rfl (lv_at hl 0 rfl) ?_
    refine lv_if_eq (tgt := 12) hx hb dX4_abort_7 (by decide) (fun c_1 => ?_) (fun c_1 => ?_)
    · exact absurd (eA.symm.trans c_1) (by decide)
    · refine lv_iload_n hx hb dX4_abort_10 rfl (lv_at hl 0 rfl) ?_
      exact ct_iret hx hb hr hlocks rfl (by rw [HM.abortM, hs_n_out hz]; exact hP) hS dX4_abort_11
  · have eM := hs_n_in ht (show 8 < 2 ^ 31 by decide)
    have eC : x.codeA (nI t) = x.code t := by rw [HM.codeA, eM]
    have eB : x.abortM (nI t) = if x.code t = 0 then x.u_ph t 3 else x := by rw [HM.abortM, eM]
    have hg := hIn.gt ht
    have hg2 : HM.gt (HM.ev (x) (HM.gt (x) (t))) (t) < 4 := hg
    refine ct_of (cc := cX4_abort) (maxL := 3) (ret := (some .int)) rfl (by decide) (Nat.le_of_ble_eq_true rfl) ?_
    intro p e s m below meth c ls G hx hb hml hr hlocks hP hS hl
    have hD := hm_D ho cy (x)
    have hl : lv_has ls 3 [(0, .ref (bd 0)), (1, .int (nI t))] := hl
    refine lv_aload_n hx hb dX4_abort_0 rfl (lv_at hl 0 rfl) ?_
    refine lv_iload_n hx hb dX4_abort_1 rfl (lv_at hl 1 rfl) ?_
    refine hs_callV (n := 1) (As := [.int (nI t)]) (rest := []) G hml (r_refused l D cy bd ho (x) (hph) (nI t)) gX4_abort_X4_refused rfl rfl rfl (by decide +kernel) ⟨Nat.le_of_ble_eq_true rfl, Nat.le_of_ble_eq_true rfl⟩ (q0 := 0) (ci := 4) (fs := hm_objL bd (x)) rfl rfl rfl rfl hl.1 (Nat.le_of_ble_eq_true rfl) ⟨Nat.zero_le _, Nat.zero_le _⟩ hP hS (fun _ h => h) rfl dX4_abort_2 (fun H locs hP hS _ _ => ?_)
    refine lv_istore_n (lv' := [(2, .int (HM.codeA (x) (nI t))), (0, .ref (bd 0)), (1, .int (nI t))]) hx hb dX4_abort_5 rfl hl (by decide) rfl (fun ls hl => ?_)
    refine lv_iload_n hx hb dX4_abort_6 rfl (lv_at hl 0 rfl) ?_
    refine lv_if_eq (tgt := 12) hx hb dX4_abort_7 (by decide) (fun c_1 => ?_) (fun c_1 => ?_)
    · refine lv_aload_n hx hb dX4_abort_12 rfl (lv_at hl 1 rfl) ?_
      refine hm_gf G in_X4_abort_X4 hP rfl 2 (by decide) (by decide +kernel) (.ref (bd 3)) rfl rfl dX4_abort_13 ?_
      refine lv_iload_n hx hb dX4_abort_16 rfl (lv_at hl 2 rfl) ?_
      refine lv_iconst (v := 3) hx hb dX4_abort_17 (by decide) ?_
      refine hm_sI G hP hD hS 3 (HM.ph (x)) 8 rfl (t) (nI_clamp (by omega)) (hs_inN (by omega) (by decide)) (hm_mem bd cy (HM.u_ph (x) (t) (3))) hm_s_ph dX4_abort_18 (fun H locs hP hD hS => ?_)
      refine lv_iconst (v := 0) hx hb dX4_abort_19 (by decide) ?_
      exact ct_iret hx hb hr hlocks (by rw [c_1]) (by rw [eB, if_pos (eC.symm.trans c_1)]; exact hP) hS dX4_abort_20
    · refine lv_iload_n hx hb dX4_abort_10 rfl (lv_at hl 0 rfl) ?_
      exact ct_iret hx hb hr hlocks rfl (by rw [eB, if_neg (fun q => c_1 (eC.trans q))]; exact hP) hS dX4_abort_11
theorem in_X4_heartbeat_X4 : ∀ w ∈ u_ws RX4 TX4 21, w ∈ wsX4_heartbeat := by decide +kernel
set_option maxHeartbeats 4000000 in
set_option maxRecDepth 100000 in
/-- reference: r_heartbeat -/
theorem r_heartbeat (l : Launch) (D : va_G) (cy : Nat → ClassId) (bd : Nat → Nat) (ho : hm_ok bd) (x : HM) (B : Int) (hIn : x.In B) (hph : hs_Ph x) (z : Int32) : Ct l yX4_heartbeat wsX4_heartbeat ({ frames := 2, cells := 0, slots := 0, locals := 48 }) D cy (hm_A bd) [.ref (bd 0), .int (z)] (hm_mem bd cy (x)) (some (.int (x.codeA z))) (hm_mem bd cy (x.heartM z)) := by
  rcases hs_rng z (b := 8) (by decide) with hz | ⟨t, ht, rfl⟩
  · have eA : x.codeA z = -1 := by rw [HM.codeA, hs_n_out hz]
    refine ct_of (cc := cX4_heartbeat) (maxL := 3) (ret := (some .int)) rfl (by decide) (Nat.le_of_ble_eq_true rfl) ?_
    intro p e s m below meth c ls G hx hb hml hr hlocks hP hS hl
    have hD := hm_D ho cy (x)
    have hl : lv_has ls 3 [(0, .ref (bd 0)), (1, .int (z))] := hl
    refine lv_aload_n hx hb dX4_heartbeat_0 rfl (lv_at hl 0 rfl) ?_
    refine lv_iload_n hx hb dX4_heartbeat_1 rfl (lv_at hl 1 rfl) ?_
    refine hs_callV (n := 1) (As := [.int (z)]) (rest := []) G hml (r_refused l D cy bd ho (x) (hph) (z)) gX4_heartbeat_X4_refused rfl rfl rfl (by decide +kernel) ⟨Nat.le_of_ble_eq_true rfl, Nat.le_of_ble_eq_true rfl⟩ (q0 := 0) (ci := 4) (fs := hm_objL bd (x)) rfl rfl rfl rfl hl.1 (Nat.le_of_ble_eq_true rfl) ⟨Nat.zero_le _, Nat.zero_le _⟩ hP hS (fun _ h => h) rfl dX4_heartbeat_2 (fun H locs hP hS _ _ => ?_)
    refine lv_istore_n (lv' := [(2, .int (HM.codeA (x) (z))), (0, .ref (bd 0)), (1, .int (z))]) hx hb dX4_heartbeat_5 rfl hl (by decide) rfl (fun ls hl => ?_)
    refine lv_iload_n hx hb dX4_heartbeat_6 rfl (lv_at hl 0 rfl) ?_
    refine lv_if_eq (tgt := 12) hx hb dX4_heartbeat_7 (by decide) (fun c_1 => ?_) (fun c_1 => ?_)
    · exact absurd (eA.symm.trans c_1) (by decide)
    · refine lv_iload_n hx hb dX4_heartbeat_10 rfl (lv_at hl 0 rfl) ?_
      exact ct_iret hx hb hr hlocks rfl (by rw [HM.heartM, hs_n_out hz]; exact hP) hS dX4_heartbeat_11
  · have eM := hs_n_in ht (show 8 < 2 ^ 31 by decide)
    have eC : x.codeA (nI t) = x.code t := by rw [HM.codeA, eM]
    have eB : x.heartM (nI t) = if x.code t = 0 then (x.ev (x.gt t)).beat t else x := by rw [HM.heartM, eM]
    have hg := hIn.gt ht
    have hg2 : HM.gt (HM.ev (x) (HM.gt (x) (t))) (t) < 4 := hg
    refine ct_of (cc := cX4_heartbeat) (maxL := 3) (ret := (some .int)) rfl (by decide) (Nat.le_of_ble_eq_true rfl) ?_
    intro p e s m below meth c ls G hx hb hml hr hlocks hP hS hl
    have hD := hm_D ho cy (x)
    have hl : lv_has ls 3 [(0, .ref (bd 0)), (1, .int (nI t))] := hl
    refine lv_aload_n hx hb dX4_heartbeat_0 rfl (lv_at hl 0 rfl) ?_
    refine lv_iload_n hx hb dX4_heartbeat_1 rfl (lv_at hl 1 rfl) ?_
    refine hs_callV (n := 1) (As := [.int (nI t)]) (rest := []) G hml (r_refused l D cy bd ho (x) (hph) (nI t)) gX4_heartbeat_X4_refused rfl rfl rfl (by decide +kernel) ⟨Nat.le_of_ble_eq_true rfl, Nat.le_of_ble_eq_true rfl⟩ (q0 := 0) (ci := 4) (fs := hm_objL bd (x)) rfl rfl rfl rfl hl.1 (Nat.le_of_ble_eq_true rfl) ⟨Nat.zero_le _, Nat.zero_le _⟩ hP hS (fun _ h => h) rfl dX4_heartbeat_2 (fun H locs hP hS _ _ => ?_)
    refine lv_istore_n (lv' := [(2, .int (HM.codeA (x) (nI t))), (0, .ref (bd 0)), (1, .int (nI t))]) hx hb dX4_heartbeat_5 rfl hl (by decide) rfl (fun ls hl => ?_)
    refine lv_iload_n hx hb dX4_heartbeat_6 rfl (lv_at hl 0 rfl) ?_
    refine lv_if_eq (tgt := 12) hx hb dX4_heartbeat_7 (by decide) (fun c_1 => ?_) (fun c_1 => ?_)
    · refine lv_aload_n hx hb dX4_heartbeat_12 rfl (lv_at hl 1 rfl) ?_
      refine lv_aload_n hx hb dX4_heartbeat_13 rfl (lv_at hl 1 rfl) ?_
      refine hm_gf G in_X4_heartbeat_X4 hP rfl 3 (by decide) (by decide +kernel) (.ref (bd 4)) rfl rfl dX4_heartbeat_14 ?_
      refine lv_iload_n hx hb dX4_heartbeat_17 rfl (lv_at hl 2 rfl) ?_
      refine hm_lI G hP 4 (hm_gt (x)) 8 rfl (t) (nI_clamp (by omega)) (hs_inN (by omega) (by decide)) (nI (HM.gt (x) (t))) rfl dX4_heartbeat_18 ?_
      refine hs_callV (n := 1) (As := [.int (nI (HM.gt (x) (t)))]) (rest := []) G hml (r_event l D cy bd ho (x) (show HM.gt (x) (t) < 4 by first | omega | exact hi)) gX4_heartbeat_X4_event rfl rfl rfl (by decide +kernel) ⟨Nat.le_of_ble_eq_true rfl, Nat.le_of_ble_eq_true rfl⟩ (q0 := 0) (ci := 4) (fs := hm_objL bd (x)) rfl rfl rfl rfl hl.1 (Nat.le_of_ble_eq_true rfl) ⟨Nat.zero_le _, Nat.zero_le _⟩ hP hS (fun _ h => h) rfl dX4_heartbeat_19 (fun H locs hP hS _ _ => ?_)
      have hD := hm_D ho cy (HM.ev (x) (HM.gt (x) (t)))
      refine lv_aload_n hx hb dX4_heartbeat_22 rfl (lv_at hl 1 rfl) ?_
      refine hm_gf G in_X4_heartbeat_X4 hP rfl 4 (by decide) (by decide +kernel) (.ref (bd 5)) rfl rfl dX4_heartbeat_23 ?_
      refine lv_iload_n hx hb dX4_heartbeat_26 rfl (lv_at hl 2 rfl) ?_
      refine lv_aload_n hx hb dX4_heartbeat_27 rfl (lv_at hl 1 rfl) ?_
      refine hm_gf G in_X4_heartbeat_X4 hP rfl 0 (by decide) (by decide +kernel) (.ref (bd 1)) rfl rfl dX4_heartbeat_28 ?_
      refine lv_aload_n hx hb dX4_heartbeat_31 rfl (lv_at hl 1 rfl) ?_
      refine hm_gf G in_X4_heartbeat_X4 hP rfl 3 (by decide) (by decide +kernel) (.ref (bd 4)) rfl rfl dX4_heartbeat_32 ?_
      refine lv_iload_n hx hb dX4_heartbeat_35 rfl (lv_at hl 2 rfl) ?_
      refine hm_lI G hP 4 (hm_gt (HM.ev (x) (HM.gt (x) (t)))) 8 rfl (t) (nI_clamp (by omega)) (hs_inN (by omega) (by decide)) (nI (HM.gt (HM.ev (x) (HM.gt (x) (t))) (t))) rfl dX4_heartbeat_36 ?_
      refine hm_lI G hP 1 (HM.rd (HM.ev (x) (HM.gt (x) (t)))) 4 rfl (HM.gt (HM.ev (x) (HM.gt (x) (t))) (t)) (nI_clamp (by omega)) (hs_inN (by omega) (by decide)) (HM.rd (HM.ev (x) (HM.gt (x) (t))) (HM.gt (HM.ev (x) (HM.gt (x) (t))) (t))) rfl dX4_heartbeat_37 ?_
      refine hm_sI G hP hD hS 5 (HM.bt (HM.ev (x) (HM.gt (x) (t)))) 8 rfl (t) (nI_clamp (by omega)) (hs_inN (by omega) (by decide)) (hm_mem bd cy (HM.u_bt (HM.ev (x) (HM.gt (x) (t))) (t) (HM.rd (HM.ev (x) (HM.gt (x) (t))) (HM.gt (HM.ev (x) (HM.gt (x) (t))) (t))))) hm_s_bt dX4_heartbeat_38 (fun H locs hP hD hS => ?_)
      refine lv_iconst (v := 0) hx hb dX4_heartbeat_39 (by decide) ?_
      exact ct_iret hx hb hr hlocks (by rw [c_1]) (by rw [eB, if_pos (eC.symm.trans c_1)]; exact hP) hS dX4_heartbeat_40
    · refine lv_iload_n hx hb dX4_heartbeat_10 rfl (lv_at hl 0 rfl) ?_
      exact ct_iret hx hb hr hlocks rfl (by rw [eB, if_neg (fun q => c_1 (eC.trans q))]; exact hP) hS dX4_heartbeat_11
theorem in_X4_clean_X4 : ∀ w ∈ u_ws RX4 TX4 21, w ∈ wsX4_clean := by decide +kernel
set_option maxHeartbeats 4000000 in
set_option maxRecDepth 100000 in
/-- reference: r_clean -/
theorem r_clean (l : Launch) (D : va_G) (cy : Nat → ClassId) (bd : Nat → Nat) (ho : hm_ok bd) (x : HM) (B : Int) (hIn : x.In B) (hB : B + 200 < 4611686018427387904) (z : Int32) : Ct l yX4_clean wsX4_clean ({ frames := 1, cells := 0, slots := 0, locals := 27 }) D cy (hm_A bd) [.ref (bd 0), .int (z)] (hm_mem bd cy (x)) (some (.int (x.cleanA z))) (hm_mem bd cy (x.cleanM z)) := by
  rcases hs_rng z (b := 8) (by decide) with hz | ⟨t, ht, rfl⟩
  · refine ct_of (cc := cX4_clean) (maxL := 3) (ret := (some .int)) rfl (by decide) (Nat.le_of_ble_eq_true rfl) ?_
    intro p e s m below meth c ls G hx hb hml hr hlocks hP hS hl
    have hD := hm_D ho cy (x)
    have hl : lv_has ls 3 [(0, .ref (bd 0)), (1, .int (z))] := hl
    refine lv_iload_n hx hb dX4_clean_0 rfl (lv_at hl 1 rfl) ?_
    refine lv_if_lt (tgt := 10) hx hb dX4_clean_1 (by decide) (fun c_1 => ?_) (fun c_1 => ?_)
    · refine lv_iconst (v := (-1)) hx hb dX4_clean_10 (by decide) ?_
      exact ct_iret hx hb hr hlocks (by rw [HM.cleanA, hs_n_out hz]) (by rw [HM.cleanM, hs_n_out hz]; exact hP) hS dX4_clean_11
    · refine lv_iload_n hx hb dX4_clean_4 rfl (lv_at hl 1 rfl) ?_
      refine lv_bipush (v := 7) hx hb dX4_clean_5 (by decide) ?_
      refine lv_icmp_le (tgt := 12) hx hb dX4_clean_7 (by decide) (fun c_2 => ?_) (fun c_2 => ?_)
      · exact absurd c_2 (Int32.not_le.mpr (hs_gt_of hz c_1 (by decide)))
      · refine lv_iconst (v := (-1)) hx hb dX4_clean_10 (by decide) ?_
        exact ct_iret hx hb hr hlocks (by rw [HM.cleanA, hs_n_out hz]) (by rw [HM.cleanM, hs_n_out hz]; exact hP) hS dX4_clean_11
  · have eT := hs_n_in ht (show 8 < 2 ^ 31 by decide)
    have eA : x.cleanA (nI t) = if x.ph t = 0 then -4 else if x.ph t = 1 then -9 else 0 := by rw [HM.cleanA, eT]
    have eM : x.cleanM (nI t) = if x.ph t = 0 then x else if x.ph t = 1 then x else (hs_cl t 16 0 x).u_ph t 0 := by rw [HM.cleanM, eT]
    rw [eA, eM]
    refine ct_of (cc := cX4_clean) (maxL := 3) (ret := (some .int)) rfl (by decide) (Nat.le_of_ble_eq_true rfl) ?_
    intro p e s m below meth c ls G hx hb hml hr hlocks hP hS hl
    have hD := hm_D ho cy (x)
    have hl : lv_has ls 3 [(0, .ref (bd 0)), (1, .int (nI t))] := hl
    have loop : ¬ x.ph t = 0 → ¬ x.ph t = 1 → ∀ (n i : Nat), i + n = 16 → ∀ (y : HM) (C : Int), y.In C → C + n + 20 < 4611686018427387904 → hs_cl t n i y = hs_cl t 16 0 x → ∀ (H : Heap) (locs : List Loc), va_P D vwCl (hm_mem bd cy y) H → va_S (hm_A bd) s.heap H locs → ∀ ls : Array Slot, lv_has ls 3 [(2, .int (nI i)), (0, .ref (bd 0)), (1, .int (nI t))] → W p l e ({ frames := 1, cells := 0, slots := 0, locals := 27 }) s m [.ref (bd 0), .int (nI t)].toArray below meth c H locs 0 0 (MQ below (hs_Post D (some (.int (if x.ph t = 0 then -4 else if x.ph t = 1 then -9 else 0))) (hm_mem bd cy (if x.ph t = 0 then x else if x.ph t = 1 then x else (hs_cl t 16 0 x).u_ph t 0)) (hm_A bd)) [.ref (bd 0), .int (nI t)].toArray s 0 0 (hm_A bd)) (F0 m 39 ls []) := by
      intro hp0 hp1 n
      induction n with
      | zero =>
        intro i hi y C hy hC he H locs hP hS ls hl
        have hD := hm_D ho cy y
        refine lv_iload_n hx hb dX4_clean_39 rfl (lv_at hl 0 rfl) ?_
        refine lv_bipush (v := 16) hx hb dX4_clean_40 (by decide) ?_
        refine lv_icmp_ge (tgt := 86) hx hb dX4_clean_42 (by decide) (fun c_1 => ?_) (fun c_1 => ?_)
        · refine lv_aload_n hx hb dX4_clean_86 rfl (lv_at hl 1 rfl) ?_
          refine hm_gf G in_X4_clean_X4 hP rfl 2 (by decide) (by decide +kernel) (.ref (bd 3)) rfl rfl dX4_clean_87 ?_
          refine lv_iload_n hx hb dX4_clean_90 rfl (lv_at hl 2 rfl) ?_
          refine lv_iconst (v := 0) hx hb dX4_clean_91 (by decide) ?_
          refine hm_sI G hP hD hS 3 (HM.ph (y)) 8 rfl (t) (nI_clamp (by omega)) (hs_inN (by omega) (by decide)) (hm_mem bd cy (HM.u_ph (y) (t) (0))) hm_s_ph dX4_clean_92 (fun H locs hP hD hS => ?_)
          refine lv_iconst (v := 0) hx hb dX4_clean_93 (by decide) ?_
          exact ct_iret hx hb hr hlocks (by rw [if_neg hp0, if_neg hp1]) (by rw [if_neg hp0, if_neg hp1, ← he]; exact hP) hS dX4_clean_94
        · exact absurd (show (16 : Int32) ≤ nI i from nI_le (a := 16) (by omega) (by omega)) c_1
      | succ n ih =>
        intro i hi y C hy hC he H locs hP hS ls hl
        have hD := hm_D ho cy y
        have hg := hy.gt ht
        refine lv_iload_n hx hb dX4_clean_39 rfl (lv_at hl 0 rfl) ?_
        refine lv_bipush (v := 16) hx hb dX4_clean_40 (by decide) ?_
        refine lv_icmp_ge (tgt := 86) hx hb dX4_clean_42 (by decide) (fun c_1 => ?_) (fun c_1 => ?_)
        · exact absurd c_1 (nI_ge (b := 16) (by omega) (by decide))
        · have hi16 : i < 16 := by omega
          refine lv_aload_n hx hb dX4_clean_45 rfl (lv_at hl 1 rfl) ?_
          refine hm_gf G in_X4_clean_X4 hP rfl 15 (by decide) (by decide +kernel) (.ref (bd 14)) rfl rfl dX4_clean_46 ?_
          refine lv_iload_n hx hb dX4_clean_49 rfl (lv_at hl 0 rfl) ?_
          refine hm_lI G hP 14 (hm_hd (y)) 16 rfl (i) (nI_clamp (by omega)) (hs_inN (by omega) (by decide)) (hm_ho (HM.hd (y) (i))) rfl dX4_clean_50 ?_
          refine lv_iload_n hx hb dX4_clean_51 rfl (lv_at hl 2 rfl) ?_
          refine lv_iconst (v := 1) hx hb dX4_clean_52 (by decide) ?_
          refine lv_iadd hx hb dX4_clean_53 ?_
          rw [show ((nI t + 1)) = nI (t + 1) from nI_1 t]
          refine lv_icmp_ne (tgt := 80) hx hb dX4_clean_54 (by decide) (fun c_2 => ?_) (fun c_2 => ?_)
          · have hh : ¬ y.hd i = some t := fun q => c_2 ((hm_ho_eq ht (hy.hd hi16)).mpr q)
            refine lv_iinc (v := nI (i + 1)) (lv' := [(2, .int (nI (i + 1))), (0, .ref (bd 0)), (1, .int (nI t))]) hx hb dX4_clean_80 hl (k := 0) rfl (nI_1 i) (by decide) rfl (fun ls hl => ?_)
            refine lv_goto (tgt := 39) hx hb dX4_clean_83 (by decide) ?_
            have hck : y.clk t i = y := if_neg hh
            exact ih (i + 1) (by omega) (y.clk t i) (C + 1) (hy.clk (by omega) ht hi16) (by omega) (by rw [← he, hs_cl_succ]) H locs (by rw [hck]; exact hP) hS ls (lv_sub hl [0, 1, 2] rfl)
          · have hh : y.hd i = some t := (hm_ho_eq ht (hy.hd hi16)).mp c_2
            have hlen := hy.lenlt hi16 (hy.lt16 hi16 (by rw [hh]; rfl))
            refine lv_aload_n hx hb dX4_clean_57 rfl (lv_at hl 1 rfl) ?_
            refine lv_iload_n hx hb dX4_clean_58 rfl (lv_at hl 0 rfl) ?_
            refine lv_iconst (v := 3) hx hb dX4_clean_59 (by decide) ?_
            refine lv_iand hx hb dX4_clean_60 ?_
            rw [show ((nI i &&& 3)) = nI (i % 4) from hs_and3 hi16]
            refine lv_aload_n hx hb dX4_clean_61 rfl (lv_at hl 1 rfl) ?_
            refine hm_gf G in_X4_clean_X4 hP rfl 1 (by decide) (by decide +kernel) (.ref (bd 2)) rfl rfl dX4_clean_62 ?_
            refine lv_aload_n hx hb dX4_clean_65 rfl (lv_at hl 1 rfl) ?_
            refine hm_gf G in_X4_clean_X4 hP rfl 3 (by decide) (by decide +kernel) (.ref (bd 4)) rfl rfl dX4_clean_66 ?_
            refine lv_iload_n hx hb dX4_clean_69 rfl (lv_at hl 2 rfl) ?_
            refine hm_lI G hP 4 (hm_gt (y)) 8 rfl (t) (nI_clamp (by omega)) (hs_inN (by omega) (by decide)) (nI (HM.gt (y) (t))) rfl dX4_clean_70 ?_
            refine hm_lL G hP 2 (HM.ck (y)) 4 rfl (HM.gt (y) (t)) (nI_clamp (by omega)) (hs_inN (by omega) (by decide)) (HM.ck (y) (HM.gt (y) (t))) rfl dX4_clean_71 ?_
            refine hs_callV (n := 2) (As := [.int (nI (i % 4)), .long (HM.ck (y) (HM.gt (y) (t)))]) (rest := []) G hml (r_receive l D cy bd ho (y) (show i % 4 < 4 by first | omega | exact hi) (HM.ck (y) (HM.gt (y) (t)))) gX4_clean_X4_receive rfl rfl rfl (by decide +kernel) ⟨Nat.le_of_ble_eq_true rfl, Nat.le_of_ble_eq_true rfl⟩ (q0 := 0) (ci := 4) (fs := hm_objL bd (y)) rfl rfl rfl rfl hl.1 (Nat.le_of_ble_eq_true rfl) ⟨Nat.zero_le _, Nat.zero_le _⟩ hP hS (fun _ h => h) rfl dX4_clean_72 (fun H locs hP hS _ _ => ?_)
            have hD := hm_D ho cy (HM.tk (y) (i % 4) (HM.ck (y) (HM.gt (y) (t))))
            refine lv_aload_n hx hb dX4_clean_75 rfl (lv_at hl 1 rfl) ?_
            refine lv_iload_n hx hb dX4_clean_76 rfl (lv_at hl 0 rfl) ?_
            refine hs_callV (n := 1) (As := [.int (nI i)]) (rest := []) G hml (r_settle l D cy bd ho (HM.tk (y) (i % 4) (HM.ck (y) (HM.gt (y) (t)))) (hi16) (ht) (hh) (hlen)) gX4_clean_X4_settle rfl rfl rfl (by decide +kernel) ⟨Nat.le_of_ble_eq_true rfl, Nat.le_of_ble_eq_true rfl⟩ (q0 := 0) (ci := 4) (fs := hm_objL bd (HM.tk (y) (i % 4) (HM.ck (y) (HM.gt (y) (t))))) rfl rfl rfl rfl hl.1 (Nat.le_of_ble_eq_true rfl) ⟨Nat.zero_le _, Nat.zero_le _⟩ hP hS (fun _ h => h) rfl dX4_clean_77 (fun H locs hP hS _ _ => ?_)
            have hD := hm_D ho cy (HM.stl (HM.tk (y) (i % 4) (HM.ck (y) (HM.gt (y) (t)))) (i) (t))
            refine lv_iinc (v := nI (i + 1)) (lv' := [(2, .int (nI (i + 1))), (0, .ref (bd 0)), (1, .int (nI t))]) hx hb dX4_clean_80 hl (k := 0) rfl (nI_1 i) (by decide) rfl (fun ls hl => ?_)
            refine lv_goto (tgt := 39) hx hb dX4_clean_83 (by decide) ?_
            have hck : y.clk t i = ((y.tk (i % 4) (y.ck (y.gt t))).stl i t) := if_pos hh
            exact ih (i + 1) (by omega) (y.clk t i) (C + 1) (hy.clk (by omega) ht hi16) (by omega) (by rw [← he, hs_cl_succ]) H locs (by rw [hck]; exact hP) hS ls (lv_sub hl [0, 1, 2] rfl)
    refine lv_iload_n hx hb dX4_clean_0 rfl (lv_at hl 1 rfl) ?_
    refine lv_if_lt (tgt := 10) hx hb dX4_clean_1 (by decide) (fun c_1 => ?_) (fun c_1 => ?_)
    · exact absurd c_1 (nI_pos (by omega))
    · refine lv_iload_n hx hb dX4_clean_4 rfl (lv_at hl 1 rfl) ?_
      refine lv_bipush (v := 7) hx hb dX4_clean_5 (by decide) ?_
      refine lv_icmp_le (tgt := 12) hx hb dX4_clean_7 (by decide) (fun c_2 => ?_) (fun c_2 => ?_)
      · refine lv_aload_n hx hb dX4_clean_12 rfl (lv_at hl 0 rfl) ?_
        refine hm_gf G in_X4_clean_X4 hP rfl 2 (by decide) (by decide +kernel) (.ref (bd 3)) rfl rfl dX4_clean_13 ?_
        refine lv_iload_n hx hb dX4_clean_16 rfl (lv_at hl 1 rfl) ?_
        refine hm_lI G hP 3 (HM.ph (x)) 8 rfl (t) (nI_clamp (by omega)) (hs_inN (by omega) (by decide)) (HM.ph (x) (t)) rfl dX4_clean_17 ?_
        refine lv_if_ne (tgt := 24) hx hb dX4_clean_18 (by decide) (fun c_3 => ?_) (fun c_3 => ?_)
        · refine lv_aload_n hx hb dX4_clean_24 rfl (lv_at hl 0 rfl) ?_
          refine hm_gf G in_X4_clean_X4 hP rfl 2 (by decide) (by decide +kernel) (.ref (bd 3)) rfl rfl dX4_clean_25 ?_
          refine lv_iload_n hx hb dX4_clean_28 rfl (lv_at hl 1 rfl) ?_
          refine hm_lI G hP 3 (HM.ph (x)) 8 rfl (t) (nI_clamp (by omega)) (hs_inN (by omega) (by decide)) (HM.ph (x) (t)) rfl dX4_clean_29 ?_
          refine lv_iconst (v := 1) hx hb dX4_clean_30 (by decide) ?_
          refine lv_icmp_ne (tgt := 37) hx hb dX4_clean_31 (by decide) (fun c_4 => ?_) (fun c_4 => ?_)
          · refine lv_iconst (v := 0) hx hb dX4_clean_37 (by decide) ?_
            refine lv_istore_n (lv' := [(2, .int (0)), (0, .ref (bd 0)), (1, .int (nI t))]) hx hb dX4_clean_38 rfl hl (by decide) rfl (fun ls hl => ?_)
            exact loop c_3 c_4 16 0 rfl x B hIn (by omega) rfl _ _ hP hS ls (lv_sub hl [0, 1, 2] rfl)
          · refine lv_bipush (v := (-9)) hx hb dX4_clean_34 (by decide) ?_
            exact ct_iret hx hb hr hlocks (by rw [if_neg c_3, if_pos c_4]) (by rw [if_neg c_3, if_pos c_4]; exact hP) hS dX4_clean_36
        · refine lv_bipush (v := (-4)) hx hb dX4_clean_21 (by decide) ?_
          exact ct_iret hx hb hr hlocks (by rw [if_pos c_3]) (by rw [if_pos c_3]; exact hP) hS dX4_clean_23
      · exact absurd (Int32.not_lt.mp (hs_le_in ht (by decide))) c_2
theorem in_X4_begin_X4 : ∀ w ∈ u_ws RX4 TX4 21, w ∈ wsX4_begin := by decide +kernel
set_option maxHeartbeats 4000000 in
set_option maxRecDepth 100000 in
/-- reference: r_begin -/
theorem r_begin (l : Launch) (D : va_G) (cy : Nat → ClassId) (bd : Nat → Nat) (ho : hm_ok bd) (x : HM) (B : Int) (hIn : x.In B) (hB : B + 200 < 4611686018427387904) (z : Int32) : Ct l yX4_begin wsX4_begin ({ frames := 2, cells := 0, slots := 0, locals := 48 }) D cy (hm_A bd) [.ref (bd 0), .int (z)] (hm_mem bd cy (x)) (some (.int (x.beginA z))) (hm_mem bd cy (x.beginM z)) := by
  rcases hs_rng z (b := 4) (by decide) with hz | ⟨i, hi, rfl⟩
  · refine ct_of (cc := cX4_begin) (maxL := 4) (ret := (some .int)) rfl (by decide) (Nat.le_of_ble_eq_true rfl) ?_
    intro p e s m below meth c ls G hx hb hml hr hlocks hP hS hl
    have hD := hm_D ho cy (x)
    have hl : lv_has ls 4 [(0, .ref (bd 0)), (1, .int (z))] := hl
    refine lv_iload_n hx hb dX4_begin_0 rfl (lv_at hl 1 rfl) ?_
    refine lv_if_lt (tgt := 9) hx hb dX4_begin_1 (by decide) (fun c_1 => ?_) (fun c_1 => ?_)
    · refine lv_iconst (v := (-1)) hx hb dX4_begin_9 (by decide) ?_
      exact ct_iret hx hb hr hlocks (by rw [HM.beginA, hs_n_out hz]) (by rw [HM.beginM, hs_n_out hz]; exact hP) hS dX4_begin_10
    · refine lv_iload_n hx hb dX4_begin_4 rfl (lv_at hl 1 rfl) ?_
      refine lv_iconst (v := 3) hx hb dX4_begin_5 (by decide) ?_
      refine lv_icmp_le (tgt := 11) hx hb dX4_begin_6 (by decide) (fun c_2 => ?_) (fun c_2 => ?_)
      · exact absurd c_2 (Int32.not_le.mpr (hs_gt_of hz c_1 (by decide)))
      · refine lv_iconst (v := (-1)) hx hb dX4_begin_9 (by decide) ?_
        exact ct_iret hx hb hr hlocks (by rw [HM.beginA, hs_n_out hz]) (by rw [HM.beginM, hs_n_out hz]; exact hP) hS dX4_begin_10
  · have eT := hs_n_in hi (show 4 < 2 ^ 31 by decide)
    have hI1 := hIn.ev (by omega) hi
    refine ct_of (cc := cX4_begin) (maxL := 4) (ret := (some .int)) rfl (by decide) (Nat.le_of_ble_eq_true rfl) ?_
    intro p e s m below meth c ls G hx hb hml hr hlocks hP hS hl
    have hD := hm_D ho cy (x)
    have hl : lv_has ls 4 [(0, .ref (bd 0)), (1, .int (nI i))] := hl
    have J34 : ∀ (t : Nat), t < 8 → hs_fr x.ph 8 0 = some t → ∀ ls : Array Slot, lv_has ls 4 [(2, .int (nI t)), (0, .ref (bd 0)), (1, .int (nI i))] → W p l e ({ frames := 2, cells := 0, slots := 0, locals := 48 }) s m [.ref (bd 0), .int (nI i)].toArray below meth c s.heap [] 0 0 (MQ below (hs_Post D (some (.int (x.beginA (nI i)))) (hm_mem bd cy (x.beginM (nI i))) (hm_A bd)) [.ref (bd 0), .int (nI i)].toArray s 0 0 (hm_A bd)) (F0 m 34 ls []) := by
      intro t ht hft ls hl
      have eA : x.beginA (nI i) = nI t := by rw [HM.beginA, eT, hft]
      have eB : x.beginM (nI i) = x.bgn i t := by rw [HM.beginM, eT, hft]
      rw [eA, eB]
      refine lv_iload_n hx hb dX4_begin_34 rfl (lv_at hl 0 rfl) ?_
      refine lv_bipush (v := 8) hx hb dX4_begin_35 (by decide) ?_
      refine lv_icmp_ne (tgt := 43) hx hb dX4_begin_37 (by decide) (fun c_1 => ?_) (fun c_1 => ?_)
      · refine lv_aload_n hx hb dX4_begin_43 rfl (lv_at hl 1 rfl) ?_
        refine lv_iload_n hx hb dX4_begin_44 rfl (lv_at hl 2 rfl) ?_
        refine hs_callV (n := 1) (As := [.int (nI i)]) (rest := []) G hml (r_event l D cy bd ho (x) (show i < 4 by first | omega | exact hi)) gX4_begin_X4_event rfl rfl rfl (by decide +kernel) ⟨Nat.le_of_ble_eq_true rfl, Nat.le_of_ble_eq_true rfl⟩ (q0 := 0) (ci := 4) (fs := hm_objL bd (x)) rfl rfl rfl rfl hl.1 (Nat.le_of_ble_eq_true rfl) ⟨Nat.zero_le _, Nat.zero_le _⟩ hP hS (fun _ h => h) rfl dX4_begin_45 (fun H locs hP hS _ _ => ?_)
        have hD := hm_D ho cy (HM.ev (x) (i))
        refine lv_aload_n hx hb dX4_begin_48 rfl (lv_at hl 1 rfl) ?_
        refine hm_gf G in_X4_begin_X4 hP rfl 2 (by decide) (by decide +kernel) (.ref (bd 3)) rfl rfl dX4_begin_49 ?_
        refine lv_iload_n hx hb dX4_begin_52 rfl (lv_at hl 0 rfl) ?_
        refine lv_iconst (v := 1) hx hb dX4_begin_53 (by decide) ?_
        refine hm_sI G hP hD hS 3 (HM.ph (HM.ev (x) (i))) 8 rfl (t) (nI_clamp (by omega)) (hs_inN (by omega) (by decide)) (hm_mem bd cy (HM.u_ph (HM.ev (x) (i)) (t) (1))) hm_s_ph dX4_begin_54 (fun H locs hP hD hS => ?_)
        refine lv_aload_n hx hb dX4_begin_55 rfl (lv_at hl 1 rfl) ?_
        refine hm_gf G in_X4_begin_X4 hP rfl 3 (by decide) (by decide +kernel) (.ref (bd 4)) rfl rfl dX4_begin_56 ?_
        refine lv_iload_n hx hb dX4_begin_59 rfl (lv_at hl 0 rfl) ?_
        refine lv_iload_n hx hb dX4_begin_60 rfl (lv_at hl 2 rfl) ?_
        refine hm_sI G hP hD hS 4 (hm_gt (HM.u_ph (HM.ev (x) (i)) (t) (1))) 8 rfl (t) (nI_clamp (by omega)) (hs_inN (by omega) (by decide)) (hm_mem bd cy (HM.u_gt (HM.u_ph (HM.ev (x) (i)) (t) (1)) (t) (i))) hm_s_gt dX4_begin_61 (fun H locs hP hD hS => ?_)
        refine lv_aload_n hx hb dX4_begin_62 rfl (lv_at hl 1 rfl) ?_
        refine hm_gf G in_X4_begin_X4 hP rfl 4 (by decide) (by decide +kernel) (.ref (bd 5)) rfl rfl dX4_begin_63 ?_
        refine lv_iload_n hx hb dX4_begin_66 rfl (lv_at hl 0 rfl) ?_
        refine lv_aload_n hx hb dX4_begin_67 rfl (lv_at hl 1 rfl) ?_
        refine hm_gf G in_X4_begin_X4 hP rfl 0 (by decide) (by decide +kernel) (.ref (bd 1)) rfl rfl dX4_begin_68 ?_
        refine lv_iload_n hx hb dX4_begin_71 rfl (lv_at hl 2 rfl) ?_
        refine hm_lI G hP 1 (HM.rd (HM.u_gt (HM.u_ph (HM.ev (x) (i)) (t) (1)) (t) (i))) 4 rfl (i) (nI_clamp (by omega)) (hs_inN (by omega) (by decide)) (HM.rd (HM.ev (x) (i)) (i)) rfl dX4_begin_72 ?_
        refine hm_sI G hP hD hS 5 (HM.bt (HM.u_gt (HM.u_ph (HM.ev (x) (i)) (t) (1)) (t) (i))) 8 rfl (t) (nI_clamp (by omega)) (hs_inN (by omega) (by decide)) (hm_mem bd cy (HM.u_bt (HM.u_gt (HM.u_ph (HM.ev (x) (i)) (t) (1)) (t) (i)) (t) (HM.rd (HM.ev (x) (i)) (i)))) hm_s_bt dX4_begin_73 (fun H locs hP hD hS => ?_)
        refine lv_aload_n hx hb dX4_begin_74 rfl (lv_at hl 1 rfl) ?_
        refine hm_gf G in_X4_begin_X4 hP rfl 5 (by decide) (by decide +kernel) (.ref (bd 6)) rfl rfl dX4_begin_75 ?_
        refine lv_iload_n hx hb dX4_begin_78 rfl (lv_at hl 0 rfl) ?_
        refine lv_aload_n hx hb dX4_begin_79 rfl (lv_at hl 1 rfl) ?_
        refine hm_gf G in_X4_begin_X4 hP rfl 11 (by decide) (by decide +kernel) (.long (lN (HM.bs (HM.u_bt (HM.u_gt (HM.u_ph (HM.ev (x) (i)) (t) (1)) (t) (i)) (t) (HM.rd (HM.ev (x) (i)) (i)))))) rfl rfl dX4_begin_80 ?_
        rw [show (lN (HM.bs (HM.u_bt (HM.u_gt (HM.u_ph (HM.ev (x) (i)) (t) (1)) (t) (i)) (t) (HM.rd (HM.ev (x) (i)) (i))))) = lN (HM.bs x) from rfl]
        refine hm_sL G hP hD hS 6 (hm_bi (HM.u_bt (HM.u_gt (HM.u_ph (HM.ev (x) (i)) (t) (1)) (t) (i)) (t) (HM.rd (HM.ev (x) (i)) (i)))) 8 rfl (t) (nI_clamp (by omega)) (hs_inN (by omega) (by decide)) (hm_mem bd cy (HM.u_bi (HM.u_bt (HM.u_gt (HM.u_ph (HM.ev (x) (i)) (t) (1)) (t) (i)) (t) (HM.rd (HM.ev (x) (i)) (i))) (t) (HM.bs x))) hm_s_bi dX4_begin_83 (fun H locs hP hD hS => ?_)
        refine lv_aload_n hx hb dX4_begin_84 rfl (lv_at hl 1 rfl) ?_
        refine lv_aload_n hx hb dX4_begin_85 rfl (lv_at hl 1 rfl) ?_
        refine hm_gf G in_X4_begin_X4 hP rfl 11 (by decide) (by decide +kernel) (.long (lN (HM.bs (HM.u_bi (HM.u_bt (HM.u_gt (HM.u_ph (HM.ev (x) (i)) (t) (1)) (t) (i)) (t) (HM.rd (HM.ev (x) (i)) (i))) (t) (HM.bs x))))) rfl rfl dX4_begin_86 ?_
        rw [show (lN (HM.bs (HM.u_bi (HM.u_bt (HM.u_gt (HM.u_ph (HM.ev (x) (i)) (t) (1)) (t) (i)) (t) (HM.rd (HM.ev (x) (i)) (i))) (t) (HM.bs x)))) = lN (HM.bs x) from rfl]
        refine lv_lconst (v := 1) hx hb dX4_begin_89 (by decide) ?_
        refine lv_ladd hx hb dX4_begin_90 ?_
        rw [show ((lN (HM.bs x) + 1)) = lN (HM.bs x + 1) from lN_1 _]
        refine hm_pf G in_X4_begin_X4 hP hD hS rfl 11 (by decide) (by decide +kernel) (.long (lN (HM.bs x + 1))) rfl rfl (.long) (by decide +kernel) rfl rfl (Nat.le_of_ble_eq_true rfl) (hm_mem bd cy (HM.s_bs (HM.u_bi (HM.u_bt (HM.u_gt (HM.u_ph (HM.ev (x) (i)) (t) (1)) (t) (i)) (t) (HM.rd (HM.ev (x) (i)) (i))) (t) (HM.bs x)) (HM.bs x + 1))) hm_s_bs dX4_begin_91 (fun H locs hP hD hS => ?_)
        refine lv_aload_n hx hb dX4_begin_94 rfl (lv_at hl 1 rfl) ?_
        refine hm_gf G in_X4_begin_X4 hP rfl 6 (by decide) (by decide +kernel) (.ref (bd 7)) rfl rfl dX4_begin_95 ?_
        refine lv_iload_n hx hb dX4_begin_98 rfl (lv_at hl 0 rfl) ?_
        refine lv_aload_n hx hb dX4_begin_99 rfl (lv_at hl 1 rfl) ?_
        refine hm_gf G in_X4_begin_X4 hP rfl 1 (by decide) (by decide +kernel) (.ref (bd 2)) rfl rfl dX4_begin_100 ?_
        refine lv_iload_n hx hb dX4_begin_103 rfl (lv_at hl 2 rfl) ?_
        refine hm_lL G hP 2 (HM.ck (HM.s_bs (HM.u_bi (HM.u_bt (HM.u_gt (HM.u_ph (HM.ev (x) (i)) (t) (1)) (t) (i)) (t) (HM.rd (HM.ev (x) (i)) (i))) (t) (HM.bs x)) (HM.bs x + 1))) 4 rfl (i) (nI_clamp (by omega)) (hs_inN (by omega) (by decide)) (HM.ck (HM.ev (x) (i)) (i)) rfl dX4_begin_104 ?_
        refine hm_sL G hP hD hS 7 (HM.rs (HM.s_bs (HM.u_bi (HM.u_bt (HM.u_gt (HM.u_ph (HM.ev (x) (i)) (t) (1)) (t) (i)) (t) (HM.rd (HM.ev (x) (i)) (i))) (t) (HM.bs x)) (HM.bs x + 1))) 8 rfl (t) (nI_clamp (by omega)) (hs_inN (by omega) (by decide)) (hm_mem bd cy (HM.u_rs (HM.s_bs (HM.u_bi (HM.u_bt (HM.u_gt (HM.u_ph (HM.ev (x) (i)) (t) (1)) (t) (i)) (t) (HM.rd (HM.ev (x) (i)) (i))) (t) (HM.bs x)) (HM.bs x + 1)) (t) (HM.ck (HM.ev (x) (i)) (i)))) hm_s_rs dX4_begin_105 (fun H locs hP hD hS => ?_)
        refine lv_aload_n hx hb dX4_begin_106 rfl (lv_at hl 1 rfl) ?_
        refine hm_gf G in_X4_begin_X4 hP rfl 7 (by decide) (by decide +kernel) (.ref (bd 8)) rfl rfl dX4_begin_107 ?_
        refine lv_iload_n hx hb dX4_begin_110 rfl (lv_at hl 0 rfl) ?_
        refine lv_aload_n hx hb dX4_begin_111 rfl (lv_at hl 1 rfl) ?_
        refine hm_gf G in_X4_begin_X4 hP rfl 1 (by decide) (by decide +kernel) (.ref (bd 2)) rfl rfl dX4_begin_112 ?_
        refine lv_iload_n hx hb dX4_begin_115 rfl (lv_at hl 2 rfl) ?_
        refine hm_lL G hP 2 (HM.ck (HM.u_rs (HM.s_bs (HM.u_bi (HM.u_bt (HM.u_gt (HM.u_ph (HM.ev (x) (i)) (t) (1)) (t) (i)) (t) (HM.rd (HM.ev (x) (i)) (i))) (t) (HM.bs x)) (HM.bs x + 1)) (t) (HM.ck (HM.ev (x) (i)) (i)))) 4 rfl (i) (nI_clamp (by omega)) (hs_inN (by omega) (by decide)) (HM.ck (HM.ev (x) (i)) (i)) rfl dX4_begin_116 ?_
        refine hm_sL G hP hD hS 8 (HM.ws (HM.u_rs (HM.s_bs (HM.u_bi (HM.u_bt (HM.u_gt (HM.u_ph (HM.ev (x) (i)) (t) (1)) (t) (i)) (t) (HM.rd (HM.ev (x) (i)) (i))) (t) (HM.bs x)) (HM.bs x + 1)) (t) (HM.ck (HM.ev (x) (i)) (i)))) 8 rfl (t) (nI_clamp (by omega)) (hs_inN (by omega) (by decide)) (hm_mem bd cy (HM.u_ws (HM.u_rs (HM.s_bs (HM.u_bi (HM.u_bt (HM.u_gt (HM.u_ph (HM.ev (x) (i)) (t) (1)) (t) (i)) (t) (HM.rd (HM.ev (x) (i)) (i))) (t) (HM.bs x)) (HM.bs x + 1)) (t) (HM.ck (HM.ev (x) (i)) (i))) (t) (HM.ck (HM.ev (x) (i)) (i)))) hm_s_ws dX4_begin_117 (fun H locs hP hD hS => ?_)
        refine lv_aload_n hx hb dX4_begin_118 rfl (lv_at hl 1 rfl) ?_
        refine hm_gf G in_X4_begin_X4 hP rfl 8 (by decide) (by decide +kernel) (.ref (bd 9)) rfl rfl dX4_begin_119 ?_
        refine lv_iload_n hx hb dX4_begin_122 rfl (lv_at hl 0 rfl) ?_
        refine lv_aload_n hx hb dX4_begin_123 rfl (lv_at hl 1 rfl) ?_
        refine hm_gf G in_X4_begin_X4 hP rfl 1 (by decide) (by decide +kernel) (.ref (bd 2)) rfl rfl dX4_begin_124 ?_
        refine lv_iload_n hx hb dX4_begin_127 rfl (lv_at hl 2 rfl) ?_
        refine hm_lL G hP 2 (HM.ck (HM.u_ws (HM.u_rs (HM.s_bs (HM.u_bi (HM.u_bt (HM.u_gt (HM.u_ph (HM.ev (x) (i)) (t) (1)) (t) (i)) (t) (HM.rd (HM.ev (x) (i)) (i))) (t) (HM.bs x)) (HM.bs x + 1)) (t) (HM.ck (HM.ev (x) (i)) (i))) (t) (HM.ck (HM.ev (x) (i)) (i)))) 4 rfl (i) (nI_clamp (by omega)) (hs_inN (by omega) (by decide)) (HM.ck (HM.ev (x) (i)) (i)) rfl dX4_begin_128 ?_
        refine lv_bipush (v := 20) hx hb dX4_begin_129 (by decide) ?_
        refine lv_lshr (v := (HM.ck (HM.ev (x) (i)) (i) >>> (Int32.toInt64 (20) &&& 63))) hx hb dX4_begin_131 rfl ?_
        refine lv_ldc2 (v := 10) hx hb G.2.2.2.1 (G.2.2.1 (.constantLong RX4 70 10) (by decide +kernel)) dX4_begin_132 ?_
        refine lv_ladd hx hb dX4_begin_135 ?_
        refine lv_bipush (v := 20) hx hb dX4_begin_136 (by decide) ?_
        refine lv_lshl (v := (((HM.ck (HM.ev (x) (i)) (i) >>> (Int32.toInt64 (20) &&& 63)) + 10) <<< (Int32.toInt64 (20) &&& 63))) hx hb dX4_begin_138 rfl ?_
        refine lv_ldc2 (v := 1048575) hx hb G.2.2.2.1 (G.2.2.1 (.constantLong RX4 89 1048575) (by decide +kernel)) dX4_begin_139 ?_
        refine lv_ladd hx hb dX4_begin_142 ?_
        rw [show (((((HM.ck (HM.ev (x) (i)) (i) >>> (Int32.toInt64 (20) &&& 63)) + 10) <<< (Int32.toInt64 (20) &&& 63)) + 1048575)) = ((HM.ck (HM.ev (x) (i)) (i) / 1048576 + 10) * 1048576 + 1048575) from hs_lim (hI1.ck hi).1]
        refine hm_sL G hP hD hS 9 (HM.lm (HM.u_ws (HM.u_rs (HM.s_bs (HM.u_bi (HM.u_bt (HM.u_gt (HM.u_ph (HM.ev (x) (i)) (t) (1)) (t) (i)) (t) (HM.rd (HM.ev (x) (i)) (i))) (t) (HM.bs x)) (HM.bs x + 1)) (t) (HM.ck (HM.ev (x) (i)) (i))) (t) (HM.ck (HM.ev (x) (i)) (i)))) 8 rfl (t) (nI_clamp (by omega)) (hs_inN (by omega) (by decide)) (hm_mem bd cy (HM.u_lm (HM.u_ws (HM.u_rs (HM.s_bs (HM.u_bi (HM.u_bt (HM.u_gt (HM.u_ph (HM.ev (x) (i)) (t) (1)) (t) (i)) (t) (HM.rd (HM.ev (x) (i)) (i))) (t) (HM.bs x)) (HM.bs x + 1)) (t) (HM.ck (HM.ev (x) (i)) (i))) (t) (HM.ck (HM.ev (x) (i)) (i))) (t) (((HM.ck (HM.ev (x) (i)) (i) / 1048576 + 10) * 1048576 + 1048575)))) hm_s_lm dX4_begin_143 (fun H locs hP hD hS => ?_)
        refine lv_aload_n hx hb dX4_begin_144 rfl (lv_at hl 1 rfl) ?_
        refine hm_gf G in_X4_begin_X4 hP rfl 9 (by decide) (by decide +kernel) (.ref (bd 10)) rfl rfl dX4_begin_145 ?_
        refine lv_iload_n hx hb dX4_begin_148 rfl (lv_at hl 0 rfl) ?_
        refine lv_iconst (v := 0) hx hb dX4_begin_149 (by decide) ?_
        refine hm_sZ G hP hD hS 10 (HM.hu (HM.u_lm (HM.u_ws (HM.u_rs (HM.s_bs (HM.u_bi (HM.u_bt (HM.u_gt (HM.u_ph (HM.ev (x) (i)) (t) (1)) (t) (i)) (t) (HM.rd (HM.ev (x) (i)) (i))) (t) (HM.bs x)) (HM.bs x + 1)) (t) (HM.ck (HM.ev (x) (i)) (i))) (t) (HM.ck (HM.ev (x) (i)) (i))) (t) (((HM.ck (HM.ev (x) (i)) (i) / 1048576 + 10) * 1048576 + 1048575)))) 8 rfl (t) (nI_clamp (by omega)) (hs_inN (by omega) (by decide)) (by decide) (hm_mem bd cy (HM.u_hu (HM.u_lm (HM.u_ws (HM.u_rs (HM.s_bs (HM.u_bi (HM.u_bt (HM.u_gt (HM.u_ph (HM.ev (x) (i)) (t) (1)) (t) (i)) (t) (HM.rd (HM.ev (x) (i)) (i))) (t) (HM.bs x)) (HM.bs x + 1)) (t) (HM.ck (HM.ev (x) (i)) (i))) (t) (HM.ck (HM.ev (x) (i)) (i))) (t) (((HM.ck (HM.ev (x) (i)) (i) / 1048576 + 10) * 1048576 + 1048575))) (t) (0))) hm_s_hu dX4_begin_150 (fun H locs hP hD hS => ?_)
        have hfin : HM.u_se (HM.u_hu (HM.u_lm (HM.u_ws (HM.u_rs (HM.s_bs (HM.u_bi (HM.u_bt (HM.u_gt (HM.u_ph (HM.ev (x) (i)) (t) (1)) (t) (i)) (t) (HM.rd (HM.ev (x) (i)) (i))) (t) (HM.bs x)) (HM.bs x + 1)) (t) (HM.ck (HM.ev (x) (i)) (i))) (t) (HM.ck (HM.ev (x) (i)) (i))) (t) (((HM.ck (HM.ev (x) (i)) (i) / 1048576 + 10) * 1048576 + 1048575))) (t) (0)) t (fun _ => false) = x.bgn i t := hs_beg_ref (x.ev i) t i x.bs ((x.ev i).rd i) ((x.ev i).ck i) (((x.ev i).ck i / 1048576 + 10) * 1048576 + 1048575) (fun _ => false)
        generalize HM.u_hu (HM.u_lm (HM.u_ws (HM.u_rs (HM.s_bs (HM.u_bi (HM.u_bt (HM.u_gt (HM.u_ph (HM.ev (x) (i)) (t) (1)) (t) (i)) (t) (HM.rd (HM.ev (x) (i)) (i))) (t) (HM.bs x)) (HM.bs x + 1)) (t) (HM.ck (HM.ev (x) (i)) (i))) (t) (HM.ck (HM.ev (x) (i)) (i))) (t) (((HM.ck (HM.ev (x) (i)) (i) / 1048576 + 10) * 1048576 + 1048575))) (t) (0) = y at hP hD hfin
        have loop : ∀ (n j : Nat), j + n = 16 → ∀ (H : Heap) (locs : List Loc), va_P D vwCl (hm_mem bd cy (y.ss t j)) H → va_S (hm_A bd) s.heap H locs → ∀ ls : Array Slot, lv_has ls 4 [(3, .int (nI j)), (2, .int (nI t)), (0, .ref (bd 0)), (1, .int (nI i))] → W p l e ({ frames := 2, cells := 0, slots := 0, locals := 48 }) s m [.ref (bd 0), .int (nI i)].toArray below meth c H locs 0 0 (MQ below (hs_Post D (some (.int (nI t))) (hm_mem bd cy (x.bgn i t)) (hm_A bd)) [.ref (bd 0), .int (nI i)].toArray s 0 0 (hm_A bd)) (F0 m 153 ls []) := by
          intro n
          induction n with
          | zero =>
            intro j hj H locs hP hS ls hl
            have hj16 : j = 16 := by omega
            subst hj16
            rw [hm_ss16, hfin] at hP
            refine lv_iload_n hx hb dX4_begin_153 rfl (lv_at hl 0 rfl) ?_
            refine lv_bipush (v := 16) hx hb dX4_begin_154 (by decide) ?_
            refine lv_icmp_ge (tgt := 177) hx hb dX4_begin_156 (by decide) (fun c_1 => ?_) (fun c_1 => ?_)
            · refine lv_iload_n hx hb dX4_begin_177 rfl (lv_at hl 1 rfl) ?_
              exact ct_iret hx hb hr hlocks rfl hP hS dX4_begin_178
            · exact absurd (show (16 : Int32) ≤ nI 16 by decide) c_1
          | succ n ih =>
            intro j hj H locs hP hS ls hl
            have hD := hm_D ho cy (y.ss t j)
            have hj16 : j < 16 := by omega
            refine lv_iload_n hx hb dX4_begin_153 rfl (lv_at hl 0 rfl) ?_
            refine lv_bipush (v := 16) hx hb dX4_begin_154 (by decide) ?_
            refine lv_icmp_ge (tgt := 177) hx hb dX4_begin_156 (by decide) (fun c_1 => ?_) (fun c_1 => ?_)
            · exact absurd c_1 (nI_ge (b := 16) (by omega) (by decide))
            · refine lv_aload_n hx hb dX4_begin_159 rfl (lv_at hl 2 rfl) ?_
              refine hm_gf G in_X4_begin_X4 hP rfl 10 (by decide) (by decide +kernel) (.ref (bd 11)) rfl rfl dX4_begin_160 ?_
              refine lv_iload_n hx hb dX4_begin_163 rfl (lv_at hl 1 rfl) ?_
              refine lv_bipush (v := 16) hx hb dX4_begin_164 (by decide) ?_
              refine lv_imul hx hb dX4_begin_166 ?_
              refine lv_iload_n hx hb dX4_begin_167 rfl (lv_at hl 0 rfl) ?_
              refine lv_iadd hx hb dX4_begin_168 ?_
              rw [show (((nI t * 16) + nI j)) = nI (t * 16 + j) from by rw [show (16 : Int32) = nI 16 from rfl, pk_mul, nI_add]]
              refine lv_iconst (v := 0) hx hb dX4_begin_169 (by decide) ?_
              refine hm_sZ G hP hD hS 11 (hm_se (HM.ss y t j)) 128 rfl (t * 16 + j) (nI_clamp (by omega)) (hs_inN (by omega) (by decide)) (by decide) (hm_mem bd cy (HM.u_se (HM.ss y t j) t (va_up (HM.se (HM.ss y t j) t) j false))) (hm_s_seF hj16) dX4_begin_170 (fun H locs hP hD hS => ?_)
              refine lv_iinc (v := nI (j + 1)) (lv' := [(3, .int (nI (j + 1))), (2, .int (nI t)), (0, .ref (bd 0)), (1, .int (nI i))]) hx hb dX4_begin_171 hl (k := 0) rfl (nI_1 j) (by decide) rfl (fun ls hl => ?_)
              refine lv_goto (tgt := 153) hx hb dX4_begin_174 (by decide) ?_
              exact ih (j + 1) (by omega) H locs (by rw [← hs_ss_succ]; exact hP) hS ls (lv_sub hl [0, 1, 2, 3] rfl)
        refine lv_iconst (v := 0) hx hb dX4_begin_151 (by decide) ?_
        refine lv_istore_n (lv' := [(3, .int (0)), (2, .int (nI t)), (0, .ref (bd 0)), (1, .int (nI i))]) hx hb dX4_begin_152 rfl hl (by decide) rfl (fun ls hl => ?_)
        exact loop 16 0 rfl H locs (by rw [hs_ss_0]; exact hP) hS ls (lv_sub hl [0, 1, 2, 3] rfl)
      · exact absurd c_1 (fun q => by have := (nI_eq (b := 8) (by omega) (by decide)).mp q; omega)
    have loop : ∀ (n j : Nat), j + n = 8 → hs_fr x.ph n j = hs_fr x.ph 8 0 → ∀ ls : Array Slot, lv_has ls 4 [(2, .int (nI j)), (0, .ref (bd 0)), (1, .int (nI i))] → W p l e ({ frames := 2, cells := 0, slots := 0, locals := 48 }) s m [.ref (bd 0), .int (nI i)].toArray below meth c s.heap [] 0 0 (MQ below (hs_Post D (some (.int (x.beginA (nI i)))) (hm_mem bd cy (x.beginM (nI i))) (hm_A bd)) [.ref (bd 0), .int (nI i)].toArray s 0 0 (hm_A bd)) (F0 m 13 ls []) := by
      intro n
      induction n with
      | zero =>
        intro j hj he ls hl
        have hft : hs_fr x.ph 8 0 = none := he.symm
        have hj8 : j = 8 := by omega
        subst hj8
        refine lv_iload_n hx hb dX4_begin_13 rfl (lv_at hl 0 rfl) ?_
        refine lv_bipush (v := 8) hx hb dX4_begin_14 (by decide) ?_
        refine lv_icmp_ge (tgt := 34) hx hb dX4_begin_16 (by decide) (fun c_1 => ?_) (fun c_1 => ?_)
        · refine lv_iload_n hx hb dX4_begin_34 rfl (lv_at hl 0 rfl) ?_
          refine lv_bipush (v := 8) hx hb dX4_begin_35 (by decide) ?_
          refine lv_icmp_ne (tgt := 43) hx hb dX4_begin_37 (by decide) (fun c_2 => ?_) (fun c_2 => ?_)
          · exact absurd rfl c_2
          · refine lv_bipush (v := (-3)) hx hb dX4_begin_40 (by decide) ?_
            exact ct_iret hx hb hr hlocks (by rw [HM.beginA, eT, hft]) (by rw [HM.beginM, eT, hft]; exact hP) hS dX4_begin_42
        · exact absurd (show (8 : Int32) ≤ nI 8 by decide) c_1
      | succ n ih =>
        intro j hj he ls hl
        refine lv_iload_n hx hb dX4_begin_13 rfl (lv_at hl 0 rfl) ?_
        refine lv_bipush (v := 8) hx hb dX4_begin_14 (by decide) ?_
        refine lv_icmp_ge (tgt := 34) hx hb dX4_begin_16 (by decide) (fun c_1 => ?_) (fun c_1 => ?_)
        · exact absurd c_1 (nI_ge (b := 8) (by omega) (by decide))
        · have hj8 : j < 8 := by omega
          refine lv_aload_n hx hb dX4_begin_19 rfl (lv_at hl 1 rfl) ?_
          refine hm_gf G in_X4_begin_X4 hP rfl 2 (by decide) (by decide +kernel) (.ref (bd 3)) rfl rfl dX4_begin_20 ?_
          refine lv_iload_n hx hb dX4_begin_23 rfl (lv_at hl 0 rfl) ?_
          refine hm_lI G hP 3 (HM.ph (x)) 8 rfl (j) (nI_clamp (by omega)) (hs_inN (by omega) (by decide)) (HM.ph (x) (j)) rfl dX4_begin_24 ?_
          refine lv_if_eq (tgt := 34) hx hb dX4_begin_25 (by decide) (fun c_2 => ?_) (fun c_2 => ?_)
          · exact J34 j hj8 (by rw [← he, hs_fr_succ, if_pos c_2]) ls (lv_sub hl [0, 1, 2] rfl)
          · refine lv_iinc (v := nI (j + 1)) (lv' := [(2, .int (nI (j + 1))), (0, .ref (bd 0)), (1, .int (nI i))]) hx hb dX4_begin_28 hl (k := 0) rfl (nI_1 j) (by decide) rfl (fun ls hl => ?_)
            refine lv_goto (tgt := 13) hx hb dX4_begin_31 (by decide) ?_
            exact ih (j + 1) (by omega) (by rw [← he, hs_fr_succ, if_neg c_2]) ls (lv_sub hl [0, 1, 2] rfl)
    refine lv_iload_n hx hb dX4_begin_0 rfl (lv_at hl 1 rfl) ?_
    refine lv_if_lt (tgt := 9) hx hb dX4_begin_1 (by decide) (fun c_1 => ?_) (fun c_1 => ?_)
    · exact absurd c_1 (nI_pos (by omega))
    · refine lv_iload_n hx hb dX4_begin_4 rfl (lv_at hl 1 rfl) ?_
      refine lv_iconst (v := 3) hx hb dX4_begin_5 (by decide) ?_
      refine lv_icmp_le (tgt := 11) hx hb dX4_begin_6 (by decide) (fun c_2 => ?_) (fun c_2 => ?_)
      · refine lv_iconst (v := 0) hx hb dX4_begin_11 (by decide) ?_
        refine lv_istore_n (lv' := [(2, .int (0)), (0, .ref (bd 0)), (1, .int (nI i))]) hx hb dX4_begin_12 rfl hl (by decide) rfl (fun ls hl => ?_)
        exact loop 8 0 rfl rfl ls (lv_sub hl [0, 1, 2] rfl)
      · exact absurd (Int32.not_lt.mp (hs_le_in hi (by decide))) c_2
end
section
/-! ===== laws for read, write, commit of the reference: the gateway stays, two pushes are one ===== -/
theorem hs_sil_gt (x : HM) (u : Nat) : (x.sil u).gt = x.gt := by unfold HM.sil; split <;> rfl
theorem hs_stl_gt (x : HM) (k u : Nat) : (x.stl k u).gt = x.gt := by unfold HM.stl; split <;> rfl
theorem hs_lk_gt (x : HM) (k u : Nat) : (x.lk k u).gt = x.gt := by
  have h : (x.lk3 k u).gt = x.gt := hs_sil_gt _ _
  unfold HM.lk
  split
  · exact h
  · rw [hs_stl_gt]; exact h
theorem hs_look_gt (x : HM) (t k : Nat) : (x.look t k).gt = x.gt := by
  unfold HM.look
  cases x.hd k with
  | none => rfl
  | some u => dsimp only; split
              · rfl
              · exact hs_lk_gt _ _ _
theorem hs_pu_gt (x : HM) (t : Nat) (s : Int64) : (x.pu t s).gt = x.gt := rfl
theorem hs_mv_gt (x : HM) (t : Nat) (s : Int64) : (x.mv t s).gt = x.gt := rfl
theorem hs_clr_gt (x : HM) (t n : Nat) : (x.clr t n).gt = x.gt := rfl
theorem hs_re_gt (x : HM) (t : Nat) (s : Int64) : (x.re t s).gt = x.gt := by unfold HM.re; rw [hs_mv_gt, hs_clr_gt]
theorem hs_lpR_gt (x : HM) (t k : Nat) : (x.lpR t k).gt = x.gt := by
  unfold HM.lpR
  cases x.lkU t k with
  | none => exact hs_look_gt _ _ _
  | some u => dsimp only; rw [hs_pu_gt]; exact hs_look_gt x t k
theorem hs_lpW_gt (x : HM) (t k : Nat) : (x.lpW t k).gt = x.gt := by
  unfold HM.lpW
  cases x.lkU t k with
  | none => exact hs_look_gt _ _ _
  | some u => dsimp only; rw [hs_pu_gt]; exact hs_look_gt x t k
theorem hs_rdN_gt (z : HM) (t k : Nat) : (z.rdN t k).gt = z.gt := rfl
theorem hs_rdX_gt (z : HM) (t k : Nat) : (z.rdX t k).gt = z.gt := by
  unfold HM.rdX
  cases hs_best (z.rs t) (z.lm t) (z.vk k) with
  | none => exact hs_rdN_gt _ _ _
  | some v => exact hs_re_gt _ _ _
theorem hs_rdM_gt (x : HM) (t k : Nat) : (x.rdM t k).gt = x.gt := by
  unfold HM.rdM
  split
  · rfl
  · rw [hs_rdX_gt, hs_lpR_gt]
theorem hs_u_hu_gt (x : HM) (t : Nat) (v : Int32) : (x.u_hu t v).gt = x.gt := rfl
theorem hs_wr1_gt (x : HM) (t k : Nat) : (x.wr1 t k).gt = x.gt := by
  unfold HM.wr1
  cases x.lkU t k with
  | none => exact hs_look_gt _ _ _
  | some u => dsimp only; rw [hs_u_hu_gt, hs_re_gt]; exact hs_look_gt x t k
theorem hs_wr3_gt (x : HM) (t k : Nat) (v : Int32) : (x.wr3 t k v).gt = x.gt := rfl
theorem hs_u_pl_gt (x : HM) (k : Nat) (v : Int32) : (x.u_pl k v).gt = x.gt := rfl
theorem hs_wrM_gt (x : HM) (t k : Nat) (v : Int32) : (x.wrM t k v).gt = x.gt := by
  unfold HM.wrM
  split
  · exact hs_u_pl_gt _ _ _
  · split
    · exact hs_look_gt _ _ _
    · split
      · exact hs_wr1_gt _ _ _
      · rw [hs_wr3_gt, hs_wr1_gt]
theorem hs_tk_gt (x : HM) (i : Nat) (s : Int64) : (x.tk i s).gt = x.gt := rfl
theorem hs_mk_gt (x : HM) (k : Nat) (s : Int64) : (x.mk k s).gt = x.gt := rfl
theorem hs_mr1_gt (x : HM) (t k : Nat) : (x.mr1 t k).gt = x.gt := by unfold HM.mr1; rw [hs_lpW_gt, hs_tk_gt]
theorem hs_mr2_gt (x : HM) (t k : Nat) : (x.mr2 t k).gt = x.gt := by
  unfold HM.mr2
  split
  · exact hs_mr1_gt _ _ _
  · rw [hs_mk_gt, hs_mr1_gt]
theorem hs_mrM_gt (x : HM) (t k : Nat) : (x.mrM t k).gt = x.gt := by unfold HM.mrM; rw [hs_tk_gt, hs_mr2_gt]
theorem hs_own {x : HM} {t k : Nat} (h : x.hd k = some t) : x.look t k = x ∧ x.lkU t k = none := by
  constructor
  · unfold HM.look; rw [h]; dsimp only; rw [if_pos rfl]
  · unfold HM.lkU; rw [h]; dsimp only; rw [if_pos rfl]
theorem hs_u_ws2 (x : HM) (t : Nat) (a b : Int64) : (x.u_ws t a).u_ws t b = x.u_ws t b := by
  show (x.s_ws (va_up x.ws t a)).s_ws (va_up (va_up x.ws t a) t b) = x.s_ws (va_up x.ws t b)
  rw [show (x.s_ws (va_up x.ws t a)).s_ws (va_up (va_up x.ws t a) t b) = x.s_ws (va_up (va_up x.ws t a) t b) from rfl]
  congr 1
  funext j
  by_cases e : j = t
  · subst e; rw [va_up_self, va_up_self]
  · rw [va_up_ne _ _ e, va_up_ne _ _ e, va_up_ne _ _ e]
theorem hs_u_ws_at (x : HM) (t : Nat) (a : Int64) : (x.u_ws t a).ws t = a := va_up_self _ _ _
theorem hs_pu2 {x : HM} {t : Nat} {a b : Int64} (ha : a.toInt < 4611686018427387904) (hb : b.toInt < 4611686018427387904) : (x.pu t a).pu t b = x.pu t (if a < b then b else a) := by
  have e1 := hs_toInt1 ha
  have e2 := hs_toInt1 hb
  unfold HM.pu
  rw [hs_u_ws_at, hs_u_ws2]
  congr 1
  by_cases c1 : x.ws t ≤ a
  · rw [if_pos c1]
    by_cases c2 : a < b
    · rw [if_pos c2]
      have h1 : a + 1 ≤ b := by rw [Int64.le_iff_toInt_le, e1]; have := Int64.lt_iff_toInt_lt.mp c2; omega
      have h2 : x.ws t ≤ b := by rw [Int64.le_iff_toInt_le]; have h3 := Int64.le_iff_toInt_le.mp c1; have h4 := Int64.lt_iff_toInt_lt.mp c2; omega
      rw [if_pos h1, if_pos h2]
    · rw [if_neg c2, if_pos c1]
      have h1 : ¬ a + 1 ≤ b := by rw [Int64.le_iff_toInt_le, e1]; have := Int64.le_iff_toInt_le.mp (Int64.not_lt.mp c2); omega
      rw [if_neg h1]
  · rw [if_neg c1]
    by_cases c2 : a < b
    · rw [if_pos c2]
    · rw [if_neg c2, if_neg c1]
      have h1 : ¬ x.ws t ≤ b := fun q => c1 (by rw [Int64.le_iff_toInt_le] at q ⊢; have := Int64.le_iff_toInt_le.mp (Int64.not_lt.mp c2); omega)
      rw [if_neg h1]
theorem hs_ix_neg {o : Option Nat} (h : ∀ u, o = some u → u < 2 ^ 31) : hs_ix o < 0 ↔ o = none := by
  cases o with
  | none => exact ⟨fun _ => rfl, fun _ => by decide⟩
  | some u => exact ⟨fun q => absurd q (nI_pos (h u rfl)), fun q => by cases q⟩
theorem HM.In.wr2' {y : HM} {B : Int} (h : y.In B) (hB2 : B + 1 < 4611686018427387904) {t k : Nat} (hk : k < 16) : y.wr2 t k = y.pu t (if y.lr k < hs_gs (hs_best (-1) 9223372036854775807 (y.vk k)) then hs_gs (hs_best (-1) 9223372036854775807 (y.vk k)) else y.lr k) := by
  unfold HM.wr2
  have e : (y.pu t (y.lr k)).vk k = y.vk k := rfl
  rw [e]
  exact hs_pu2 (by have := (h.lr hk).2; omega) (by have := (h.gs (-1) 9223372036854775807 k).2; omega)
theorem hs_birth {a b : Nat} (ha : a < 2 ^ 31) (hb : b < 2 ^ 31) : lN a < lN b ↔ a < b := lN_lt ha hb
theorem hm_se_at (x : HM) {t k : Nat} (hk : k < 16) : hm_se x (t * 16 + k) = if x.se t k then 1 else 0 := by
  unfold hm_se
  rw [show (t * 16 + k) / 16 = t by omega, show (t * 16 + k) % 16 = k by omega]
end
