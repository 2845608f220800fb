section
-- ===== PART A: goes FIRST, ahead of the names: the tables' words, and 'selects' of the private methods out of them =====
/-- a private method of a class that the tables say can be made, by its rows of tables_1 -/
def lw_okq (q : MethodName × Nat) : Prop := (q.1.cls ≠ "java/lang/invoke/MethodHandle" ∧ q.1.cls ≠ "java/lang/invoke/VarHandle") ∧ Cond.instantiable q.1.cls q.2 ∈ tables_1 ∧ Cond.privateMethod q.1 ∈ tables_1 ∧ Cond.instanceMethod q.1 ∈ tables_1
theorem lw_p0 : lw_okq (⟨"NumberRows2$BarredRows", "behindRowAt", "(J)J"⟩, 3) := ⟨⟨by decide +kernel, by decide +kernel⟩, List.mem_of_getElem? (i := 51) (by decide +kernel), List.mem_of_getElem? (i := 172) (by decide +kernel), List.mem_of_getElem? (i := 173) (by decide +kernel)⟩
theorem lw_p1 : lw_okq (⟨"java/lang/Throwable", "fillInStackTrace", "(I)Ljava/lang/Throwable;"⟩, 6) := ⟨⟨by decide +kernel, by decide +kernel⟩, List.mem_of_getElem? (i := 375) (by decide +kernel), List.mem_of_getElem? (i := 373) (by decide +kernel), List.mem_of_getElem? (i := 374) (by decide +kernel)⟩
theorem lw_p2 : lw_okq (⟨"NumberRows2Model", "free", "(I)J"⟩, 19) := ⟨⟨by decide +kernel, by decide +kernel⟩, List.mem_of_getElem? (i := 422) (by decide +kernel), List.mem_of_getElem? (i := 506) (by decide +kernel), List.mem_of_getElem? (i := 507) (by decide +kernel)⟩
theorem lw_p3 : lw_okq (⟨"NumberRows2Model", "barredTo", "(J)J"⟩, 19) := ⟨⟨by decide +kernel, by decide +kernel⟩, List.mem_of_getElem? (i := 422) (by decide +kernel), List.mem_of_getElem? (i := 510) (by decide +kernel), List.mem_of_getElem? (i := 511) (by decide +kernel)⟩
theorem lw_p4 : lw_okq (⟨"NumberRows2Model", "wasGiven", "(J)Z"⟩, 19) := ⟨⟨by decide +kernel, by decide +kernel⟩, List.mem_of_getElem? (i := 422) (by decide +kernel), List.mem_of_getElem? (i := 515) (by decide +kernel), List.mem_of_getElem? (i := 516) (by decide +kernel)⟩
theorem lw_p5 : lw_okq (⟨"NumberRows2Model", "check", "()I"⟩, 19) := ⟨⟨by decide +kernel, by decide +kernel⟩, List.mem_of_getElem? (i := 422) (by decide +kernel), List.mem_of_getElem? (i := 529) (by decide +kernel), List.mem_of_getElem? (i := 530) (by decide +kernel)⟩
theorem lw_p6 : lw_okq (⟨"NumberRows2Model", "sum", "(I)I"⟩, 19) := ⟨⟨by decide +kernel, by decide +kernel⟩, List.mem_of_getElem? (i := 422) (by decide +kernel), List.mem_of_getElem? (i := 533) (by decide +kernel), List.mem_of_getElem? (i := 534) (by decide +kernel)⟩
theorem lw_p7 : lw_okq (⟨"NumberRows2Model", "find", "(J)I"⟩, 19) := ⟨⟨by decide +kernel, by decide +kernel⟩, List.mem_of_getElem? (i := 422) (by decide +kernel), List.mem_of_getElem? (i := 559) (by decide +kernel), List.mem_of_getElem? (i := 560) (by decide +kernel)⟩
def lw_privs_1 : List (MethodName × Nat) := [(⟨"NumberRows2$BarredRows", "behindRowAt", "(J)J"⟩, 3), (⟨"java/lang/Throwable", "fillInStackTrace", "(I)Ljava/lang/Throwable;"⟩, 6), (⟨"NumberRows2Model", "free", "(I)J"⟩, 19), (⟨"NumberRows2Model", "barredTo", "(J)J"⟩, 19), (⟨"NumberRows2Model", "wasGiven", "(J)Z"⟩, 19), (⟨"NumberRows2Model", "check", "()I"⟩, 19), (⟨"NumberRows2Model", "sum", "(I)I"⟩, 19), (⟨"NumberRows2Model", "find", "(J)I"⟩, 19)]
theorem lw_r1 : ∀ q ∈ lw_privs_1, lw_okq q := List.forall_mem_cons.mpr ⟨lw_p0, List.forall_mem_cons.mpr ⟨lw_p1, List.forall_mem_cons.mpr ⟨lw_p2, List.forall_mem_cons.mpr ⟨lw_p3, List.forall_mem_cons.mpr ⟨lw_p4, List.forall_mem_cons.mpr ⟨lw_p5, List.forall_mem_cons.mpr ⟨lw_p6, List.forall_mem_cons.mpr ⟨lw_p7, fun _ h => absurd h List.not_mem_nil⟩⟩⟩⟩⟩⟩⟩⟩
def lw_privs : List (MethodName × Nat) := lw_privs_1
def lw_tbl : List Cond := k2_sels lw_privs ++ tables_1
theorem lw_privs_ok : ∀ q ∈ lw_privs, lw_okq q := lw_r1
end
section
/-! ===== BEGIN words of one list among another's, by their places ===== -/
theorem goodIn_r {big : List Cond} (ws : List Cond) (ps : List Nat) (hp : ws = ps.filterMap (fun i => big[i]?)) (h : ws.all goodWord = true) : GoodIn big ws := by
  intro w hw
  have h1 := List.all_eq_true.mp h w hw
  rw [hp] at hw
  obtain ⟨i, -, hi⟩ := List.mem_filterMap.mp hw
  have hm : w ∈ big := by first | exact List.mem_of_getElem? hi | exact List.getElem?_mem hi
  exact ⟨hm, good_of_word h1⟩
theorem goodIn_app {big a b : List Cond} (ha : GoodIn big a) (hb : GoodIn big b) : GoodIn big (a ++ b) := fun w h => (List.mem_append.mp h).elim (ha w) (hb w)
theorem goodIn_ca {big a b : List Cond} {c : Cond} (ha : GoodIn big (c :: a)) (hb : GoodIn big b) : GoodIn big (c :: (a ++ b)) := fun w h => (List.mem_cons.mp h).elim (fun e => ha w (List.mem_cons.mpr (Or.inl e))) (fun h => (List.mem_append.mp h).elim (fun h => ha w (List.mem_cons.mpr (Or.inr h))) (hb w))
theorem goodIn_sub {big ws : List Cond} (hm : ∀ w ∈ ws, w ∈ big) (h : ws.all goodWord = true) : GoodIn big ws := fun w hw => ⟨hm w hw, good_of_word (List.all_eq_true.mp h w hw)⟩
/-! ===== END ===== -/

/-! ===== BEGIN printed: names, fields, word lists, decode rows ===== -/
def RX0 : String := "NumberRows2$BarredRows"
def TX0 : u_T := fun k => match k with
  | 0 => ("NumberRows2$BarredRows", "firsts", "[J", true)
  | 1 => ("NumberRows2$BarredRows", "lasts", "[J", true)
  | _ => ("NumberRows2$BarredRows", "count", "I", false)
def tyX0 : Nat → FieldType := fun k => match k with
  | 0 => .array .long
  | 1 => .array .long
  | _ => .int
abbrev wsX00 : List Cond := u_ws RX0 TX0 3
theorem nmX0 : ∀ a, a < 3 → ∀ b, b < 3 → a ≠ b → (TX0 a).2.1 ≠ (TX0 b).2.1 := by decide +kernel
theorem tyX0_ok : ∀ k, k < 3 → parseFieldDescriptor (TX0 k).2.2.1 = some (tyX0 k) := by decide +kernel
abbrev cX0_init : ByteArray := prog_2_method_1_code
def yX0_init : MethodName := ⟨RX0, "<init>", "()V"⟩
abbrev cX0_isFull : ByteArray := prog_2_method_2_code
def yX0_isFull : MethodName := ⟨RX0, "isFull", "()Z"⟩
abbrev cX0_add : ByteArray := prog_2_method_3_code
def yX0_add : MethodName := ⟨RX0, "add", "(JJ)V"⟩
abbrev cX0_firstFree : ByteArray := prog_2_method_4_code
def yX0_firstFree : MethodName := ⟨RX0, "firstFree", "(J)J"⟩
abbrev cX0_behindRowAt : ByteArray := prog_2_method_5_code
def yX0_behindRowAt : MethodName := ⟨RX0, "behindRowAt", "(J)J"⟩
def RX1 : String := "NumberRows2$Blocks"
def TX1 : u_T := fun k => match k with
  | 0 => ("NumberRows2$Blocks", "offices", "[I", true)
  | 1 => ("NumberRows2$Blocks", "firsts", "[J", true)
  | 2 => ("NumberRows2$Blocks", "lasts", "[J", true)
  | 3 => ("NumberRows2$Blocks", "fresh", "[J", true)
  | _ => ("NumberRows2$Blocks", "count", "I", false)
def tyX1 : Nat → FieldType := fun k => match k with
  | 0 => .array .int
  | 1 => .array .long
  | 2 => .array .long
  | 3 => .array .long
  | _ => .int
abbrev wsX10 : List Cond := u_ws RX1 TX1 5
theorem nmX1 : ∀ a, a < 5 → ∀ b, b < 5 → a ≠ b → (TX1 a).2.1 ≠ (TX1 b).2.1 := by decide +kernel
theorem tyX1_ok : ∀ k, k < 5 → parseFieldDescriptor (TX1 k).2.2.1 = some (tyX1 k) := by decide +kernel
abbrev cX1_init : ByteArray := prog_3_method_1_code
def yX1_init : MethodName := ⟨RX1, "<init>", "()V"⟩
abbrev cX1_isFull : ByteArray := prog_3_method_2_code
def yX1_isFull : MethodName := ⟨RX1, "isFull", "()Z"⟩
abbrev cX1_touches : ByteArray := prog_3_method_3_code
def yX1_touches : MethodName := ⟨RX1, "touches", "(JJ)Z"⟩
abbrev cX1_add : ByteArray := prog_3_method_4_code
def yX1_add : MethodName := ⟨RX1, "add", "(IJJ)I"⟩
abbrev cX1_takeSerial : ByteArray := prog_3_method_5_code
def yX1_takeSerial : MethodName := ⟨RX1, "takeSerial", "(ILNumberRows2$BarredRows;)J"⟩
def RX2 : String := "NumberRows2$Form"
def TX2 : u_T := fun k => match k with
  | _ => ("", "", "", false)
def tyX2 : Nat → FieldType := fun k => match k with
  | _ => .int
abbrev wsX20 : List Cond := u_ws RX2 TX2 0
theorem nmX2 : ∀ a, a < 0 → ∀ b, b < 0 → a ≠ b → (TX2 a).2.1 ≠ (TX2 b).2.1 := by decide +kernel
theorem tyX2_ok : ∀ k, k < 0 → parseFieldDescriptor (TX2 k).2.2.1 = some (tyX2 k) := by decide +kernel
abbrev cX2_letterOf : ByteArray := prog_4_method_2_code
def yX2_letterOf : MethodName := ⟨RX2, "letterOf", "(I)I"⟩
abbrev cX2_valueOf : ByteArray := prog_4_method_3_code
def yX2_valueOf : MethodName := ⟨RX2, "valueOf", "(I)I"⟩
abbrev cX2_weighted : ByteArray := prog_4_method_4_code
def yX2_weighted : MethodName := ⟨RX2, "weighted", "(II)I"⟩
abbrev cX2_valueAt : ByteArray := prog_4_method_5_code
def yX2_valueAt : MethodName := ⟨RX2, "valueAt", "(JI)I"⟩
abbrev cX2_plainValueAt : ByteArray := prog_4_method_6_code
def yX2_plainValueAt : MethodName := ⟨RX2, "plainValueAt", "(JI)I"⟩
abbrev cX2_checkOf : ByteArray := prog_4_method_7_code
def yX2_checkOf : MethodName := ⟨RX2, "checkOf", "(J)I"⟩
abbrev cX2_canStand : ByteArray := prog_4_method_8_code
def yX2_canStand : MethodName := ⟨RX2, "canStand", "(III)Z"⟩
def RX3 : String := "NumberRows2$GivenNumbers"
def TX3 : u_T := fun k => match k with
  | 0 => ("NumberRows2$GivenNumbers", "numbers", "[J", true)
  | _ => ("NumberRows2$GivenNumbers", "count", "I", false)
def tyX3 : Nat → FieldType := fun k => match k with
  | 0 => .array .long
  | _ => .int
abbrev wsX30 : List Cond := u_ws RX3 TX3 2
theorem nmX3 : ∀ a, a < 2 → ∀ b, b < 2 → a ≠ b → (TX3 a).2.1 ≠ (TX3 b).2.1 := by decide +kernel
theorem tyX3_ok : ∀ k, k < 2 → parseFieldDescriptor (TX3 k).2.2.1 = some (tyX3 k) := by decide +kernel
abbrev cX3_init : ByteArray := prog_5_method_1_code
def yX3_init : MethodName := ⟨RX3, "<init>", "()V"⟩
abbrev cX3_isFull : ByteArray := prog_5_method_2_code
def yX3_isFull : MethodName := ⟨RX3, "isFull", "()Z"⟩
abbrev cX3_add : ByteArray := prog_5_method_3_code
def yX3_add : MethodName := ⟨RX3, "add", "(J)V"⟩
abbrev cX3_contains : ByteArray := prog_5_method_4_code
def yX3_contains : MethodName := ⟨RX3, "contains", "(J)Z"⟩
abbrev cX3_removeRow : ByteArray := prog_5_method_5_code
def yX3_removeRow : MethodName := ⟨RX3, "removeRow", "(JJ)I"⟩
def RX4 : String := "NumberRows2$Names"
def TX4 : u_T := fun k => match k with
  | 0 => ("NumberRows2$Names", "senders", "[I", true)
  | 1 => ("NumberRows2$Names", "references", "[J", true)
  | 2 => ("NumberRows2$Names", "numbers", "[J", true)
  | _ => ("NumberRows2$Names", "count", "I", false)
def tyX4 : Nat → FieldType := fun k => match k with
  | 0 => .array .int
  | 1 => .array .long
  | 2 => .array .long
  | _ => .int
abbrev wsX40 : List Cond := u_ws RX4 TX4 4
theorem nmX4 : ∀ a, a < 4 → ∀ b, b < 4 → a ≠ b → (TX4 a).2.1 ≠ (TX4 b).2.1 := by decide +kernel
theorem tyX4_ok : ∀ k, k < 4 → parseFieldDescriptor (TX4 k).2.2.1 = some (tyX4 k) := by decide +kernel
abbrev cX4_init : ByteArray := prog_6_method_1_code
def yX4_init : MethodName := ⟨RX4, "<init>", "()V"⟩
abbrev cX4_isFull : ByteArray := prog_6_method_2_code
def yX4_isFull : MethodName := ⟨RX4, "isFull", "()Z"⟩
abbrev cX4_numberOfReference : ByteArray := prog_6_method_3_code
def yX4_numberOfReference : MethodName := ⟨RX4, "numberOfReference", "(IJ)J"⟩
abbrev cX4_replace : ByteArray := prog_6_method_4_code
def yX4_replace : MethodName := ⟨RX4, "replace", "(IJJ)Z"⟩
abbrev cX4_add : ByteArray := prog_6_method_5_code
def yX4_add : MethodName := ⟨RX4, "add", "(IJJ)V"⟩
def RX5 : String := "NumberRows2$TypedText"
def TX5 : u_T := fun k => match k with
  | 0 => ("NumberRows2$TypedText", "characters", "[I", true)
  | _ => ("NumberRows2$TypedText", "length", "I", false)
def tyX5 : Nat → FieldType := fun k => match k with
  | 0 => .array .int
  | _ => .int
abbrev wsX50 : List Cond := u_ws RX5 TX5 2
theorem nmX5 : ∀ a, a < 2 → ∀ b, b < 2 → a ≠ b → (TX5 a).2.1 ≠ (TX5 b).2.1 := by decide +kernel
theorem tyX5_ok : ∀ k, k < 2 → parseFieldDescriptor (TX5 k).2.2.1 = some (tyX5 k) := by decide +kernel
abbrev cX5_init : ByteArray := prog_7_method_1_code
def yX5_init : MethodName := ⟨RX5, "<init>", "()V"⟩
abbrev cX5_add : ByteArray := prog_7_method_2_code
def yX5_add : MethodName := ⟨RX5, "add", "(I)V"⟩
abbrev cX5_clear : ByteArray := prog_7_method_3_code
def yX5_clear : MethodName := ⟨RX5, "clear", "()V"⟩
abbrev cX5_parse : ByteArray := prog_7_method_4_code
def yX5_parse : MethodName := ⟨RX5, "parse", "()J"⟩
def RX6 : String := "NumberRows2"
def TX6 : u_T := fun k => match k with
  | 0 => ("NumberRows2", "blocks", "LNumberRows2$Blocks;", true)
  | 1 => ("NumberRows2", "barredRows", "LNumberRows2$BarredRows;", true)
  | 2 => ("NumberRows2", "givenNumbers", "LNumberRows2$GivenNumbers;", true)
  | 3 => ("NumberRows2", "names", "LNumberRows2$Names;", true)
  | _ => ("NumberRows2", "typedText", "LNumberRows2$TypedText;", true)
def tyX6 : Nat → FieldType := fun k => match k with
  | 0 => .object "NumberRows2$Blocks"
  | 1 => .object "NumberRows2$BarredRows"
  | 2 => .object "NumberRows2$GivenNumbers"
  | 3 => .object "NumberRows2$Names"
  | _ => .object "NumberRows2$TypedText"
abbrev wsX60 : List Cond := u_ws RX6 TX6 5
theorem nmX6 : ∀ a, a < 5 → ∀ b, b < 5 → a ≠ b → (TX6 a).2.1 ≠ (TX6 b).2.1 := by decide +kernel
theorem tyX6_ok : ∀ k, k < 5 → parseFieldDescriptor (TX6 k).2.2.1 = some (tyX6 k) := by decide +kernel
abbrev cX6_init : ByteArray := prog_1_method_1_code
def yX6_init : MethodName := ⟨RX6, "<init>", "()V"⟩
abbrev cX6_block : ByteArray := prog_1_method_2_code
def yX6_block : MethodName := ⟨RX6, "block", "(IJJ)I"⟩
abbrev cX6_next : ByteArray := prog_1_method_3_code
def yX6_next : MethodName := ⟨RX6, "next", "(II)J"⟩
abbrev cX6_letter : ByteArray := prog_1_method_4_code
def yX6_letter : MethodName := ⟨RX6, "letter", "(JI)I"⟩
abbrev cX6_type : ByteArray := prog_1_method_5_code
def yX6_type : MethodName := ⟨RX6, "type", "(I)V"⟩
abbrev cX6_read : ByteArray := prog_1_method_6_code
def yX6_read : MethodName := ⟨RX6, "read", "()J"⟩
abbrev cX6_bar : ByteArray := prog_1_method_7_code
def yX6_bar : MethodName := ⟨RX6, "bar", "(JJ)I"⟩
abbrev cX6_given : ByteArray := prog_1_method_8_code
def yX6_given : MethodName := ⟨RX6, "given", "(J)Z"⟩
abbrev cX6_old : ByteArray := prog_1_method_9_code
def yX6_old : MethodName := ⟨RX6, "old", "(J)J"⟩
abbrev cX6_map : ByteArray := prog_1_method_10_code
def yX6_map : MethodName := ⟨RX6, "map", "(IJJ)I"⟩
abbrev cX6_named : ByteArray := prog_1_method_11_code
def yX6_named : MethodName := ⟨RX6, "named", "(IJ)J"⟩
abbrev cX6_isOffice : ByteArray := prog_1_method_12_code
def yX6_isOffice : MethodName := ⟨RX6, "isOffice", "(I)Z"⟩
abbrev cX6_isService : ByteArray := prog_1_method_13_code
def yX6_isService : MethodName := ⟨RX6, "isService", "(I)Z"⟩
abbrev cX6_isRowBelow : ByteArray := prog_1_method_14_code
def yX6_isRowBelow : MethodName := ⟨RX6, "isRowBelow", "(JJJ)Z"⟩
abbrev cX6_isNumber : ByteArray := prog_1_method_15_code
def yX6_isNumber : MethodName := ⟨RX6, "isNumber", "(J)Z"⟩
abbrev cX6_numberOf : ByteArray := prog_1_method_16_code
def yX6_numberOf : MethodName := ⟨RX6, "numberOf", "(IJ)J"⟩
abbrev cX6_serviceOf : ByteArray := prog_1_method_17_code
def yX6_serviceOf : MethodName := ⟨RX6, "serviceOf", "(J)J"⟩
abbrev cX6_serialOf : ByteArray := prog_1_method_18_code
def yX6_serialOf : MethodName := ⟨RX6, "serialOf", "(J)J"⟩
def RX7 : String := "NumberRows2Model"
def TX7 : u_T := fun k => match k with
  | 0 => ("NumberRows2Model", "thrown", "I", false)
  | 1 => ("NumberRows2Model", "blocks", "I", false)
  | 2 => ("NumberRows2Model", "offices", "[I", true)
  | 3 => ("NumberRows2Model", "froms", "[J", true)
  | 4 => ("NumberRows2Model", "tos", "[J", true)
  | 5 => ("NumberRows2Model", "barred", "I", false)
  | 6 => ("NumberRows2Model", "barFroms", "[J", true)
  | 7 => ("NumberRows2Model", "barTos", "[J", true)
  | 8 => ("NumberRows2Model", "gave", "I", false)
  | 9 => ("NumberRows2Model", "numbers", "[J", true)
  | 10 => ("NumberRows2Model", "gone", "[Z", true)
  | 11 => ("NumberRows2Model", "typed", "I", false)
  | 12 => ("NumberRows2Model", "signs", "[I", true)
  | 13 => ("NumberRows2Model", "names", "I", false)
  | 14 => ("NumberRows2Model", "senders", "[I", true)
  | 15 => ("NumberRows2Model", "references", "[J", true)
  | 16 => ("NumberRows2Model", "named", "[J", true)
  | 17 => ("NumberRows2Model", "letters", "[I", true)
  | _ => ("NumberRows2Model", "weights", "[I", true)
def tyX7 : Nat → FieldType := fun k => match k with
  | 0 => .int
  | 1 => .int
  | 2 => .array .int
  | 3 => .array .long
  | 4 => .array .long
  | 5 => .int
  | 6 => .array .long
  | 7 => .array .long
  | 8 => .int
  | 9 => .array .long
  | 10 => .array .boolean
  | 11 => .int
  | 12 => .array .int
  | 13 => .int
  | 14 => .array .int
  | 15 => .array .long
  | 16 => .array .long
  | 17 => .array .int
  | _ => .array .int
abbrev wsX70 : List Cond := u_ws RX7 TX7 19
theorem nmX7 : ∀ a, a < 19 → ∀ b, b < 19 → a ≠ b → (TX7 a).2.1 ≠ (TX7 b).2.1 := by decide +kernel
theorem tyX7_ok : ∀ k, k < 19 → parseFieldDescriptor (TX7 k).2.2.1 = some (tyX7 k) := by decide +kernel
abbrev cX7_init : ByteArray := prog_9_method_1_code
def yX7_init : MethodName := ⟨RX7, "<init>", "()V"⟩
abbrev cX7_thrown : ByteArray := prog_9_method_2_code
def yX7_thrown : MethodName := ⟨RX7, "thrown", "()I"⟩
abbrev cX7_isIn : ByteArray := prog_9_method_3_code
def yX7_isIn : MethodName := ⟨RX7, "isIn", "(JJJ)Z"⟩
abbrev cX7_block : ByteArray := prog_9_method_4_code
def yX7_block : MethodName := ⟨RX7, "block", "(IJJ)I"⟩
abbrev cX7_barredTo : ByteArray := prog_9_method_5_code
def yX7_barredTo : MethodName := ⟨RX7, "barredTo", "(J)J"⟩
abbrev cX7_wasGiven : ByteArray := prog_9_method_6_code
def yX7_wasGiven : MethodName := ⟨RX7, "wasGiven", "(J)Z"⟩
abbrev cX7_free : ByteArray := prog_9_method_7_code
def yX7_free : MethodName := ⟨RX7, "free", "(I)J"⟩
abbrev cX7_next : ByteArray := prog_9_method_8_code
def yX7_next : MethodName := ⟨RX7, "next", "(II)J"⟩
abbrev cX7_isNumber : ByteArray := prog_9_method_9_code
def yX7_isNumber : MethodName := ⟨RX7, "isNumber", "(J)Z"⟩
abbrev cX7_sign : ByteArray := prog_9_method_10_code
def yX7_sign : MethodName := ⟨RX7, "sign", "(I)I"⟩
abbrev cX7_sum : ByteArray := prog_9_method_11_code
def yX7_sum : MethodName := ⟨RX7, "sum", "(I)I"⟩
abbrev cX7_check : ByteArray := prog_9_method_12_code
def yX7_check : MethodName := ⟨RX7, "check", "()I"⟩
abbrev cX7_letter : ByteArray := prog_9_method_13_code
def yX7_letter : MethodName := ⟨RX7, "letter", "(JI)I"⟩
abbrev cX7_type : ByteArray := prog_9_method_14_code
def yX7_type : MethodName := ⟨RX7, "type", "(I)V"⟩
abbrev cX7_valueOf : ByteArray := prog_9_method_15_code
def yX7_valueOf : MethodName := ⟨RX7, "valueOf", "(I)I"⟩
abbrev cX7_read : ByteArray := prog_9_method_16_code
def yX7_read : MethodName := ⟨RX7, "read", "()J"⟩
abbrev cX7_bar : ByteArray := prog_9_method_17_code
def yX7_bar : MethodName := ⟨RX7, "bar", "(JJ)I"⟩
abbrev cX7_find : ByteArray := prog_9_method_18_code
def yX7_find : MethodName := ⟨RX7, "find", "(J)I"⟩
abbrev cX7_given : ByteArray := prog_9_method_19_code
def yX7_given : MethodName := ⟨RX7, "given", "(J)Z"⟩
abbrev cX7_old : ByteArray := prog_9_method_20_code
def yX7_old : MethodName := ⟨RX7, "old", "(J)J"⟩
abbrev cX7_map : ByteArray := prog_9_method_21_code
def yX7_map : MethodName := ⟨RX7, "map", "(IJJ)I"⟩
abbrev cX7_named : ByteArray := prog_9_method_22_code
def yX7_named : MethodName := ⟨RX7, "named", "(IJ)J"⟩
def RJx00060 : String := "java/lang/ArrayIndexOutOfBoundsException"
def TJx00060 : u_T := fun k => match k with
  | 0 => ("java/lang/Throwable", "cause", "Ljava/lang/Throwable;", false)
  | 1 => ("java/lang/Throwable", "stackTrace", "[Ljava/lang/StackTraceElement;", false)
  | 2 => ("java/lang/Throwable", "suppressedExceptions", "Ljava/util/List;", false)
  | 3 => ("java/lang/Throwable", "detailMessage", "Ljava/lang/String;", false)
  | 4 => ("java/lang/Throwable", "backtrace", "Ljava/lang/Object;", false)
  | _ => ("java/lang/Throwable", "depth", "I", false)
def tyJx00060 : Nat → FieldType := fun k => match k with
  | 0 => .object "java/lang/Throwable"
  | 1 => .array (.object "java/lang/StackTraceElement")
  | 2 => .object "java/util/List"
  | 3 => .object "java/lang/String"
  | 4 => .object "java/lang/Object"
  | _ => .int
abbrev wsJx000600 : List Cond := u_ws RJx00060 TJx00060 6
theorem nmJx00060 : ∀ a, a < 6 → ∀ b, b < 6 → a ≠ b → (TJx00060 a).2.1 ≠ (TJx00060 b).2.1 := by decide +kernel
theorem tyJx00060_ok : ∀ k, k < 6 → parseFieldDescriptor (TJx00060 k).2.2.1 = some (tyJx00060 k) := by decide +kernel
abbrev cJx00060_init_a7421 : ByteArray := prog_10_method_2_code
def yJx00060_init_a7421 : MethodName := ⟨RJx00060, "<init>", "(Ljava/lang/String;)V"⟩
def RJ0 : String := "java/lang/String"
def TJ0 : u_T := fun k => match k with
  | _ => ("", "", "", false)
def tyJ0 : Nat → FieldType := fun k => match k with
  | _ => .int
abbrev wsJ00 : List Cond := u_ws RJ0 TJ0 0
theorem nmJ0 : ∀ a, a < 0 → ∀ b, b < 0 → a ≠ b → (TJ0 a).2.1 ≠ (TJ0 b).2.1 := by decide +kernel
theorem tyJ0_ok : ∀ k, k < 0 → parseFieldDescriptor (TJ0 k).2.2.1 = some (tyJ0 k) := by decide +kernel
abbrev cJ0_charAt_5068e : ByteArray := prog_14_method_56_code
def yJ0_charAt_5068e : MethodName := ⟨RJ0, "charAt", "(I)C"⟩
abbrev cJ0_isLatin1_aae02 : ByteArray := prog_14_method_154_code
def yJ0_isLatin1_aae02 : MethodName := ⟨RJ0, "isLatin1", "()Z"⟩
abbrev cJ0_checkIndex_df160 : ByteArray := prog_14_method_155_code
def yJ0_checkIndex_df160 : MethodName := ⟨RJ0, "checkIndex", "(II)V"⟩
def RJ1 : String := "java/lang/StringLatin1"
def TJ1 : u_T := fun k => match k with
  | _ => ("", "", "", false)
def tyJ1 : Nat → FieldType := fun k => match k with
  | _ => .int
abbrev wsJ10 : List Cond := u_ws RJ1 TJ1 0
theorem nmJ1 : ∀ a, a < 0 → ∀ b, b < 0 → a ≠ b → (TJ1 a).2.1 ≠ (TJ1 b).2.1 := by decide +kernel
theorem tyJ1_ok : ∀ k, k < 0 → parseFieldDescriptor (TJ1 k).2.2.1 = some (tyJ1 k) := by decide +kernel
abbrev cJ1_charAt_3b067 : ByteArray := prog_15_method_2_code
def yJ1_charAt_3b067 : MethodName := ⟨RJ1, "charAt", "([BI)C"⟩
def RJ2 : String := "java/lang/StringUTF16"
def TJ2 : u_T := fun k => match k with
  | _ => ("", "", "", false)
def tyJ2 : Nat → FieldType := fun k => match k with
  | _ => .int
abbrev wsJ20 : List Cond := u_ws RJ2 TJ2 0
theorem nmJ2 : ∀ a, a < 0 → ∀ b, b < 0 → a ≠ b → (TJ2 a).2.1 ≠ (TJ2 b).2.1 := by decide +kernel
theorem tyJ2_ok : ∀ k, k < 0 → parseFieldDescriptor (TJ2 k).2.2.1 = some (tyJ2 k) := by decide +kernel
abbrev cJ2_getChar_3b067 : ByteArray := prog_16_method_5_code
def yJ2_getChar_3b067 : MethodName := ⟨RJ2, "getChar", "([BI)C"⟩
abbrev cJ2_length_9d52b : ByteArray := prog_16_method_6_code
def yJ2_length_9d52b : MethodName := ⟨RJ2, "length", "([B)I"⟩
abbrev cJ2_charAt_3b067 : ByteArray := prog_16_method_83_code
def yJ2_charAt_3b067 : MethodName := ⟨RJ2, "charAt", "([BI)C"⟩
abbrev cJ2_checkIndex_2214a : ByteArray := prog_16_method_91_code
def yJ2_checkIndex_2214a : MethodName := ⟨RJ2, "checkIndex", "(I[B)V"⟩
def RJ3 : String := "jdk/internal/util/Preconditions"
def TJ3 : u_T := fun k => match k with
  | _ => ("", "", "", false)
def tyJ3 : Nat → FieldType := fun k => match k with
  | _ => .int
abbrev wsJ30 : List Cond := u_ws RJ3 TJ3 0
theorem nmJ3 : ∀ a, a < 0 → ∀ b, b < 0 → a ≠ b → (TJ3 a).2.1 ≠ (TJ3 b).2.1 := by decide +kernel
theorem tyJ3_ok : ∀ k, k < 0 → parseFieldDescriptor (TJ3 k).2.2.1 = some (tyJ3 k) := by decide +kernel
abbrev cJ3_checkIndex_8e157 : ByteArray := prog_18_method_11_code
def yJ3_checkIndex_8e157 : MethodName := ⟨RJ3, "checkIndex", "(IILjava/util/function/BiFunction;)I"⟩
def RL : String := "NumberRows2Law"
abbrev cL_letter : ByteArray := method_3_code
def yL_letter : MethodName := ⟨RL, "letter", "(LNumberRows2;JI[J)I"⟩
abbrev cL_law : ByteArray := code
def yL_law : MethodName := ⟨RL, "law", "([I)Z"⟩
def wsX0_init : List Cond := .code yX0_init cX0_init 1 none :: ([.methodLink RX0 3 objectInit, .instanceMethod objectInit, .code objectInit ⟨#[0xb1]⟩ 1 none, .arrayClass .long, .fieldLink RX0 9 "NumberRows2$BarredRows" "firsts" "[J", .fieldLink RX0 15 "NumberRows2$BarredRows" "lasts" "[J", .fieldLink RX0 18 "NumberRows2$BarredRows" "count" "I"] ++ wsX00)
def wsX0_isFull : List Cond := .code yX0_isFull cX0_isFull 1 (some .boolean) :: ([.fieldLink RX0 18 "NumberRows2$BarredRows" "count" "I"] ++ wsX00)
def wsX0_add : List Cond := .code yX0_add cX0_add 5 none :: ([.fieldLink RX0 18 "NumberRows2$BarredRows" "count" "I", .fieldLink RX0 9 "NumberRows2$BarredRows" "firsts" "[J", .fieldLink RX0 15 "NumberRows2$BarredRows" "lasts" "[J"] ++ wsX00)
def wsX0_behindRowAt : List Cond := .code yX0_behindRowAt cX0_behindRowAt 4 (some .long) :: ([.fieldLink RX0 18 "NumberRows2$BarredRows" "count" "I", .fieldLink RX0 9 "NumberRows2$BarredRows" "firsts" "[J", .fieldLink RX0 15 "NumberRows2$BarredRows" "lasts" "[J"] ++ wsX00)
def wsX0_firstFree : List Cond := .code yX0_firstFree cX0_firstFree 8 (some .long) :: ([.fieldLink RX0 18 "NumberRows2$BarredRows" "count" "I", .methodLink RX0 22 yX0_behindRowAt, .instanceMethod yX0_behindRowAt, .selects RX0 yX0_behindRowAt yX0_behindRowAt, .initialized RX0, .code yX0_behindRowAt cX0_behindRowAt 4 (some .long), .fieldLink RX0 9 "NumberRows2$BarredRows" "firsts" "[J", .fieldLink RX0 15 "NumberRows2$BarredRows" "lasts" "[J"] ++ wsX00)
def wsX1_init : List Cond := .code yX1_init cX1_init 1 none :: ([.methodLink RX1 3 objectInit, .instanceMethod objectInit, .code objectInit ⟨#[0xb1]⟩ 1 none, .arrayClass .int, .fieldLink RX1 9 "NumberRows2$Blocks" "offices" "[I", .arrayClass .long, .fieldLink RX1 15 "NumberRows2$Blocks" "firsts" "[J", .fieldLink RX1 19 "NumberRows2$Blocks" "lasts" "[J", .fieldLink RX1 22 "NumberRows2$Blocks" "fresh" "[J", .fieldLink RX1 25 "NumberRows2$Blocks" "count" "I"] ++ wsX10)
def wsX1_isFull : List Cond := .code yX1_isFull cX1_isFull 1 (some .boolean) :: ([.fieldLink RX1 25 "NumberRows2$Blocks" "count" "I"] ++ wsX10)
def wsX1_touches : List Cond := .code yX1_touches cX1_touches 6 (some .boolean) :: ([.fieldLink RX1 25 "NumberRows2$Blocks" "count" "I", .fieldLink RX1 19 "NumberRows2$Blocks" "lasts" "[J", .fieldLink RX1 15 "NumberRows2$Blocks" "firsts" "[J"] ++ wsX10)
def wsX1_add : List Cond := .code yX1_add cX1_add 6 (some .int) :: ([.fieldLink RX1 25 "NumberRows2$Blocks" "count" "I", .fieldLink RX1 9 "NumberRows2$Blocks" "offices" "[I", .fieldLink RX1 15 "NumberRows2$Blocks" "firsts" "[J", .fieldLink RX1 19 "NumberRows2$Blocks" "lasts" "[J", .fieldLink RX1 22 "NumberRows2$Blocks" "fresh" "[J"] ++ wsX10)
def wsX1_takeSerial : List Cond := .code yX1_takeSerial cX1_takeSerial 6 (some .long) :: ([.fieldLink RX1 25 "NumberRows2$Blocks" "count" "I", .fieldLink RX1 9 "NumberRows2$Blocks" "offices" "[I", .fieldLink RX1 22 "NumberRows2$Blocks" "fresh" "[J", .fieldLink RX1 19 "NumberRows2$Blocks" "lasts" "[J", .constantLong RX1 35 (-1), .methodLink RX1 29 yX0_firstFree, .instanceMethod yX0_firstFree, .selects RX0 yX0_firstFree yX0_firstFree, .initialized RX0, .code yX0_firstFree cX0_firstFree 8 (some .long), .fieldLink RX0 18 "NumberRows2$BarredRows" "count" "I", .methodLink RX0 22 yX0_behindRowAt, .instanceMethod yX0_behindRowAt, .selects RX0 yX0_behindRowAt yX0_behindRowAt, .code yX0_behindRowAt cX0_behindRowAt 4 (some .long), .fieldLink RX0 9 "NumberRows2$BarredRows" "firsts" "[J", .fieldLink RX0 15 "NumberRows2$BarredRows" "lasts" "[J"] ++ wsX10 ++ wsX00)
def wsJ0_isLatin1_aae02 : List Cond := .code yJ0_isLatin1_aae02 cJ0_isLatin1_aae02 1 (some .boolean) :: ([.fieldLink RJ0 38 "java/lang/String" "COMPACT_STRINGS" "Z", .fieldLink RJ0 15 "java/lang/String" "coder" "B"])
def wsJ3_checkIndex_8e157 : List Cond := .code yJ3_checkIndex_8e157 cJ3_checkIndex_8e157 3 (some .int) :: ([])
def wsJ0_checkIndex_df160 : List Cond := .code yJ0_checkIndex_df160 cJ0_checkIndex_df160 2 none :: ([.fieldLink RJ0 1053 "jdk/internal/util/Preconditions" "SIOOBE_FORMATTER" "Ljava/util/function/BiFunction;", .methodLink RJ0 1059 yJ3_checkIndex_8e157, .static yJ3_checkIndex_8e157, .initialized RJ3, .code yJ3_checkIndex_8e157 cJ3_checkIndex_8e157 3 (some .int)])
def wsJ1_charAt_3b067 : List Cond := .code yJ1_charAt_3b067 cJ1_charAt_3b067 2 (some .char) :: ([.methodLink RJ1 9 yJ0_checkIndex_df160, .static yJ0_checkIndex_df160, .initialized RJ0, .code yJ0_checkIndex_df160 cJ0_checkIndex_df160 2 none, .fieldLink RJ0 1053 "jdk/internal/util/Preconditions" "SIOOBE_FORMATTER" "Ljava/util/function/BiFunction;", .methodLink RJ0 1059 yJ3_checkIndex_8e157, .static yJ3_checkIndex_8e157, .initialized RJ3, .code yJ3_checkIndex_8e157 cJ3_checkIndex_8e157 3 (some .int)])
def wsJ2_length_9d52b : List Cond := .code yJ2_length_9d52b cJ2_length_9d52b 1 (some .int) :: ([])
def wsJ2_checkIndex_2214a : List Cond := .code yJ2_checkIndex_2214a cJ2_checkIndex_2214a 2 none :: ([.methodLink RJ2 48 yJ2_length_9d52b, .static yJ2_length_9d52b, .initialized RJ2, .code yJ2_length_9d52b cJ2_length_9d52b 1 (some .int), .methodLink RJ2 414 yJ0_checkIndex_df160, .static yJ0_checkIndex_df160, .initialized RJ0, .code yJ0_checkIndex_df160 cJ0_checkIndex_df160 2 none, .fieldLink RJ0 1053 "jdk/internal/util/Preconditions" "SIOOBE_FORMATTER" "Ljava/util/function/BiFunction;", .methodLink RJ0 1059 yJ3_checkIndex_8e157, .static yJ3_checkIndex_8e157, .initialized RJ3, .code yJ3_checkIndex_8e157 cJ3_checkIndex_8e157 3 (some .int)])
def wsJ2_getChar_3b067 : List Cond := .code yJ2_getChar_3b067 cJ2_getChar_3b067 2 (some .char) :: ([.fieldLink RJ2 44 "java/lang/StringUTF16" "$assertionsDisabled" "Z", .fieldLink RJ2 59 "java/lang/StringUTF16" "HI_BYTE_SHIFT" "I", .fieldLink RJ2 63 "java/lang/StringUTF16" "LO_BYTE_SHIFT" "I", .methodLink RJ2 48 yJ2_length_9d52b, .static yJ2_length_9d52b, .initialized RJ2, .code yJ2_length_9d52b cJ2_length_9d52b 1 (some .int)])
def wsJ2_charAt_3b067 : List Cond := .code yJ2_charAt_3b067 cJ2_charAt_3b067 2 (some .char) :: ([.methodLink RJ2 67 yJ2_checkIndex_2214a, .static yJ2_checkIndex_2214a, .initialized RJ2, .code yJ2_checkIndex_2214a cJ2_checkIndex_2214a 2 none, .methodLink RJ2 48 yJ2_length_9d52b, .static yJ2_length_9d52b, .code yJ2_length_9d52b cJ2_length_9d52b 1 (some .int), .methodLink RJ2 414 yJ0_checkIndex_df160, .static yJ0_checkIndex_df160, .initialized RJ0, .code yJ0_checkIndex_df160 cJ0_checkIndex_df160 2 none, .fieldLink RJ0 1053 "jdk/internal/util/Preconditions" "SIOOBE_FORMATTER" "Ljava/util/function/BiFunction;", .methodLink RJ0 1059 yJ3_checkIndex_8e157, .static yJ3_checkIndex_8e157, .initialized RJ3, .code yJ3_checkIndex_8e157 cJ3_checkIndex_8e157 3 (some .int), .methodLink RJ2 71 yJ2_getChar_3b067, .static yJ2_getChar_3b067, .code yJ2_getChar_3b067 cJ2_getChar_3b067 2 (some .char), .fieldLink RJ2 44 "java/lang/StringUTF16" "$assertionsDisabled" "Z", .fieldLink RJ2 59 "java/lang/StringUTF16" "HI_BYTE_SHIFT" "I", .fieldLink RJ2 63 "java/lang/StringUTF16" "LO_BYTE_SHIFT" "I"])
def wsJ0_charAt_5068e_r1 : List Cond := [Cond.fieldLink RJ0 9 "java/lang/String" "value" "[B", Cond.methodLink RJ0 492 yJ0_isLatin1_aae02, Cond.instanceMethod yJ0_isLatin1_aae02, Cond.selects RJ0 yJ0_isLatin1_aae02 yJ0_isLatin1_aae02, Cond.initialized RJ0, Cond.code yJ0_isLatin1_aae02 cJ0_isLatin1_aae02 1 (some .boolean), Cond.fieldLink RJ0 38 "java/lang/String" "COMPACT_STRINGS" "Z", Cond.fieldLink RJ0 15 "java/lang/String" "coder" "B", Cond.methodLink RJ0 495 yJ1_charAt_3b067, Cond.static yJ1_charAt_3b067, Cond.initialized RJ1, Cond.code yJ1_charAt_3b067 cJ1_charAt_3b067 2 (some .char), Cond.methodLink RJ1 9 yJ0_checkIndex_df160, Cond.static yJ0_checkIndex_df160, Cond.code yJ0_checkIndex_df160 cJ0_checkIndex_df160 2 none, Cond.fieldLink RJ0 1053 "jdk/internal/util/Preconditions" "SIOOBE_FORMATTER" "Ljava/util/function/BiFunction;", Cond.methodLink RJ0 1059 yJ3_checkIndex_8e157, Cond.static yJ3_checkIndex_8e157, Cond.initialized RJ3, Cond.code yJ3_checkIndex_8e157 cJ3_checkIndex_8e157 3 (some .int), Cond.methodLink RJ0 498 yJ2_charAt_3b067, Cond.static yJ2_charAt_3b067, Cond.initialized RJ2, Cond.code yJ2_charAt_3b067 cJ2_charAt_3b067 2 (some .char)]
def wsJ0_charAt_5068e_r2 : List Cond := [Cond.methodLink RJ2 67 yJ2_checkIndex_2214a, Cond.static yJ2_checkIndex_2214a, Cond.code yJ2_checkIndex_2214a cJ2_checkIndex_2214a 2 none, Cond.methodLink RJ2 48 yJ2_length_9d52b, Cond.static yJ2_length_9d52b, Cond.code yJ2_length_9d52b cJ2_length_9d52b 1 (some .int), Cond.methodLink RJ2 414 yJ0_checkIndex_df160, Cond.methodLink RJ2 71 yJ2_getChar_3b067, Cond.static yJ2_getChar_3b067, Cond.code yJ2_getChar_3b067 cJ2_getChar_3b067 2 (some .char), Cond.fieldLink RJ2 44 "java/lang/StringUTF16" "$assertionsDisabled" "Z", Cond.fieldLink RJ2 59 "java/lang/StringUTF16" "HI_BYTE_SHIFT" "I", Cond.fieldLink RJ2 63 "java/lang/StringUTF16" "LO_BYTE_SHIFT" "I"]
def wsJ0_charAt_5068e : List Cond := .code yJ0_charAt_5068e cJ0_charAt_5068e 2 (some .char) :: ((wsJ0_charAt_5068e_r1 ++ wsJ0_charAt_5068e_r2))
def wsX2_letterOf_r1 : List Cond := [Cond.methodLink RX2 13 yJ0_charAt_5068e, Cond.instanceMethod yJ0_charAt_5068e, Cond.selects RJ0 yJ0_charAt_5068e yJ0_charAt_5068e, Cond.initialized RJ0, Cond.code yJ0_charAt_5068e cJ0_charAt_5068e 2 (some .char), Cond.fieldLink RJ0 9 "java/lang/String" "value" "[B", Cond.methodLink RJ0 492 yJ0_isLatin1_aae02, Cond.instanceMethod yJ0_isLatin1_aae02, Cond.selects RJ0 yJ0_isLatin1_aae02 yJ0_isLatin1_aae02, Cond.code yJ0_isLatin1_aae02 cJ0_isLatin1_aae02 1 (some .boolean), Cond.fieldLink RJ0 38 "java/lang/String" "COMPACT_STRINGS" "Z", Cond.fieldLink RJ0 15 "java/lang/String" "coder" "B", Cond.methodLink RJ0 495 yJ1_charAt_3b067, Cond.static yJ1_charAt_3b067, Cond.initialized RJ1, Cond.code yJ1_charAt_3b067 cJ1_charAt_3b067 2 (some .char), Cond.methodLink RJ1 9 yJ0_checkIndex_df160, Cond.static yJ0_checkIndex_df160, Cond.code yJ0_checkIndex_df160 cJ0_checkIndex_df160 2 none, Cond.fieldLink RJ0 1053 "jdk/internal/util/Preconditions" "SIOOBE_FORMATTER" "Ljava/util/function/BiFunction;", Cond.methodLink RJ0 1059 yJ3_checkIndex_8e157, Cond.static yJ3_checkIndex_8e157, Cond.initialized RJ3, Cond.code yJ3_checkIndex_8e157 cJ3_checkIndex_8e157 3 (some .int)]
def wsX2_letterOf_r2 : List Cond := [Cond.methodLink RJ0 498 yJ2_charAt_3b067, Cond.static yJ2_charAt_3b067, Cond.initialized RJ2, Cond.code yJ2_charAt_3b067 cJ2_charAt_3b067 2 (some .char), Cond.methodLink RJ2 67 yJ2_checkIndex_2214a, Cond.static yJ2_checkIndex_2214a, Cond.code yJ2_checkIndex_2214a cJ2_checkIndex_2214a 2 none, Cond.methodLink RJ2 48 yJ2_length_9d52b, Cond.static yJ2_length_9d52b, Cond.code yJ2_length_9d52b cJ2_length_9d52b 1 (some .int), Cond.methodLink RJ2 414 yJ0_checkIndex_df160, Cond.methodLink RJ2 71 yJ2_getChar_3b067, Cond.static yJ2_getChar_3b067, Cond.code yJ2_getChar_3b067 cJ2_getChar_3b067 2 (some .char), Cond.fieldLink RJ2 44 "java/lang/StringUTF16" "$assertionsDisabled" "Z", Cond.fieldLink RJ2 59 "java/lang/StringUTF16" "HI_BYTE_SHIFT" "I", Cond.fieldLink RJ2 63 "java/lang/StringUTF16" "LO_BYTE_SHIFT" "I"]
def wsX2_letterOf : List Cond := .code yX2_letterOf cX2_letterOf 1 (some .int) :: ((wsX2_letterOf_r1 ++ wsX2_letterOf_r2))
def wsX2_valueOf_r1 : List Cond := [Cond.methodLink RX2 13 yJ0_charAt_5068e, Cond.instanceMethod yJ0_charAt_5068e, Cond.selects RJ0 yJ0_charAt_5068e yJ0_charAt_5068e, Cond.initialized RJ0, Cond.code yJ0_charAt_5068e cJ0_charAt_5068e 2 (some .char), Cond.fieldLink RJ0 9 "java/lang/String" "value" "[B", Cond.methodLink RJ0 492 yJ0_isLatin1_aae02, Cond.instanceMethod yJ0_isLatin1_aae02, Cond.selects RJ0 yJ0_isLatin1_aae02 yJ0_isLatin1_aae02, Cond.code yJ0_isLatin1_aae02 cJ0_isLatin1_aae02 1 (some .boolean), Cond.fieldLink RJ0 38 "java/lang/String" "COMPACT_STRINGS" "Z", Cond.fieldLink RJ0 15 "java/lang/String" "coder" "B", Cond.methodLink RJ0 495 yJ1_charAt_3b067, Cond.static yJ1_charAt_3b067, Cond.initialized RJ1, Cond.code yJ1_charAt_3b067 cJ1_charAt_3b067 2 (some .char), Cond.methodLink RJ1 9 yJ0_checkIndex_df160, Cond.static yJ0_checkIndex_df160, Cond.code yJ0_checkIndex_df160 cJ0_checkIndex_df160 2 none, Cond.fieldLink RJ0 1053 "jdk/internal/util/Preconditions" "SIOOBE_FORMATTER" "Ljava/util/function/BiFunction;", Cond.methodLink RJ0 1059 yJ3_checkIndex_8e157, Cond.static yJ3_checkIndex_8e157, Cond.initialized RJ3, Cond.code yJ3_checkIndex_8e157 cJ3_checkIndex_8e157 3 (some .int)]
def wsX2_valueOf_r2 : List Cond := [Cond.methodLink RJ0 498 yJ2_charAt_3b067, Cond.static yJ2_charAt_3b067, Cond.initialized RJ2, Cond.code yJ2_charAt_3b067 cJ2_charAt_3b067 2 (some .char), Cond.methodLink RJ2 67 yJ2_checkIndex_2214a, Cond.static yJ2_checkIndex_2214a, Cond.code yJ2_checkIndex_2214a cJ2_checkIndex_2214a 2 none, Cond.methodLink RJ2 48 yJ2_length_9d52b, Cond.static yJ2_length_9d52b, Cond.code yJ2_length_9d52b cJ2_length_9d52b 1 (some .int), Cond.methodLink RJ2 414 yJ0_checkIndex_df160, Cond.methodLink RJ2 71 yJ2_getChar_3b067, Cond.static yJ2_getChar_3b067, Cond.code yJ2_getChar_3b067 cJ2_getChar_3b067 2 (some .char), Cond.fieldLink RJ2 44 "java/lang/StringUTF16" "$assertionsDisabled" "Z", Cond.fieldLink RJ2 59 "java/lang/StringUTF16" "HI_BYTE_SHIFT" "I", Cond.fieldLink RJ2 63 "java/lang/StringUTF16" "LO_BYTE_SHIFT" "I"]
def wsX2_valueOf : List Cond := .code yX2_valueOf cX2_valueOf 3 (some .int) :: ((wsX2_valueOf_r1 ++ wsX2_valueOf_r2))
def wsX2_weighted : List Cond := .code yX2_weighted cX2_weighted 2 (some .int) :: ([.fieldLink RX2 19 "NumberRows2$Form" "WEIGHTS" "[I"])
def wsX6_serviceOf : List Cond := .code yX6_serviceOf cX6_serviceOf 2 (some .long) :: ([.constantLong RX6 116 (27512614111)])
def wsX6_serialOf : List Cond := .code yX6_serialOf cX6_serialOf 2 (some .long) :: ([.constantLong RX6 116 (27512614111)])
def wsX2_plainValueAt : List Cond := .code yX2_plainValueAt cX2_plainValueAt 6 (some .int) :: ([.constantLong RX2 38 (31), .static yX6_serviceOf, .initialized RX6, .code yX6_serviceOf cX6_serviceOf 2 (some .long), .constantLong RX6 116 (27512614111), .static yX6_serialOf, .code yX6_serialOf cX6_serialOf 2 (some .long)])
def wsX2_checkOf : List Cond := .code yX2_checkOf cX2_checkOf 4 (some .int) :: ([.methodLink RX2 27 yX2_plainValueAt, .static yX2_plainValueAt, .initialized RX2, .code yX2_plainValueAt cX2_plainValueAt 6 (some .int), .constantLong RX2 38 (31), .static yX6_serviceOf, .initialized RX6, .code yX6_serviceOf cX6_serviceOf 2 (some .long), .constantLong RX6 116 (27512614111), .static yX6_serialOf, .code yX6_serialOf cX6_serialOf 2 (some .long), .methodLink RX2 40 yX2_weighted, .static yX2_weighted, .code yX2_weighted cX2_weighted 2 (some .int), .fieldLink RX2 19 "NumberRows2$Form" "WEIGHTS" "[I"])
def wsX2_valueAt : List Cond := .code yX2_valueAt cX2_valueAt 3 (some .int) :: ([.methodLink RX2 23 yX2_checkOf, .static yX2_checkOf, .initialized RX2, .code yX2_checkOf cX2_checkOf 4 (some .int), .methodLink RX2 27 yX2_plainValueAt, .static yX2_plainValueAt, .code yX2_plainValueAt cX2_plainValueAt 6 (some .int), .constantLong RX2 38 (31), .static yX6_serviceOf, .initialized RX6, .code yX6_serviceOf cX6_serviceOf 2 (some .long), .constantLong RX6 116 (27512614111), .static yX6_serialOf, .code yX6_serialOf cX6_serialOf 2 (some .long), .methodLink RX2 40 yX2_weighted, .static yX2_weighted, .code yX2_weighted cX2_weighted 2 (some .int), .fieldLink RX2 19 "NumberRows2$Form" "WEIGHTS" "[I"])
def wsX6_isService : List Cond := .code yX6_isService cX6_isService 1 (some .boolean) :: ([])
def wsX2_canStand : List Cond := .code yX2_canStand cX2_canStand 3 (some .boolean) :: ([.static yX6_isService, .initialized RX6, .code yX6_isService cX6_isService 1 (some .boolean), .methodLink RX2 40 yX2_weighted, .static yX2_weighted, .initialized RX2, .code yX2_weighted cX2_weighted 2 (some .int), .fieldLink RX2 19 "NumberRows2$Form" "WEIGHTS" "[I"])
def wsX3_init : List Cond := .code yX3_init cX3_init 1 none :: ([.methodLink RX3 3 objectInit, .instanceMethod objectInit, .code objectInit ⟨#[0xb1]⟩ 1 none, .arrayClass .long, .fieldLink RX3 9 "NumberRows2$GivenNumbers" "numbers" "[J", .fieldLink RX3 15 "NumberRows2$GivenNumbers" "count" "I"] ++ wsX30)
def wsX3_isFull : List Cond := .code yX3_isFull cX3_isFull 1 (some .boolean) :: ([.fieldLink RX3 15 "NumberRows2$GivenNumbers" "count" "I"] ++ wsX30)
def wsX3_add : List Cond := .code yX3_add cX3_add 3 none :: ([.fieldLink RX3 15 "NumberRows2$GivenNumbers" "count" "I", .fieldLink RX3 9 "NumberRows2$GivenNumbers" "numbers" "[J"] ++ wsX30)
def wsX3_contains : List Cond := .code yX3_contains cX3_contains 4 (some .boolean) :: ([.fieldLink RX3 15 "NumberRows2$GivenNumbers" "count" "I", .fieldLink RX3 9 "NumberRows2$GivenNumbers" "numbers" "[J"] ++ wsX30)
def wsX3_removeRow : List Cond := .code yX3_removeRow cX3_removeRow 9 (some .int) :: ([.fieldLink RX3 15 "NumberRows2$GivenNumbers" "count" "I", .fieldLink RX3 9 "NumberRows2$GivenNumbers" "numbers" "[J", .static yX6_serialOf, .initialized RX6, .code yX6_serialOf cX6_serialOf 2 (some .long), .constantLong RX6 116 (27512614111)] ++ wsX30)
def wsX4_init : List Cond := .code yX4_init cX4_init 1 none :: ([.methodLink RX4 3 objectInit, .instanceMethod objectInit, .code objectInit ⟨#[0xb1]⟩ 1 none, .arrayClass .int, .fieldLink RX4 9 "NumberRows2$Names" "senders" "[I", .arrayClass .long, .fieldLink RX4 15 "NumberRows2$Names" "references" "[J", .fieldLink RX4 19 "NumberRows2$Names" "numbers" "[J", .fieldLink RX4 22 "NumberRows2$Names" "count" "I"] ++ wsX40)
def wsX4_isFull : List Cond := .code yX4_isFull cX4_isFull 1 (some .boolean) :: ([.fieldLink RX4 22 "NumberRows2$Names" "count" "I"] ++ wsX40)
def wsX4_numberOfReference : List Cond := .code yX4_numberOfReference cX4_numberOfReference 5 (some .long) :: ([.fieldLink RX4 22 "NumberRows2$Names" "count" "I", .fieldLink RX4 9 "NumberRows2$Names" "senders" "[I", .fieldLink RX4 15 "NumberRows2$Names" "references" "[J", .fieldLink RX4 19 "NumberRows2$Names" "numbers" "[J", .constantLong RX4 26 (-101)] ++ wsX40)
def wsX4_replace : List Cond := .code yX4_replace cX4_replace 7 (some .boolean) :: ([.fieldLink RX4 22 "NumberRows2$Names" "count" "I", .fieldLink RX4 9 "NumberRows2$Names" "senders" "[I", .fieldLink RX4 19 "NumberRows2$Names" "numbers" "[J", .fieldLink RX4 15 "NumberRows2$Names" "references" "[J"] ++ wsX40)
def wsX4_add : List Cond := .code yX4_add cX4_add 6 none :: ([.fieldLink RX4 22 "NumberRows2$Names" "count" "I", .fieldLink RX4 9 "NumberRows2$Names" "senders" "[I", .fieldLink RX4 15 "NumberRows2$Names" "references" "[J", .fieldLink RX4 19 "NumberRows2$Names" "numbers" "[J"] ++ wsX40)
def wsX5_init : List Cond := .code yX5_init cX5_init 1 none :: ([.methodLink RX5 3 objectInit, .instanceMethod objectInit, .code objectInit ⟨#[0xb1]⟩ 1 none, .arrayClass .int, .fieldLink RX5 9 "NumberRows2$TypedText" "characters" "[I", .fieldLink RX5 15 "NumberRows2$TypedText" "length" "I"] ++ wsX50)
def wsX5_add : List Cond := .code yX5_add cX5_add 2 none :: ([.fieldLink RX5 15 "NumberRows2$TypedText" "length" "I", .fieldLink RX5 9 "NumberRows2$TypedText" "characters" "[I"] ++ wsX50)
def wsX5_clear : List Cond := .code yX5_clear cX5_clear 1 none :: ([.fieldLink RX5 15 "NumberRows2$TypedText" "length" "I"] ++ wsX50)
def wsX5_parse_r1 : List Cond := [Cond.fieldLink RX5 15 "NumberRows2$TypedText" "length" "I", Cond.fieldLink RX5 9 "NumberRows2$TypedText" "characters" "[I", Cond.constantLong RX5 29 (31), Cond.constantLong RX5 35 (27512614111), Cond.methodLink RX5 19 yX2_valueOf, Cond.static yX2_valueOf, Cond.initialized RX2, Cond.code yX2_valueOf cX2_valueOf 3 (some .int), Cond.methodLink RX2 13 yJ0_charAt_5068e, Cond.instanceMethod yJ0_charAt_5068e, Cond.selects RJ0 yJ0_charAt_5068e yJ0_charAt_5068e, Cond.initialized RJ0, Cond.code yJ0_charAt_5068e cJ0_charAt_5068e 2 (some .char), Cond.fieldLink RJ0 9 "java/lang/String" "value" "[B", Cond.methodLink RJ0 492 yJ0_isLatin1_aae02, Cond.instanceMethod yJ0_isLatin1_aae02, Cond.selects RJ0 yJ0_isLatin1_aae02 yJ0_isLatin1_aae02, Cond.code yJ0_isLatin1_aae02 cJ0_isLatin1_aae02 1 (some .boolean), Cond.fieldLink RJ0 38 "java/lang/String" "COMPACT_STRINGS" "Z", Cond.fieldLink RJ0 15 "java/lang/String" "coder" "B", Cond.methodLink RJ0 495 yJ1_charAt_3b067, Cond.static yJ1_charAt_3b067, Cond.initialized RJ1, Cond.code yJ1_charAt_3b067 cJ1_charAt_3b067 2 (some .char)]
def wsX5_parse_r2 : List Cond := [Cond.methodLink RJ1 9 yJ0_checkIndex_df160, Cond.static yJ0_checkIndex_df160, Cond.code yJ0_checkIndex_df160 cJ0_checkIndex_df160 2 none, Cond.fieldLink RJ0 1053 "jdk/internal/util/Preconditions" "SIOOBE_FORMATTER" "Ljava/util/function/BiFunction;", Cond.methodLink RJ0 1059 yJ3_checkIndex_8e157, Cond.static yJ3_checkIndex_8e157, Cond.initialized RJ3, Cond.code yJ3_checkIndex_8e157 cJ3_checkIndex_8e157 3 (some .int), Cond.methodLink RJ0 498 yJ2_charAt_3b067, Cond.static yJ2_charAt_3b067, Cond.initialized RJ2, Cond.code yJ2_charAt_3b067 cJ2_charAt_3b067 2 (some .char), Cond.methodLink RJ2 67 yJ2_checkIndex_2214a, Cond.static yJ2_checkIndex_2214a, Cond.code yJ2_checkIndex_2214a cJ2_checkIndex_2214a 2 none, Cond.methodLink RJ2 48 yJ2_length_9d52b, Cond.static yJ2_length_9d52b, Cond.code yJ2_length_9d52b cJ2_length_9d52b 1 (some .int), Cond.methodLink RJ2 414 yJ0_checkIndex_df160, Cond.methodLink RJ2 71 yJ2_getChar_3b067, Cond.static yJ2_getChar_3b067, Cond.code yJ2_getChar_3b067 cJ2_getChar_3b067 2 (some .char), Cond.fieldLink RJ2 44 "java/lang/StringUTF16" "$assertionsDisabled" "Z", Cond.fieldLink RJ2 59 "java/lang/StringUTF16" "HI_BYTE_SHIFT" "I"]
def wsX5_parse_r3 : List Cond := [Cond.fieldLink RJ2 63 "java/lang/StringUTF16" "LO_BYTE_SHIFT" "I", Cond.methodLink RX5 25 yX2_canStand, Cond.static yX2_canStand, Cond.code yX2_canStand cX2_canStand 3 (some .boolean), Cond.static yX6_isService, Cond.initialized RX6, Cond.code yX6_isService cX6_isService 1 (some .boolean), Cond.methodLink RX2 40 yX2_weighted, Cond.static yX2_weighted, Cond.code yX2_weighted cX2_weighted 2 (some .int), Cond.fieldLink RX2 19 "NumberRows2$Form" "WEIGHTS" "[I", Cond.methodLink RX5 31 yX2_weighted]
def wsX5_parse : List Cond := .code yX5_parse cX5_parse 7 (some .long) :: ((wsX5_parse_r1 ++ (wsX5_parse_r2 ++ wsX5_parse_r3)) ++ wsX50)
def wsX6_init_r1 : List Cond := [Cond.methodLink RX6 1 objectInit, Cond.instanceMethod objectInit, Cond.code objectInit ⟨#[0xb1]⟩ 1 none, Cond.classLink RX6 7 RX1, Cond.instantiable RX1 5, Cond.initialized RX1, Cond.fieldLink RX6 10 "NumberRows2" "blocks" "LNumberRows2$Blocks;", Cond.classLink RX6 16 RX0, Cond.instantiable RX0 3, Cond.initialized RX0, Cond.fieldLink RX6 19 "NumberRows2" "barredRows" "LNumberRows2$BarredRows;", Cond.classLink RX6 23 RX3, Cond.instantiable RX3 2, Cond.initialized RX3, Cond.fieldLink RX6 26 "NumberRows2" "givenNumbers" "LNumberRows2$GivenNumbers;", Cond.classLink RX6 30 RX4, Cond.instantiable RX4 4, Cond.initialized RX4, Cond.fieldLink RX6 33 "NumberRows2" "names" "LNumberRows2$Names;", Cond.classLink RX6 37 RX5, Cond.instantiable RX5 2, Cond.initialized RX5, Cond.fieldLink RX6 40 "NumberRows2" "typedText" "LNumberRows2$TypedText;", Cond.instanceMethod yX1_init]
def wsX6_init_r2 : List Cond := [Cond.code yX1_init cX1_init 1 none, Cond.methodLink RX1 3 objectInit, Cond.arrayClass .int, Cond.fieldLink RX1 9 "NumberRows2$Blocks" "offices" "[I", Cond.arrayClass .long, Cond.fieldLink RX1 15 "NumberRows2$Blocks" "firsts" "[J", Cond.fieldLink RX1 19 "NumberRows2$Blocks" "lasts" "[J", Cond.fieldLink RX1 22 "NumberRows2$Blocks" "fresh" "[J", Cond.fieldLink RX1 25 "NumberRows2$Blocks" "count" "I", Cond.instanceMethod yX0_init, Cond.code yX0_init cX0_init 1 none, Cond.methodLink RX0 3 objectInit, Cond.fieldLink RX0 9 "NumberRows2$BarredRows" "firsts" "[J", Cond.fieldLink RX0 15 "NumberRows2$BarredRows" "lasts" "[J", Cond.fieldLink RX0 18 "NumberRows2$BarredRows" "count" "I", Cond.instanceMethod yX3_init, Cond.code yX3_init cX3_init 1 none, Cond.methodLink RX3 3 objectInit, Cond.fieldLink RX3 9 "NumberRows2$GivenNumbers" "numbers" "[J", Cond.fieldLink RX3 15 "NumberRows2$GivenNumbers" "count" "I", Cond.instanceMethod yX4_init, Cond.code yX4_init cX4_init 1 none, Cond.methodLink RX4 3 objectInit, Cond.fieldLink RX4 9 "NumberRows2$Names" "senders" "[I"]
def wsX6_init_r3 : List Cond := [Cond.fieldLink RX4 15 "NumberRows2$Names" "references" "[J", Cond.fieldLink RX4 19 "NumberRows2$Names" "numbers" "[J", Cond.fieldLink RX4 22 "NumberRows2$Names" "count" "I", Cond.instanceMethod yX5_init, Cond.code yX5_init cX5_init 1 none, Cond.methodLink RX5 3 objectInit, Cond.fieldLink RX5 9 "NumberRows2$TypedText" "characters" "[I", Cond.fieldLink RX5 15 "NumberRows2$TypedText" "length" "I"]
def wsX6_init : List Cond := .code yX6_init cX6_init 1 none :: ((wsX6_init_r1 ++ (wsX6_init_r2 ++ wsX6_init_r3)) ++ wsX10 ++ wsX60 ++ wsX00 ++ wsX30 ++ wsX40 ++ wsX50)
def wsX6_isOffice : List Cond := .code yX6_isOffice cX6_isOffice 1 (some .boolean) :: ([])
def wsX6_isRowBelow : List Cond := .code yX6_isRowBelow cX6_isRowBelow 6 (some .boolean) :: ([])
def wsX6_block_r1 : List Cond := [Cond.constantLong RX6 48 (20000000000), Cond.fieldLink RX6 10 "NumberRows2" "blocks" "LNumberRows2$Blocks;", Cond.methodLink RX6 44 yX6_isOffice, Cond.static yX6_isOffice, Cond.initialized RX6, Cond.code yX6_isOffice cX6_isOffice 1 (some .boolean), Cond.methodLink RX6 50 yX6_isRowBelow, Cond.static yX6_isRowBelow, Cond.code yX6_isRowBelow cX6_isRowBelow 6 (some .boolean), Cond.methodLink RX6 54 yX1_touches, Cond.instanceMethod yX1_touches, Cond.selects RX1 yX1_touches yX1_touches, Cond.initialized RX1, Cond.code yX1_touches cX1_touches 6 (some .boolean), Cond.fieldLink RX1 25 "NumberRows2$Blocks" "count" "I", Cond.fieldLink RX1 19 "NumberRows2$Blocks" "lasts" "[J", Cond.fieldLink RX1 15 "NumberRows2$Blocks" "firsts" "[J", Cond.methodLink RX6 58 yX1_isFull, Cond.instanceMethod yX1_isFull, Cond.selects RX1 yX1_isFull yX1_isFull, Cond.code yX1_isFull cX1_isFull 1 (some .boolean), Cond.methodLink RX6 62 yX1_add, Cond.instanceMethod yX1_add, Cond.selects RX1 yX1_add yX1_add]
def wsX6_block_r2 : List Cond := [Cond.code yX1_add cX1_add 6 (some .int), Cond.fieldLink RX1 9 "NumberRows2$Blocks" "offices" "[I", Cond.fieldLink RX1 22 "NumberRows2$Blocks" "fresh" "[J"]
def wsX6_block : List Cond := .code yX6_block cX6_block 6 (some .int) :: ((wsX6_block_r1 ++ wsX6_block_r2) ++ wsX60 ++ wsX10)
def wsX6_numberOf : List Cond := .code yX6_numberOf cX6_numberOf 3 (some .long) :: ([.constantLong RX6 116 (27512614111)])
def wsX6_next_r1 : List Cond := [Cond.constantLong RX6 69 (-102), Cond.fieldLink RX6 26 "NumberRows2" "givenNumbers" "LNumberRows2$GivenNumbers;", Cond.constantLong RX6 72 (-104), Cond.fieldLink RX6 10 "NumberRows2" "blocks" "LNumberRows2$Blocks;", Cond.fieldLink RX6 19 "NumberRows2" "barredRows" "LNumberRows2$BarredRows;", Cond.methodLink RX6 44 yX6_isOffice, Cond.static yX6_isOffice, Cond.initialized RX6, Cond.code yX6_isOffice cX6_isOffice 1 (some .boolean), Cond.methodLink RX6 66 yX6_isService, Cond.static yX6_isService, Cond.code yX6_isService cX6_isService 1 (some .boolean), Cond.methodLink RX6 71 yX3_isFull, Cond.instanceMethod yX3_isFull, Cond.selects RX3 yX3_isFull yX3_isFull, Cond.initialized RX3, Cond.code yX3_isFull cX3_isFull 1 (some .boolean), Cond.fieldLink RX3 15 "NumberRows2$GivenNumbers" "count" "I", Cond.methodLink RX6 74 yX1_takeSerial, Cond.instanceMethod yX1_takeSerial, Cond.selects RX1 yX1_takeSerial yX1_takeSerial, Cond.initialized RX1, Cond.code yX1_takeSerial cX1_takeSerial 6 (some .long), Cond.fieldLink RX1 25 "NumberRows2$Blocks" "count" "I"]
def wsX6_next_r2 : List Cond := [Cond.fieldLink RX1 9 "NumberRows2$Blocks" "offices" "[I", Cond.fieldLink RX1 22 "NumberRows2$Blocks" "fresh" "[J", Cond.fieldLink RX1 19 "NumberRows2$Blocks" "lasts" "[J", Cond.constantLong RX1 35 (-1), Cond.methodLink RX1 29 yX0_firstFree, Cond.instanceMethod yX0_firstFree, Cond.selects RX0 yX0_firstFree yX0_firstFree, Cond.initialized RX0, Cond.code yX0_firstFree cX0_firstFree 8 (some .long), Cond.fieldLink RX0 18 "NumberRows2$BarredRows" "count" "I", Cond.methodLink RX0 22 yX0_behindRowAt, Cond.instanceMethod yX0_behindRowAt, Cond.selects RX0 yX0_behindRowAt yX0_behindRowAt, Cond.code yX0_behindRowAt cX0_behindRowAt 4 (some .long), Cond.fieldLink RX0 9 "NumberRows2$BarredRows" "firsts" "[J", Cond.fieldLink RX0 15 "NumberRows2$BarredRows" "lasts" "[J", Cond.methodLink RX6 78 yX6_numberOf, Cond.static yX6_numberOf, Cond.code yX6_numberOf cX6_numberOf 3 (some .long), Cond.constantLong RX6 116 (27512614111), Cond.methodLink RX6 82 yX3_add, Cond.instanceMethod yX3_add, Cond.selects RX3 yX3_add yX3_add, Cond.code yX3_add cX3_add 3 none]
def wsX6_next_r3 : List Cond := [Cond.fieldLink RX3 9 "NumberRows2$GivenNumbers" "numbers" "[J"]
def wsX6_next : List Cond := .code yX6_next cX6_next 7 (some .long) :: ((wsX6_next_r1 ++ (wsX6_next_r2 ++ wsX6_next_r3)) ++ wsX60 ++ wsX30 ++ wsX10 ++ wsX00)
def wsX6_isNumber : List Cond := .code yX6_isNumber cX6_isNumber 2 (some .boolean) :: ([.constantLong RX6 116 (27512614111), .constantLong RX6 153 (302638755221)])
def wsX6_letter_r1 : List Cond := [Cond.classLink RX6 91 RJx00060, Cond.instantiable RJx00060 6, Cond.initialized RJx00060, Cond.methodLink RX6 85 yX6_isNumber, Cond.static yX6_isNumber, Cond.initialized RX6, Cond.code yX6_isNumber cX6_isNumber 2 (some .boolean), Cond.constantLong RX6 116 (27512614111), Cond.constantLong RX6 153 (302638755221), Cond.methodLink RX6 98 yX2_valueAt, Cond.static yX2_valueAt, Cond.initialized RX2, Cond.code yX2_valueAt cX2_valueAt 3 (some .int), Cond.methodLink RX2 23 yX2_checkOf, Cond.static yX2_checkOf, Cond.code yX2_checkOf cX2_checkOf 4 (some .int), Cond.methodLink RX2 27 yX2_plainValueAt, Cond.static yX2_plainValueAt, Cond.code yX2_plainValueAt cX2_plainValueAt 6 (some .int), Cond.constantLong RX2 38 (31), Cond.static yX6_serviceOf, Cond.code yX6_serviceOf cX6_serviceOf 2 (some .long), Cond.static yX6_serialOf, Cond.code yX6_serialOf cX6_serialOf 2 (some .long)]
def wsX6_letter_r2 : List Cond := [Cond.methodLink RX2 40 yX2_weighted, Cond.static yX2_weighted, Cond.code yX2_weighted cX2_weighted 2 (some .int), Cond.fieldLink RX2 19 "NumberRows2$Form" "WEIGHTS" "[I", Cond.methodLink RX6 102 yX2_letterOf, Cond.static yX2_letterOf, Cond.code yX2_letterOf cX2_letterOf 1 (some .int), Cond.methodLink RX2 13 yJ0_charAt_5068e, Cond.instanceMethod yJ0_charAt_5068e, Cond.selects RJ0 yJ0_charAt_5068e yJ0_charAt_5068e, Cond.initialized RJ0, Cond.code yJ0_charAt_5068e cJ0_charAt_5068e 2 (some .char), Cond.fieldLink RJ0 9 "java/lang/String" "value" "[B", Cond.methodLink RJ0 492 yJ0_isLatin1_aae02, Cond.instanceMethod yJ0_isLatin1_aae02, Cond.selects RJ0 yJ0_isLatin1_aae02 yJ0_isLatin1_aae02, Cond.code yJ0_isLatin1_aae02 cJ0_isLatin1_aae02 1 (some .boolean), Cond.fieldLink RJ0 38 "java/lang/String" "COMPACT_STRINGS" "Z", Cond.fieldLink RJ0 15 "java/lang/String" "coder" "B", Cond.methodLink RJ0 495 yJ1_charAt_3b067, Cond.static yJ1_charAt_3b067, Cond.initialized RJ1, Cond.code yJ1_charAt_3b067 cJ1_charAt_3b067 2 (some .char), Cond.methodLink RJ1 9 yJ0_checkIndex_df160]
def wsX6_letter_r3 : List Cond := [Cond.static yJ0_checkIndex_df160, Cond.code yJ0_checkIndex_df160 cJ0_checkIndex_df160 2 none, Cond.fieldLink RJ0 1053 "jdk/internal/util/Preconditions" "SIOOBE_FORMATTER" "Ljava/util/function/BiFunction;", Cond.methodLink RJ0 1059 yJ3_checkIndex_8e157, Cond.static yJ3_checkIndex_8e157, Cond.initialized RJ3, Cond.code yJ3_checkIndex_8e157 cJ3_checkIndex_8e157 3 (some .int), Cond.methodLink RJ0 498 yJ2_charAt_3b067, Cond.static yJ2_charAt_3b067, Cond.initialized RJ2, Cond.code yJ2_charAt_3b067 cJ2_charAt_3b067 2 (some .char), Cond.methodLink RJ2 67 yJ2_checkIndex_2214a, Cond.static yJ2_checkIndex_2214a, Cond.code yJ2_checkIndex_2214a cJ2_checkIndex_2214a 2 none, Cond.methodLink RJ2 48 yJ2_length_9d52b, Cond.static yJ2_length_9d52b, Cond.code yJ2_length_9d52b cJ2_length_9d52b 1 (some .int), Cond.methodLink RJ2 414 yJ0_checkIndex_df160, Cond.methodLink RJ2 71 yJ2_getChar_3b067, Cond.static yJ2_getChar_3b067, Cond.code yJ2_getChar_3b067 cJ2_getChar_3b067 2 (some .char), Cond.fieldLink RJ2 44 "java/lang/StringUTF16" "$assertionsDisabled" "Z", Cond.fieldLink RJ2 59 "java/lang/StringUTF16" "HI_BYTE_SHIFT" "I", Cond.fieldLink RJ2 63 "java/lang/StringUTF16" "LO_BYTE_SHIFT" "I"]
def wsX6_letter : List Cond := .code yX6_letter cX6_letter 4 (some .int) :: ((wsX6_letter_r1 ++ (wsX6_letter_r2 ++ wsX6_letter_r3)) ++ wsJx000600)
def wsX6_type : List Cond := .code yX6_type cX6_type 2 none :: ([.fieldLink RX6 40 "NumberRows2" "typedText" "LNumberRows2$TypedText;", .methodLink RX6 106 yX5_add, .instanceMethod yX5_add, .selects RX5 yX5_add yX5_add, .initialized RX5, .code yX5_add cX5_add 2 none, .fieldLink RX5 15 "NumberRows2$TypedText" "length" "I", .fieldLink RX5 9 "NumberRows2$TypedText" "characters" "[I"] ++ wsX60 ++ wsX50)
def wsX6_read_r1 : List Cond := [Cond.fieldLink RX6 40 "NumberRows2" "typedText" "LNumberRows2$TypedText;", Cond.methodLink RX6 109 yX5_parse, Cond.instanceMethod yX5_parse, Cond.selects RX5 yX5_parse yX5_parse, Cond.initialized RX5, Cond.code yX5_parse cX5_parse 7 (some .long), Cond.fieldLink RX5 15 "NumberRows2$TypedText" "length" "I", Cond.fieldLink RX5 9 "NumberRows2$TypedText" "characters" "[I", Cond.constantLong RX5 29 (31), Cond.constantLong RX5 35 (27512614111), Cond.methodLink RX5 19 yX2_valueOf, Cond.static yX2_valueOf, Cond.initialized RX2, Cond.code yX2_valueOf cX2_valueOf 3 (some .int), Cond.methodLink RX2 13 yJ0_charAt_5068e, Cond.instanceMethod yJ0_charAt_5068e, Cond.selects RJ0 yJ0_charAt_5068e yJ0_charAt_5068e, Cond.initialized RJ0, Cond.code yJ0_charAt_5068e cJ0_charAt_5068e 2 (some .char), Cond.fieldLink RJ0 9 "java/lang/String" "value" "[B", Cond.methodLink RJ0 492 yJ0_isLatin1_aae02, Cond.instanceMethod yJ0_isLatin1_aae02, Cond.selects RJ0 yJ0_isLatin1_aae02 yJ0_isLatin1_aae02, Cond.code yJ0_isLatin1_aae02 cJ0_isLatin1_aae02 1 (some .boolean)]
def wsX6_read_r2 : List Cond := [Cond.fieldLink RJ0 38 "java/lang/String" "COMPACT_STRINGS" "Z", Cond.fieldLink RJ0 15 "java/lang/String" "coder" "B", Cond.methodLink RJ0 495 yJ1_charAt_3b067, Cond.static yJ1_charAt_3b067, Cond.initialized RJ1, Cond.code yJ1_charAt_3b067 cJ1_charAt_3b067 2 (some .char), Cond.methodLink RJ1 9 yJ0_checkIndex_df160, Cond.static yJ0_checkIndex_df160, Cond.code yJ0_checkIndex_df160 cJ0_checkIndex_df160 2 none, Cond.fieldLink RJ0 1053 "jdk/internal/util/Preconditions" "SIOOBE_FORMATTER" "Ljava/util/function/BiFunction;", Cond.methodLink RJ0 1059 yJ3_checkIndex_8e157, Cond.static yJ3_checkIndex_8e157, Cond.initialized RJ3, Cond.code yJ3_checkIndex_8e157 cJ3_checkIndex_8e157 3 (some .int), Cond.methodLink RJ0 498 yJ2_charAt_3b067, Cond.static yJ2_charAt_3b067, Cond.initialized RJ2, Cond.code yJ2_charAt_3b067 cJ2_charAt_3b067 2 (some .char), Cond.methodLink RJ2 67 yJ2_checkIndex_2214a, Cond.static yJ2_checkIndex_2214a, Cond.code yJ2_checkIndex_2214a cJ2_checkIndex_2214a 2 none, Cond.methodLink RJ2 48 yJ2_length_9d52b, Cond.static yJ2_length_9d52b, Cond.code yJ2_length_9d52b cJ2_length_9d52b 1 (some .int)]
def wsX6_read_r3 : List Cond := [Cond.methodLink RJ2 414 yJ0_checkIndex_df160, Cond.methodLink RJ2 71 yJ2_getChar_3b067, Cond.static yJ2_getChar_3b067, Cond.code yJ2_getChar_3b067 cJ2_getChar_3b067 2 (some .char), Cond.fieldLink RJ2 44 "java/lang/StringUTF16" "$assertionsDisabled" "Z", Cond.fieldLink RJ2 59 "java/lang/StringUTF16" "HI_BYTE_SHIFT" "I", Cond.fieldLink RJ2 63 "java/lang/StringUTF16" "LO_BYTE_SHIFT" "I", Cond.methodLink RX5 25 yX2_canStand, Cond.static yX2_canStand, Cond.code yX2_canStand cX2_canStand 3 (some .boolean), Cond.static yX6_isService, Cond.initialized RX6, Cond.code yX6_isService cX6_isService 1 (some .boolean), Cond.methodLink RX2 40 yX2_weighted, Cond.static yX2_weighted, Cond.code yX2_weighted cX2_weighted 2 (some .int), Cond.fieldLink RX2 19 "NumberRows2$Form" "WEIGHTS" "[I", Cond.methodLink RX5 31 yX2_weighted, Cond.methodLink RX6 113 yX5_clear, Cond.instanceMethod yX5_clear, Cond.selects RX5 yX5_clear yX5_clear, Cond.code yX5_clear cX5_clear 1 none]
def wsX6_read : List Cond := .code yX6_read cX6_read 3 (some .long) :: ((wsX6_read_r1 ++ (wsX6_read_r2 ++ wsX6_read_r3)) ++ wsX60 ++ wsX50)
def wsX6_bar_r1 : List Cond := [Cond.constantLong RX6 116 (27512614111), Cond.fieldLink RX6 19 "NumberRows2" "barredRows" "LNumberRows2$BarredRows;", Cond.fieldLink RX6 26 "NumberRows2" "givenNumbers" "LNumberRows2$GivenNumbers;", Cond.methodLink RX6 50 yX6_isRowBelow, Cond.static yX6_isRowBelow, Cond.initialized RX6, Cond.code yX6_isRowBelow cX6_isRowBelow 6 (some .boolean), Cond.methodLink RX6 118 yX0_isFull, Cond.instanceMethod yX0_isFull, Cond.selects RX0 yX0_isFull yX0_isFull, Cond.initialized RX0, Cond.code yX0_isFull cX0_isFull 1 (some .boolean), Cond.fieldLink RX0 18 "NumberRows2$BarredRows" "count" "I", Cond.methodLink RX6 119 yX0_add, Cond.instanceMethod yX0_add, Cond.selects RX0 yX0_add yX0_add, Cond.code yX0_add cX0_add 5 none, Cond.fieldLink RX0 9 "NumberRows2$BarredRows" "firsts" "[J", Cond.fieldLink RX0 15 "NumberRows2$BarredRows" "lasts" "[J", Cond.methodLink RX6 122 yX3_removeRow, Cond.instanceMethod yX3_removeRow, Cond.selects RX3 yX3_removeRow yX3_removeRow, Cond.initialized RX3, Cond.code yX3_removeRow cX3_removeRow 9 (some .int)]
def wsX6_bar_r2 : List Cond := [Cond.fieldLink RX3 15 "NumberRows2$GivenNumbers" "count" "I", Cond.fieldLink RX3 9 "NumberRows2$GivenNumbers" "numbers" "[J", Cond.static yX6_serialOf, Cond.code yX6_serialOf cX6_serialOf 2 (some .long)]
def wsX6_bar : List Cond := .code yX6_bar cX6_bar 5 (some .int) :: ((wsX6_bar_r1 ++ wsX6_bar_r2) ++ wsX60 ++ wsX00 ++ wsX30)
def wsX6_given : List Cond := .code yX6_given cX6_given 3 (some .boolean) :: ([.fieldLink RX6 26 "NumberRows2" "givenNumbers" "LNumberRows2$GivenNumbers;", .methodLink RX6 126 yX3_contains, .instanceMethod yX3_contains, .selects RX3 yX3_contains yX3_contains, .initialized RX3, .code yX3_contains cX3_contains 4 (some .boolean), .fieldLink RX3 15 "NumberRows2$GivenNumbers" "count" "I", .fieldLink RX3 9 "NumberRows2$GivenNumbers" "numbers" "[J"] ++ wsX60 ++ wsX30)
def wsX6_old : List Cond := .code yX6_old cX6_old 5 (some .long) :: ([.constantLong RX6 129 (10000000000), .constantLong RX6 131 (1000000000), .constantLong RX6 48 (20000000000), .constantLong RX6 69 (-102), .methodLink RX6 78 yX6_numberOf, .static yX6_numberOf, .initialized RX6, .code yX6_numberOf cX6_numberOf 3 (some .long), .constantLong RX6 116 (27512614111), .methodLink RX6 85 yX6_isNumber, .static yX6_isNumber, .code yX6_isNumber cX6_isNumber 2 (some .boolean), .constantLong RX6 153 (302638755221), .methodLink RX6 133 yX6_serialOf, .static yX6_serialOf, .code yX6_serialOf cX6_serialOf 2 (some .long), .methodLink RX6 137 yX6_serviceOf, .static yX6_serviceOf, .code yX6_serviceOf cX6_serviceOf 2 (some .long)])
def wsX6_map_r1 : List Cond := [Cond.fieldLink RX6 26 "NumberRows2" "givenNumbers" "LNumberRows2$GivenNumbers;", Cond.fieldLink RX6 33 "NumberRows2" "names" "LNumberRows2$Names;", Cond.constantLong RX6 143 (-101), Cond.methodLink RX6 126 yX3_contains, Cond.instanceMethod yX3_contains, Cond.selects RX3 yX3_contains yX3_contains, Cond.initialized RX3, Cond.code yX3_contains cX3_contains 4 (some .boolean), Cond.fieldLink RX3 15 "NumberRows2$GivenNumbers" "count" "I", Cond.fieldLink RX3 9 "NumberRows2$GivenNumbers" "numbers" "[J", Cond.methodLink RX6 140 yX4_numberOfReference, Cond.instanceMethod yX4_numberOfReference, Cond.selects RX4 yX4_numberOfReference yX4_numberOfReference, Cond.initialized RX4, Cond.code yX4_numberOfReference cX4_numberOfReference 5 (some .long), Cond.fieldLink RX4 22 "NumberRows2$Names" "count" "I", Cond.fieldLink RX4 9 "NumberRows2$Names" "senders" "[I", Cond.fieldLink RX4 15 "NumberRows2$Names" "references" "[J", Cond.fieldLink RX4 19 "NumberRows2$Names" "numbers" "[J", Cond.constantLong RX4 26 (-101), Cond.methodLink RX6 145 yX4_replace, Cond.instanceMethod yX4_replace, Cond.selects RX4 yX4_replace yX4_replace, Cond.code yX4_replace cX4_replace 7 (some .boolean)]
def wsX6_map_r2 : List Cond := [Cond.methodLink RX6 149 yX4_isFull, Cond.instanceMethod yX4_isFull, Cond.selects RX4 yX4_isFull yX4_isFull, Cond.code yX4_isFull cX4_isFull 1 (some .boolean), Cond.methodLink RX6 150 yX4_add, Cond.instanceMethod yX4_add, Cond.selects RX4 yX4_add yX4_add, Cond.code yX4_add cX4_add 6 none]
def wsX6_map : List Cond := .code yX6_map cX6_map 8 (some .int) :: ((wsX6_map_r1 ++ wsX6_map_r2) ++ wsX60 ++ wsX30 ++ wsX40)
def wsX6_named : List Cond := .code yX6_named cX6_named 4 (some .long) :: ([.fieldLink RX6 33 "NumberRows2" "names" "LNumberRows2$Names;", .methodLink RX6 140 yX4_numberOfReference, .instanceMethod yX4_numberOfReference, .selects RX4 yX4_numberOfReference yX4_numberOfReference, .initialized RX4, .code yX4_numberOfReference cX4_numberOfReference 5 (some .long), .fieldLink RX4 22 "NumberRows2$Names" "count" "I", .fieldLink RX4 9 "NumberRows2$Names" "senders" "[I", .fieldLink RX4 15 "NumberRows2$Names" "references" "[J", .fieldLink RX4 19 "NumberRows2$Names" "numbers" "[J", .constantLong RX4 26 (-101)] ++ wsX60 ++ wsX40)
def wsX7_init : List Cond := .code yX7_init cX7_init 1 none :: ([.methodLink RX7 1 objectInit, .instanceMethod objectInit, .code objectInit ⟨#[0xb1]⟩ 1 none, .arrayClass .int, .fieldLink RX7 7 "NumberRows2Model" "offices" "[I", .arrayClass .long, .fieldLink RX7 13 "NumberRows2Model" "froms" "[J", .fieldLink RX7 17 "NumberRows2Model" "tos" "[J", .fieldLink RX7 20 "NumberRows2Model" "barFroms" "[J", .fieldLink RX7 23 "NumberRows2Model" "barTos" "[J", .fieldLink RX7 26 "NumberRows2Model" "numbers" "[J", .arrayClass .boolean, .fieldLink RX7 29 "NumberRows2Model" "gone" "[Z", .fieldLink RX7 33 "NumberRows2Model" "signs" "[I", .fieldLink RX7 36 "NumberRows2Model" "senders" "[I", .fieldLink RX7 39 "NumberRows2Model" "references" "[J", .fieldLink RX7 42 "NumberRows2Model" "named" "[J", .fieldLink RX7 45 "NumberRows2Model" "letters" "[I", .fieldLink RX7 48 "NumberRows2Model" "weights" "[I", .fieldLink RX7 51 "NumberRows2Model" "typed" "I"] ++ wsX70)
def wsX7_thrown : List Cond := .code yX7_thrown cX7_thrown 1 (some .int) :: ([.fieldLink RX7 55 "NumberRows2Model" "thrown" "I"] ++ wsX70)
def wsX7_isIn : List Cond := .code yX7_isIn cX7_isIn 6 (some .boolean) :: ([])
def wsX7_block : List Cond := .code yX7_block cX7_block 7 (some .int) :: ([.fieldLink RX7 55 "NumberRows2Model" "thrown" "I", .constantLong RX7 58 (99), .constantLong RX7 64 (20000000000), .fieldLink RX7 66 "NumberRows2Model" "blocks" "I", .fieldLink RX7 13 "NumberRows2Model" "froms" "[J", .fieldLink RX7 17 "NumberRows2Model" "tos" "[J", .fieldLink RX7 7 "NumberRows2Model" "offices" "[I", .methodLink RX7 60 yX7_isIn, .static yX7_isIn, .initialized RX7, .code yX7_isIn cX7_isIn 6 (some .boolean)] ++ wsX70)
def wsX7_barredTo : List Cond := .code yX7_barredTo cX7_barredTo 6 (some .long) :: ([.constantLong RX7 69 (-1), .fieldLink RX7 71 "NumberRows2Model" "barred" "I", .fieldLink RX7 20 "NumberRows2Model" "barFroms" "[J", .fieldLink RX7 23 "NumberRows2Model" "barTos" "[J", .methodLink RX7 60 yX7_isIn, .static yX7_isIn, .initialized RX7, .code yX7_isIn cX7_isIn 6 (some .boolean)] ++ wsX70)
def wsX7_wasGiven : List Cond := .code yX7_wasGiven cX7_wasGiven 4 (some .boolean) :: ([.fieldLink RX7 74 "NumberRows2Model" "gave" "I", .fieldLink RX7 26 "NumberRows2Model" "numbers" "[J", .constantLong RX7 77 (27512614111)] ++ wsX70)
def wsX7_free : List Cond := .code yX7_free cX7_free 7 (some .long) :: ([.fieldLink RX7 13 "NumberRows2Model" "froms" "[J", .fieldLink RX7 17 "NumberRows2Model" "tos" "[J", .constantLong RX7 69 (-1), .methodLink RX7 79 yX7_barredTo, .instanceMethod yX7_barredTo, .selects RX7 yX7_barredTo yX7_barredTo, .initialized RX7, .code yX7_barredTo cX7_barredTo 6 (some .long), .fieldLink RX7 71 "NumberRows2Model" "barred" "I", .fieldLink RX7 20 "NumberRows2Model" "barFroms" "[J", .fieldLink RX7 23 "NumberRows2Model" "barTos" "[J", .methodLink RX7 60 yX7_isIn, .static yX7_isIn, .code yX7_isIn cX7_isIn 6 (some .boolean), .methodLink RX7 83 yX7_wasGiven, .instanceMethod yX7_wasGiven, .selects RX7 yX7_wasGiven yX7_wasGiven, .code yX7_wasGiven cX7_wasGiven 4 (some .boolean), .fieldLink RX7 74 "NumberRows2Model" "gave" "I", .fieldLink RX7 26 "NumberRows2Model" "numbers" "[J", .constantLong RX7 77 (27512614111)] ++ wsX70)
def wsX7_next_r1 : List Cond := [Cond.fieldLink RX7 55 "NumberRows2Model" "thrown" "I", Cond.constantLong RX7 58 (99), Cond.constantLong RX7 87 (9), Cond.constantLong RX7 89 (-102), Cond.fieldLink RX7 66 "NumberRows2Model" "blocks" "I", Cond.fieldLink RX7 7 "NumberRows2Model" "offices" "[I", Cond.constantLong RX7 69 (-1), Cond.fieldLink RX7 26 "NumberRows2Model" "numbers" "[J", Cond.fieldLink RX7 74 "NumberRows2Model" "gave" "I", Cond.constantLong RX7 77 (27512614111), Cond.fieldLink RX7 29 "NumberRows2Model" "gone" "[Z", Cond.methodLink RX7 60 yX7_isIn, Cond.static yX7_isIn, Cond.initialized RX7, Cond.code yX7_isIn cX7_isIn 6 (some .boolean), Cond.methodLink RX7 91 yX7_free, Cond.instanceMethod yX7_free, Cond.selects RX7 yX7_free yX7_free, Cond.code yX7_free cX7_free 7 (some .long), Cond.fieldLink RX7 13 "NumberRows2Model" "froms" "[J", Cond.fieldLink RX7 17 "NumberRows2Model" "tos" "[J", Cond.methodLink RX7 79 yX7_barredTo, Cond.instanceMethod yX7_barredTo, Cond.selects RX7 yX7_barredTo yX7_barredTo]
def wsX7_next_r2 : List Cond := [Cond.code yX7_barredTo cX7_barredTo 6 (some .long), Cond.fieldLink RX7 71 "NumberRows2Model" "barred" "I", Cond.fieldLink RX7 20 "NumberRows2Model" "barFroms" "[J", Cond.fieldLink RX7 23 "NumberRows2Model" "barTos" "[J", Cond.methodLink RX7 83 yX7_wasGiven, Cond.instanceMethod yX7_wasGiven, Cond.selects RX7 yX7_wasGiven yX7_wasGiven, Cond.code yX7_wasGiven cX7_wasGiven 4 (some .boolean)]
def wsX7_next : List Cond := .code yX7_next cX7_next 6 (some .long) :: ((wsX7_next_r1 ++ wsX7_next_r2) ++ wsX70)
def wsX7_isNumber : List Cond := .code yX7_isNumber cX7_isNumber 2 (some .boolean) :: ([.constantLong RX7 77 (27512614111), .constantLong RX7 95 (302638755221)])
def wsX7_sign : List Cond := .code yX7_sign cX7_sign 1 (some .int) :: ([])
def wsX7_sum : List Cond := .code yX7_sum cX7_sum 4 (some .int) :: ([.fieldLink RX7 45 "NumberRows2Model" "letters" "[I", .fieldLink RX7 48 "NumberRows2Model" "weights" "[I"] ++ wsX70)
def wsX7_check : List Cond := .code yX7_check cX7_check 2 (some .int) :: ([.methodLink RX7 97 yX7_sum, .instanceMethod yX7_sum, .selects RX7 yX7_sum yX7_sum, .initialized RX7, .code yX7_sum cX7_sum 4 (some .int), .fieldLink RX7 45 "NumberRows2Model" "letters" "[I", .fieldLink RX7 48 "NumberRows2Model" "weights" "[I"] ++ wsX70)
def wsX7_letter : List Cond := .code yX7_letter cX7_letter 7 (some .int) :: ([.fieldLink RX7 55 "NumberRows2Model" "thrown" "I", .fieldLink RX7 45 "NumberRows2Model" "letters" "[I", .constantLong RX7 77 (27512614111), .constantLong RX7 104 (31), .methodLink RX7 101 yX7_isNumber, .static yX7_isNumber, .initialized RX7, .code yX7_isNumber cX7_isNumber 2 (some .boolean), .constantLong RX7 95 (302638755221), .methodLink RX7 106 yX7_check, .instanceMethod yX7_check, .selects RX7 yX7_check yX7_check, .code yX7_check cX7_check 2 (some .int), .methodLink RX7 97 yX7_sum, .instanceMethod yX7_sum, .selects RX7 yX7_sum yX7_sum, .code yX7_sum cX7_sum 4 (some .int), .fieldLink RX7 48 "NumberRows2Model" "weights" "[I", .methodLink RX7 110 yX7_sign, .static yX7_sign, .code yX7_sign cX7_sign 1 (some .int)] ++ wsX70)
def wsX7_type : List Cond := .code yX7_type cX7_type 2 none :: ([.fieldLink RX7 55 "NumberRows2Model" "thrown" "I", .fieldLink RX7 51 "NumberRows2Model" "typed" "I", .fieldLink RX7 33 "NumberRows2Model" "signs" "[I"] ++ wsX70)
def wsX7_valueOf : List Cond := .code yX7_valueOf cX7_valueOf 3 (some .int) :: ([.methodLink RX7 110 yX7_sign, .static yX7_sign, .initialized RX7, .code yX7_sign cX7_sign 1 (some .int)])
def wsX7_read : List Cond := .code yX7_read cX7_read 6 (some .long) :: ([.fieldLink RX7 55 "NumberRows2Model" "thrown" "I", .fieldLink RX7 51 "NumberRows2Model" "typed" "I", .fieldLink RX7 33 "NumberRows2Model" "signs" "[I", .constantLong RX7 69 (-1), .fieldLink RX7 45 "NumberRows2Model" "letters" "[I", .constantLong RX7 104 (31), .constantLong RX7 77 (27512614111), .methodLink RX7 113 yX7_valueOf, .static yX7_valueOf, .initialized RX7, .code yX7_valueOf cX7_valueOf 3 (some .int), .methodLink RX7 110 yX7_sign, .static yX7_sign, .code yX7_sign cX7_sign 1 (some .int), .methodLink RX7 106 yX7_check, .instanceMethod yX7_check, .selects RX7 yX7_check yX7_check, .code yX7_check cX7_check 2 (some .int), .methodLink RX7 97 yX7_sum, .instanceMethod yX7_sum, .selects RX7 yX7_sum yX7_sum, .code yX7_sum cX7_sum 4 (some .int), .fieldLink RX7 48 "NumberRows2Model" "weights" "[I"] ++ wsX70)
def wsX7_bar : List Cond := .code yX7_bar cX7_bar 7 (some .int) :: ([.fieldLink RX7 55 "NumberRows2Model" "thrown" "I", .constantLong RX7 77 (27512614111), .fieldLink RX7 71 "NumberRows2Model" "barred" "I", .fieldLink RX7 20 "NumberRows2Model" "barFroms" "[J", .fieldLink RX7 23 "NumberRows2Model" "barTos" "[J", .fieldLink RX7 74 "NumberRows2Model" "gave" "I", .fieldLink RX7 29 "NumberRows2Model" "gone" "[Z", .fieldLink RX7 26 "NumberRows2Model" "numbers" "[J", .methodLink RX7 60 yX7_isIn, .static yX7_isIn, .initialized RX7, .code yX7_isIn cX7_isIn 6 (some .boolean)] ++ wsX70)
def wsX7_find : List Cond := .code yX7_find cX7_find 4 (some .int) :: ([.fieldLink RX7 74 "NumberRows2Model" "gave" "I", .fieldLink RX7 26 "NumberRows2Model" "numbers" "[J", .fieldLink RX7 29 "NumberRows2Model" "gone" "[Z"] ++ wsX70)
def wsX7_given : List Cond := .code yX7_given cX7_given 3 (some .boolean) :: ([.fieldLink RX7 55 "NumberRows2Model" "thrown" "I", .methodLink RX7 116 yX7_find, .instanceMethod yX7_find, .selects RX7 yX7_find yX7_find, .initialized RX7, .code yX7_find cX7_find 4 (some .int), .fieldLink RX7 74 "NumberRows2Model" "gave" "I", .fieldLink RX7 26 "NumberRows2Model" "numbers" "[J", .fieldLink RX7 29 "NumberRows2Model" "gone" "[Z"] ++ wsX70)
def wsX7_old : List Cond := .code yX7_old cX7_old 5 (some .long) :: ([.fieldLink RX7 55 "NumberRows2Model" "thrown" "I", .constantLong RX7 120 (9999999999), .constantLong RX7 122 (1000000000), .constantLong RX7 77 (27512614111), .constantLong RX7 64 (20000000000), .constantLong RX7 124 (999999999), .constantLong RX7 89 (-102), .methodLink RX7 60 yX7_isIn, .static yX7_isIn, .initialized RX7, .code yX7_isIn cX7_isIn 6 (some .boolean), .methodLink RX7 101 yX7_isNumber, .static yX7_isNumber, .code yX7_isNumber cX7_isNumber 2 (some .boolean), .constantLong RX7 95 (302638755221)] ++ wsX70)
def wsX7_map : List Cond := .code yX7_map cX7_map 9 (some .int) :: ([.fieldLink RX7 55 "NumberRows2Model" "thrown" "I", .constantLong RX7 58 (99), .fieldLink RX7 126 "NumberRows2Model" "names" "I", .fieldLink RX7 36 "NumberRows2Model" "senders" "[I", .fieldLink RX7 39 "NumberRows2Model" "references" "[J", .fieldLink RX7 42 "NumberRows2Model" "named" "[J", .methodLink RX7 116 yX7_find, .instanceMethod yX7_find, .selects RX7 yX7_find yX7_find, .initialized RX7, .code yX7_find cX7_find 4 (some .int), .fieldLink RX7 74 "NumberRows2Model" "gave" "I", .fieldLink RX7 26 "NumberRows2Model" "numbers" "[J", .fieldLink RX7 29 "NumberRows2Model" "gone" "[Z", .methodLink RX7 60 yX7_isIn, .static yX7_isIn, .code yX7_isIn cX7_isIn 6 (some .boolean)] ++ wsX70)
def wsX7_named : List Cond := .code yX7_named cX7_named 5 (some .long) :: ([.fieldLink RX7 55 "NumberRows2Model" "thrown" "I", .fieldLink RX7 126 "NumberRows2Model" "names" "I", .fieldLink RX7 36 "NumberRows2Model" "senders" "[I", .fieldLink RX7 39 "NumberRows2Model" "references" "[J", .fieldLink RX7 42 "NumberRows2Model" "named" "[J", .constantLong RX7 129 (-101)] ++ wsX70)
def wsJx00060_init_a7421 : List Cond := .code yJx00060_init_a7421 cJx00060_init_a7421 2 none :: ([])
def wsL_letter_r1 : List Cond := [Cond.methodLink RL 7 yX6_letter, Cond.instanceMethod yX6_letter, Cond.selects RX6 yX6_letter yX6_letter, Cond.initialized RX6, Cond.code yX6_letter cX6_letter 4 (some .int), Cond.classLink RX6 91 RJx00060, Cond.instantiable RJx00060 6, Cond.initialized RJx00060, Cond.methodLink RX6 85 yX6_isNumber, Cond.static yX6_isNumber, Cond.code yX6_isNumber cX6_isNumber 2 (some .boolean), Cond.constantLong RX6 116 (27512614111), Cond.constantLong RX6 153 (302638755221), Cond.methodLink RX6 98 yX2_valueAt, Cond.static yX2_valueAt, Cond.initialized RX2, Cond.code yX2_valueAt cX2_valueAt 3 (some .int), Cond.methodLink RX2 23 yX2_checkOf, Cond.static yX2_checkOf, Cond.code yX2_checkOf cX2_checkOf 4 (some .int), Cond.methodLink RX2 27 yX2_plainValueAt, Cond.static yX2_plainValueAt, Cond.code yX2_plainValueAt cX2_plainValueAt 6 (some .int), Cond.constantLong RX2 38 (31)]
def wsL_letter_r2 : List Cond := [Cond.static yX6_serviceOf, Cond.code yX6_serviceOf cX6_serviceOf 2 (some .long), Cond.static yX6_serialOf, Cond.code yX6_serialOf cX6_serialOf 2 (some .long), Cond.methodLink RX2 40 yX2_weighted, Cond.static yX2_weighted, Cond.code yX2_weighted cX2_weighted 2 (some .int), Cond.fieldLink RX2 19 "NumberRows2$Form" "WEIGHTS" "[I", Cond.methodLink RX6 102 yX2_letterOf, Cond.static yX2_letterOf, Cond.code yX2_letterOf cX2_letterOf 1 (some .int), Cond.methodLink RX2 13 yJ0_charAt_5068e, Cond.instanceMethod yJ0_charAt_5068e, Cond.selects RJ0 yJ0_charAt_5068e yJ0_charAt_5068e, Cond.initialized RJ0, Cond.code yJ0_charAt_5068e cJ0_charAt_5068e 2 (some .char), Cond.fieldLink RJ0 9 "java/lang/String" "value" "[B", Cond.methodLink RJ0 492 yJ0_isLatin1_aae02, Cond.instanceMethod yJ0_isLatin1_aae02, Cond.selects RJ0 yJ0_isLatin1_aae02 yJ0_isLatin1_aae02, Cond.code yJ0_isLatin1_aae02 cJ0_isLatin1_aae02 1 (some .boolean), Cond.fieldLink RJ0 38 "java/lang/String" "COMPACT_STRINGS" "Z", Cond.fieldLink RJ0 15 "java/lang/String" "coder" "B", Cond.methodLink RJ0 495 yJ1_charAt_3b067]
def wsL_letter_r3 : List Cond := [Cond.static yJ1_charAt_3b067, Cond.initialized RJ1, Cond.code yJ1_charAt_3b067 cJ1_charAt_3b067 2 (some .char), Cond.methodLink RJ1 9 yJ0_checkIndex_df160, Cond.static yJ0_checkIndex_df160, Cond.code yJ0_checkIndex_df160 cJ0_checkIndex_df160 2 none, Cond.fieldLink RJ0 1053 "jdk/internal/util/Preconditions" "SIOOBE_FORMATTER" "Ljava/util/function/BiFunction;", Cond.methodLink RJ0 1059 yJ3_checkIndex_8e157, Cond.static yJ3_checkIndex_8e157, Cond.initialized RJ3, Cond.code yJ3_checkIndex_8e157 cJ3_checkIndex_8e157 3 (some .int), Cond.methodLink RJ0 498 yJ2_charAt_3b067, Cond.static yJ2_charAt_3b067, Cond.initialized RJ2, Cond.code yJ2_charAt_3b067 cJ2_charAt_3b067 2 (some .char), Cond.methodLink RJ2 67 yJ2_checkIndex_2214a, Cond.static yJ2_checkIndex_2214a, Cond.code yJ2_checkIndex_2214a cJ2_checkIndex_2214a 2 none, Cond.methodLink RJ2 48 yJ2_length_9d52b, Cond.static yJ2_length_9d52b, Cond.code yJ2_length_9d52b cJ2_length_9d52b 1 (some .int), Cond.methodLink RJ2 414 yJ0_checkIndex_df160, Cond.methodLink RJ2 71 yJ2_getChar_3b067, Cond.static yJ2_getChar_3b067]
def wsL_letter_r4 : List Cond := [Cond.code yJ2_getChar_3b067 cJ2_getChar_3b067 2 (some .char), Cond.fieldLink RJ2 44 "java/lang/StringUTF16" "$assertionsDisabled" "Z", Cond.fieldLink RJ2 59 "java/lang/StringUTF16" "HI_BYTE_SHIFT" "I", Cond.fieldLink RJ2 63 "java/lang/StringUTF16" "LO_BYTE_SHIFT" "I"]
def wsL_letter : List Cond := .codeWith yL_letter cL_letter 6 (some .int) [(0, 11, 14, 13)] :: ((wsL_letter_r1 ++ (wsL_letter_r2 ++ (wsL_letter_r3 ++ wsL_letter_r4))) ++ wsJx000600)
def wsL_law_r1 : List Cond := [Cond.classLink RL 8 RX6, Cond.instantiable RX6 5, Cond.initialized RX6, Cond.classLink RL 16 RX7, Cond.instantiable RX7 19, Cond.initialized RX7, Cond.arrayClass .long, Cond.constantLong RL 19 (4294967295), Cond.methodLink RL 15 yX6_init, Cond.instanceMethod yX6_init, Cond.code yX6_init cX6_init 1 none, Cond.methodLink RX6 1 objectInit, Cond.instanceMethod objectInit, Cond.code objectInit ⟨#[0xb1]⟩ 1 none, Cond.classLink RX6 7 RX1, Cond.instantiable RX1 5, Cond.initialized RX1, Cond.fieldLink RX6 10 "NumberRows2" "blocks" "LNumberRows2$Blocks;", Cond.classLink RX6 16 RX0, Cond.instantiable RX0 3, Cond.initialized RX0, Cond.fieldLink RX6 19 "NumberRows2" "barredRows" "LNumberRows2$BarredRows;", Cond.classLink RX6 23 RX3, Cond.instantiable RX3 2]
def wsL_law_r2 : List Cond := [Cond.initialized RX3, Cond.fieldLink RX6 26 "NumberRows2" "givenNumbers" "LNumberRows2$GivenNumbers;", Cond.classLink RX6 30 RX4, Cond.instantiable RX4 4, Cond.initialized RX4, Cond.fieldLink RX6 33 "NumberRows2" "names" "LNumberRows2$Names;", Cond.classLink RX6 37 RX5, Cond.instantiable RX5 2, Cond.initialized RX5, Cond.fieldLink RX6 40 "NumberRows2" "typedText" "LNumberRows2$TypedText;", Cond.instanceMethod yX1_init, Cond.code yX1_init cX1_init 1 none, Cond.methodLink RX1 3 objectInit, Cond.arrayClass .int, Cond.fieldLink RX1 9 "NumberRows2$Blocks" "offices" "[I", Cond.fieldLink RX1 15 "NumberRows2$Blocks" "firsts" "[J", Cond.fieldLink RX1 19 "NumberRows2$Blocks" "lasts" "[J", Cond.fieldLink RX1 22 "NumberRows2$Blocks" "fresh" "[J", Cond.fieldLink RX1 25 "NumberRows2$Blocks" "count" "I", Cond.instanceMethod yX0_init, Cond.code yX0_init cX0_init 1 none, Cond.methodLink RX0 3 objectInit, Cond.fieldLink RX0 9 "NumberRows2$BarredRows" "firsts" "[J", Cond.fieldLink RX0 15 "NumberRows2$BarredRows" "lasts" "[J"]
def wsL_law_r3 : List Cond := [Cond.fieldLink RX0 18 "NumberRows2$BarredRows" "count" "I", Cond.instanceMethod yX3_init, Cond.code yX3_init cX3_init 1 none, Cond.methodLink RX3 3 objectInit, Cond.fieldLink RX3 9 "NumberRows2$GivenNumbers" "numbers" "[J", Cond.fieldLink RX3 15 "NumberRows2$GivenNumbers" "count" "I", Cond.instanceMethod yX4_init, Cond.code yX4_init cX4_init 1 none, Cond.methodLink RX4 3 objectInit, Cond.fieldLink RX4 9 "NumberRows2$Names" "senders" "[I", Cond.fieldLink RX4 15 "NumberRows2$Names" "references" "[J", Cond.fieldLink RX4 19 "NumberRows2$Names" "numbers" "[J", Cond.fieldLink RX4 22 "NumberRows2$Names" "count" "I", Cond.instanceMethod yX5_init, Cond.code yX5_init cX5_init 1 none, Cond.methodLink RX5 3 objectInit, Cond.fieldLink RX5 9 "NumberRows2$TypedText" "characters" "[I", Cond.fieldLink RX5 15 "NumberRows2$TypedText" "length" "I", Cond.methodLink RL 18 yX7_init, Cond.instanceMethod yX7_init, Cond.code yX7_init cX7_init 1 none, Cond.methodLink RX7 1 objectInit, Cond.fieldLink RX7 7 "NumberRows2Model" "offices" "[I", Cond.fieldLink RX7 13 "NumberRows2Model" "froms" "[J"]
def wsL_law_r4 : List Cond := [Cond.fieldLink RX7 17 "NumberRows2Model" "tos" "[J", Cond.fieldLink RX7 20 "NumberRows2Model" "barFroms" "[J", Cond.fieldLink RX7 23 "NumberRows2Model" "barTos" "[J", Cond.fieldLink RX7 26 "NumberRows2Model" "numbers" "[J", Cond.arrayClass .boolean, Cond.fieldLink RX7 29 "NumberRows2Model" "gone" "[Z", Cond.fieldLink RX7 33 "NumberRows2Model" "signs" "[I", Cond.fieldLink RX7 36 "NumberRows2Model" "senders" "[I", Cond.fieldLink RX7 39 "NumberRows2Model" "references" "[J", Cond.fieldLink RX7 42 "NumberRows2Model" "named" "[J", Cond.fieldLink RX7 45 "NumberRows2Model" "letters" "[I", Cond.fieldLink RX7 48 "NumberRows2Model" "weights" "[I", Cond.fieldLink RX7 51 "NumberRows2Model" "typed" "I", Cond.methodLink RL 21 yX6_block, Cond.instanceMethod yX6_block, Cond.selects RX6 yX6_block yX6_block, Cond.code yX6_block cX6_block 6 (some .int), Cond.constantLong RX6 48 (20000000000), Cond.methodLink RX6 44 yX6_isOffice, Cond.static yX6_isOffice, Cond.code yX6_isOffice cX6_isOffice 1 (some .boolean), Cond.methodLink RX6 50 yX6_isRowBelow, Cond.static yX6_isRowBelow, Cond.code yX6_isRowBelow cX6_isRowBelow 6 (some .boolean)]
def wsL_law_r5 : List Cond := [Cond.methodLink RX6 54 yX1_touches, Cond.instanceMethod yX1_touches, Cond.selects RX1 yX1_touches yX1_touches, Cond.code yX1_touches cX1_touches 6 (some .boolean), Cond.methodLink RX6 58 yX1_isFull, Cond.instanceMethod yX1_isFull, Cond.selects RX1 yX1_isFull yX1_isFull, Cond.code yX1_isFull cX1_isFull 1 (some .boolean), Cond.methodLink RX6 62 yX1_add, Cond.instanceMethod yX1_add, Cond.selects RX1 yX1_add yX1_add, Cond.code yX1_add cX1_add 6 (some .int), Cond.methodLink RL 25 yX7_block, Cond.instanceMethod yX7_block, Cond.selects RX7 yX7_block yX7_block, Cond.code yX7_block cX7_block 7 (some .int), Cond.fieldLink RX7 55 "NumberRows2Model" "thrown" "I", Cond.constantLong RX7 58 (99), Cond.constantLong RX7 64 (20000000000), Cond.fieldLink RX7 66 "NumberRows2Model" "blocks" "I", Cond.methodLink RX7 60 yX7_isIn, Cond.static yX7_isIn, Cond.code yX7_isIn cX7_isIn 6 (some .boolean), Cond.methodLink RL 26 yX6_next]
def wsL_law_r6 : List Cond := [Cond.instanceMethod yX6_next, Cond.selects RX6 yX6_next yX6_next, Cond.code yX6_next cX6_next 7 (some .long), Cond.constantLong RX6 69 (-102), Cond.constantLong RX6 72 (-104), Cond.methodLink RX6 66 yX6_isService, Cond.static yX6_isService, Cond.code yX6_isService cX6_isService 1 (some .boolean), Cond.methodLink RX6 71 yX3_isFull, Cond.instanceMethod yX3_isFull, Cond.selects RX3 yX3_isFull yX3_isFull, Cond.code yX3_isFull cX3_isFull 1 (some .boolean), Cond.methodLink RX6 74 yX1_takeSerial, Cond.instanceMethod yX1_takeSerial, Cond.selects RX1 yX1_takeSerial yX1_takeSerial, Cond.code yX1_takeSerial cX1_takeSerial 6 (some .long), Cond.constantLong RX1 35 (-1), Cond.methodLink RX1 29 yX0_firstFree, Cond.instanceMethod yX0_firstFree, Cond.selects RX0 yX0_firstFree yX0_firstFree, Cond.code yX0_firstFree cX0_firstFree 8 (some .long), Cond.methodLink RX0 22 yX0_behindRowAt, Cond.instanceMethod yX0_behindRowAt, Cond.selects RX0 yX0_behindRowAt yX0_behindRowAt]
def wsL_law_r7 : List Cond := [Cond.code yX0_behindRowAt cX0_behindRowAt 4 (some .long), Cond.methodLink RX6 78 yX6_numberOf, Cond.static yX6_numberOf, Cond.code yX6_numberOf cX6_numberOf 3 (some .long), Cond.constantLong RX6 116 (27512614111), Cond.methodLink RX6 82 yX3_add, Cond.instanceMethod yX3_add, Cond.selects RX3 yX3_add yX3_add, Cond.code yX3_add cX3_add 3 none, Cond.methodLink RL 30 yX7_next, Cond.instanceMethod yX7_next, Cond.selects RX7 yX7_next yX7_next, Cond.code yX7_next cX7_next 6 (some .long), Cond.constantLong RX7 87 (9), Cond.constantLong RX7 89 (-102), Cond.constantLong RX7 69 (-1), Cond.fieldLink RX7 74 "NumberRows2Model" "gave" "I", Cond.constantLong RX7 77 (27512614111), Cond.methodLink RX7 91 yX7_free, Cond.instanceMethod yX7_free, Cond.selects RX7 yX7_free yX7_free, Cond.code yX7_free cX7_free 7 (some .long), Cond.methodLink RX7 79 yX7_barredTo, Cond.instanceMethod yX7_barredTo]
def wsL_law_r8 : List Cond := [Cond.selects RX7 yX7_barredTo yX7_barredTo, Cond.code yX7_barredTo cX7_barredTo 6 (some .long), Cond.fieldLink RX7 71 "NumberRows2Model" "barred" "I", Cond.methodLink RX7 83 yX7_wasGiven, Cond.instanceMethod yX7_wasGiven, Cond.selects RX7 yX7_wasGiven yX7_wasGiven, Cond.code yX7_wasGiven cX7_wasGiven 4 (some .boolean), Cond.methodLink RL 31 yL_letter, Cond.static yL_letter, Cond.initialized RL, Cond.codeWith yL_letter cL_letter 6 (some .int) [(0, 11, 14, 13)], Cond.methodLink RL 7 yX6_letter, Cond.instanceMethod yX6_letter, Cond.selects RX6 yX6_letter yX6_letter, Cond.code yX6_letter cX6_letter 4 (some .int), Cond.classLink RX6 91 RJx00060, Cond.instantiable RJx00060 6, Cond.initialized RJx00060, Cond.methodLink RX6 85 yX6_isNumber, Cond.static yX6_isNumber, Cond.code yX6_isNumber cX6_isNumber 2 (some .boolean), Cond.constantLong RX6 153 (302638755221), Cond.methodLink RX6 98 yX2_valueAt, Cond.static yX2_valueAt]
def wsL_law_r9 : List Cond := [Cond.initialized RX2, Cond.code yX2_valueAt cX2_valueAt 3 (some .int), Cond.methodLink RX2 23 yX2_checkOf, Cond.static yX2_checkOf, Cond.code yX2_checkOf cX2_checkOf 4 (some .int), Cond.methodLink RX2 27 yX2_plainValueAt, Cond.static yX2_plainValueAt, Cond.code yX2_plainValueAt cX2_plainValueAt 6 (some .int), Cond.constantLong RX2 38 (31), Cond.static yX6_serviceOf, Cond.code yX6_serviceOf cX6_serviceOf 2 (some .long), Cond.static yX6_serialOf, Cond.code yX6_serialOf cX6_serialOf 2 (some .long), Cond.methodLink RX2 40 yX2_weighted, Cond.static yX2_weighted, Cond.code yX2_weighted cX2_weighted 2 (some .int), Cond.fieldLink RX2 19 "NumberRows2$Form" "WEIGHTS" "[I", Cond.methodLink RX6 102 yX2_letterOf, Cond.static yX2_letterOf, Cond.code yX2_letterOf cX2_letterOf 1 (some .int), Cond.methodLink RX2 13 yJ0_charAt_5068e, Cond.instanceMethod yJ0_charAt_5068e, Cond.selects RJ0 yJ0_charAt_5068e yJ0_charAt_5068e, Cond.initialized RJ0]
def wsL_law_r10 : List Cond := [Cond.code yJ0_charAt_5068e cJ0_charAt_5068e 2 (some .char), Cond.fieldLink RJ0 9 "java/lang/String" "value" "[B", Cond.methodLink RJ0 492 yJ0_isLatin1_aae02, Cond.instanceMethod yJ0_isLatin1_aae02, Cond.selects RJ0 yJ0_isLatin1_aae02 yJ0_isLatin1_aae02, Cond.code yJ0_isLatin1_aae02 cJ0_isLatin1_aae02 1 (some .boolean), Cond.fieldLink RJ0 38 "java/lang/String" "COMPACT_STRINGS" "Z", Cond.fieldLink RJ0 15 "java/lang/String" "coder" "B", Cond.methodLink RJ0 495 yJ1_charAt_3b067, Cond.static yJ1_charAt_3b067, Cond.initialized RJ1, Cond.code yJ1_charAt_3b067 cJ1_charAt_3b067 2 (some .char), Cond.methodLink RJ1 9 yJ0_checkIndex_df160, Cond.static yJ0_checkIndex_df160, Cond.code yJ0_checkIndex_df160 cJ0_checkIndex_df160 2 none, Cond.fieldLink RJ0 1053 "jdk/internal/util/Preconditions" "SIOOBE_FORMATTER" "Ljava/util/function/BiFunction;", Cond.methodLink RJ0 1059 yJ3_checkIndex_8e157, Cond.static yJ3_checkIndex_8e157, Cond.initialized RJ3, Cond.code yJ3_checkIndex_8e157 cJ3_checkIndex_8e157 3 (some .int), Cond.methodLink RJ0 498 yJ2_charAt_3b067, Cond.static yJ2_charAt_3b067, Cond.initialized RJ2, Cond.code yJ2_charAt_3b067 cJ2_charAt_3b067 2 (some .char)]
def wsL_law_r11 : List Cond := [Cond.methodLink RJ2 67 yJ2_checkIndex_2214a, Cond.static yJ2_checkIndex_2214a, Cond.code yJ2_checkIndex_2214a cJ2_checkIndex_2214a 2 none, Cond.methodLink RJ2 48 yJ2_length_9d52b, Cond.static yJ2_length_9d52b, Cond.code yJ2_length_9d52b cJ2_length_9d52b 1 (some .int), Cond.methodLink RJ2 414 yJ0_checkIndex_df160, Cond.methodLink RJ2 71 yJ2_getChar_3b067, Cond.static yJ2_getChar_3b067, Cond.code yJ2_getChar_3b067 cJ2_getChar_3b067 2 (some .char), Cond.fieldLink RJ2 44 "java/lang/StringUTF16" "$assertionsDisabled" "Z", Cond.fieldLink RJ2 59 "java/lang/StringUTF16" "HI_BYTE_SHIFT" "I", Cond.fieldLink RJ2 63 "java/lang/StringUTF16" "LO_BYTE_SHIFT" "I", Cond.methodLink RL 36 yX7_letter, Cond.instanceMethod yX7_letter, Cond.selects RX7 yX7_letter yX7_letter, Cond.code yX7_letter cX7_letter 7 (some .int), Cond.constantLong RX7 104 (31), Cond.methodLink RX7 101 yX7_isNumber, Cond.static yX7_isNumber, Cond.code yX7_isNumber cX7_isNumber 2 (some .boolean), Cond.constantLong RX7 95 (302638755221), Cond.methodLink RX7 106 yX7_check, Cond.instanceMethod yX7_check]
def wsL_law_r12 : List Cond := [Cond.selects RX7 yX7_check yX7_check, Cond.code yX7_check cX7_check 2 (some .int), Cond.methodLink RX7 97 yX7_sum, Cond.instanceMethod yX7_sum, Cond.selects RX7 yX7_sum yX7_sum, Cond.code yX7_sum cX7_sum 4 (some .int), Cond.methodLink RX7 110 yX7_sign, Cond.static yX7_sign, Cond.code yX7_sign cX7_sign 1 (some .int), Cond.methodLink RL 37 yX7_thrown, Cond.instanceMethod yX7_thrown, Cond.selects RX7 yX7_thrown yX7_thrown, Cond.code yX7_thrown cX7_thrown 1 (some .int), Cond.methodLink RL 41 yX6_type, Cond.instanceMethod yX6_type, Cond.selects RX6 yX6_type yX6_type, Cond.code yX6_type cX6_type 2 none, Cond.methodLink RX6 106 yX5_add, Cond.instanceMethod yX5_add, Cond.selects RX5 yX5_add yX5_add, Cond.code yX5_add cX5_add 2 none, Cond.methodLink RL 45 yX7_type, Cond.instanceMethod yX7_type, Cond.selects RX7 yX7_type yX7_type]
def wsL_law_r13 : List Cond := [Cond.code yX7_type cX7_type 2 none, Cond.methodLink RL 46 yX6_read, Cond.instanceMethod yX6_read, Cond.selects RX6 yX6_read yX6_read, Cond.code yX6_read cX6_read 3 (some .long), Cond.methodLink RX6 109 yX5_parse, Cond.instanceMethod yX5_parse, Cond.selects RX5 yX5_parse yX5_parse, Cond.code yX5_parse cX5_parse 7 (some .long), Cond.constantLong RX5 29 (31), Cond.constantLong RX5 35 (27512614111), Cond.methodLink RX5 19 yX2_valueOf, Cond.static yX2_valueOf, Cond.code yX2_valueOf cX2_valueOf 3 (some .int), Cond.methodLink RX5 25 yX2_canStand, Cond.static yX2_canStand, Cond.code yX2_canStand cX2_canStand 3 (some .boolean), Cond.methodLink RX5 31 yX2_weighted, Cond.methodLink RX6 113 yX5_clear, Cond.instanceMethod yX5_clear, Cond.selects RX5 yX5_clear yX5_clear, Cond.code yX5_clear cX5_clear 1 none, Cond.methodLink RL 50 yX7_read, Cond.instanceMethod yX7_read]
def wsL_law_r14 : List Cond := [Cond.selects RX7 yX7_read yX7_read, Cond.code yX7_read cX7_read 6 (some .long), Cond.methodLink RX7 113 yX7_valueOf, Cond.static yX7_valueOf, Cond.code yX7_valueOf cX7_valueOf 3 (some .int), Cond.methodLink RL 51 yX6_bar, Cond.instanceMethod yX6_bar, Cond.selects RX6 yX6_bar yX6_bar, Cond.code yX6_bar cX6_bar 5 (some .int), Cond.methodLink RX6 118 yX0_isFull, Cond.instanceMethod yX0_isFull, Cond.selects RX0 yX0_isFull yX0_isFull, Cond.code yX0_isFull cX0_isFull 1 (some .boolean), Cond.methodLink RX6 119 yX0_add, Cond.instanceMethod yX0_add, Cond.selects RX0 yX0_add yX0_add, Cond.code yX0_add cX0_add 5 none, Cond.methodLink RX6 122 yX3_removeRow, Cond.instanceMethod yX3_removeRow, Cond.selects RX3 yX3_removeRow yX3_removeRow, Cond.code yX3_removeRow cX3_removeRow 9 (some .int), Cond.methodLink RL 55 yX7_bar, Cond.instanceMethod yX7_bar, Cond.selects RX7 yX7_bar yX7_bar]
def wsL_law_r15 : List Cond := [Cond.code yX7_bar cX7_bar 7 (some .int), Cond.methodLink RL 56 yX6_given, Cond.instanceMethod yX6_given, Cond.selects RX6 yX6_given yX6_given, Cond.code yX6_given cX6_given 3 (some .boolean), Cond.methodLink RX6 126 yX3_contains, Cond.instanceMethod yX3_contains, Cond.selects RX3 yX3_contains yX3_contains, Cond.code yX3_contains cX3_contains 4 (some .boolean), Cond.methodLink RL 60 yX7_given, Cond.instanceMethod yX7_given, Cond.selects RX7 yX7_given yX7_given, Cond.code yX7_given cX7_given 3 (some .boolean), Cond.methodLink RX7 116 yX7_find, Cond.instanceMethod yX7_find, Cond.selects RX7 yX7_find yX7_find, Cond.code yX7_find cX7_find 4 (some .int), Cond.methodLink RL 61 yX6_old, Cond.instanceMethod yX6_old, Cond.selects RX6 yX6_old yX6_old, Cond.code yX6_old cX6_old 5 (some .long), Cond.constantLong RX6 129 (10000000000), Cond.constantLong RX6 131 (1000000000), Cond.methodLink RX6 133 yX6_serialOf]
def wsL_law_r16 : List Cond := [Cond.methodLink RX6 137 yX6_serviceOf, Cond.methodLink RL 65 yX7_old, Cond.instanceMethod yX7_old, Cond.selects RX7 yX7_old yX7_old, Cond.code yX7_old cX7_old 5 (some .long), Cond.constantLong RX7 120 (9999999999), Cond.constantLong RX7 122 (1000000000), Cond.constantLong RX7 124 (999999999), Cond.methodLink RL 66 yX6_map, Cond.instanceMethod yX6_map, Cond.selects RX6 yX6_map yX6_map, Cond.code yX6_map cX6_map 8 (some .int), Cond.constantLong RX6 143 (-101), Cond.methodLink RX6 140 yX4_numberOfReference, Cond.instanceMethod yX4_numberOfReference, Cond.selects RX4 yX4_numberOfReference yX4_numberOfReference, Cond.code yX4_numberOfReference cX4_numberOfReference 5 (some .long), Cond.constantLong RX4 26 (-101), Cond.methodLink RX6 145 yX4_replace, Cond.instanceMethod yX4_replace, Cond.selects RX4 yX4_replace yX4_replace, Cond.code yX4_replace cX4_replace 7 (some .boolean), Cond.methodLink RX6 149 yX4_isFull, Cond.instanceMethod yX4_isFull]
def wsL_law_r17 : List Cond := [Cond.selects RX4 yX4_isFull yX4_isFull, Cond.code yX4_isFull cX4_isFull 1 (some .boolean), Cond.methodLink RX6 150 yX4_add, Cond.instanceMethod yX4_add, Cond.selects RX4 yX4_add yX4_add, Cond.code yX4_add cX4_add 6 none, Cond.methodLink RL 69 yX7_map, Cond.instanceMethod yX7_map, Cond.selects RX7 yX7_map yX7_map, Cond.code yX7_map cX7_map 9 (some .int), Cond.fieldLink RX7 126 "NumberRows2Model" "names" "I", Cond.methodLink RL 70 yX6_named, Cond.instanceMethod yX6_named, Cond.selects RX6 yX6_named yX6_named, Cond.code yX6_named cX6_named 4 (some .long), Cond.methodLink RL 74 yX7_named, Cond.instanceMethod yX7_named, Cond.selects RX7 yX7_named yX7_named, Cond.code yX7_named cX7_named 5 (some .long), Cond.constantLong RX7 129 (-101)]
def wsL_law : List Cond := (wsL_law_r1 ++ (wsL_law_r2 ++ (wsL_law_r3 ++ (wsL_law_r4 ++ (wsL_law_r5 ++ (wsL_law_r6 ++ (wsL_law_r7 ++ (wsL_law_r8 ++ (wsL_law_r9 ++ (wsL_law_r10 ++ (wsL_law_r11 ++ (wsL_law_r12 ++ (wsL_law_r13 ++ (wsL_law_r14 ++ (wsL_law_r15 ++ (wsL_law_r16 ++ wsL_law_r17)))))))))))))))) ++ wsX60 ++ wsX70 ++ wsX10 ++ wsX00 ++ wsX30 ++ wsX40 ++ wsX50 ++ wsJx000600 ++ ([] : List Cond)
set_option maxRecDepth 20000 in
theorem wsL_law_in : ∀ w ∈ wsL_law, w ∈ lw_tbl := fun w h => (goodIn_p wsL_law [30, 33, 38, 62, 78, 91, 110, 433, 138, 141, 145, 149, 153, 157, 501, 505, 161, 164, 169, 174, 178, 182, 186, 191, 510, 516, 520, 525, 343, 304, 416, 419, 422, 309, 287, 258, 428, 215, 219, 224, 227, 232, 235, 238, 241, 245, 530, 533, 539, 543, 546, 497, 195, 199, 550, 203, 207, 210, 254, 267, 554, 557, 272, 276, 280, 284, 561, 291, 295, 565, 569, 299, 573, 313, 317, 323, 327, 331, 580, 335, 584] (by decide +kernel) (by decide +kernel) w h).1
theorem inlX0 : ∀ w ∈ wsX00, w ∈ wsL_law := fun _ h => List.mem_append_left _ (List.mem_append_left _ (List.mem_append_left _ (List.mem_append_left _ (List.mem_append_left _ (List.mem_append_right _ h)))))
theorem inX0 : ∀ w ∈ wsX00, w ∈ lw_tbl := fun w h => wsL_law_in w (inlX0 w h)
theorem inlX1 : ∀ w ∈ wsX10, w ∈ wsL_law := fun _ h => List.mem_append_left _ (List.mem_append_left _ (List.mem_append_left _ (List.mem_append_left _ (List.mem_append_left _ (List.mem_append_left _ (List.mem_append_right _ h))))))
theorem inX1 : ∀ w ∈ wsX10, w ∈ lw_tbl := fun w h => wsL_law_in w (inlX1 w h)
theorem inX2 : ∀ w ∈ wsX20, w ∈ lw_tbl := by decide +kernel
theorem inlX3 : ∀ w ∈ wsX30, w ∈ wsL_law := fun _ h => List.mem_append_left _ (List.mem_append_left _ (List.mem_append_left _ (List.mem_append_left _ (List.mem_append_right _ h))))
theorem inX3 : ∀ w ∈ wsX30, w ∈ lw_tbl := fun w h => wsL_law_in w (inlX3 w h)
theorem inlX4 : ∀ w ∈ wsX40, w ∈ wsL_law := fun _ h => List.mem_append_left _ (List.mem_append_left _ (List.mem_append_left _ (List.mem_append_right _ h)))
theorem inX4 : ∀ w ∈ wsX40, w ∈ lw_tbl := fun w h => wsL_law_in w (inlX4 w h)
theorem inlX5 : ∀ w ∈ wsX50, w ∈ wsL_law := fun _ h => List.mem_append_left _ (List.mem_append_left _ (List.mem_append_right _ h))
theorem inX5 : ∀ w ∈ wsX50, w ∈ lw_tbl := fun w h => wsL_law_in w (inlX5 w h)
theorem inlX6 : ∀ w ∈ wsX60, w ∈ wsL_law := fun _ h => List.mem_append_left _ (List.mem_append_left _ (List.mem_append_left _ (List.mem_append_left _ (List.mem_append_left _ (List.mem_append_left _ (List.mem_append_left _ (List.mem_append_left _ (List.mem_append_right _ h))))))))
theorem inX6 : ∀ w ∈ wsX60, w ∈ lw_tbl := fun w h => wsL_law_in w (inlX6 w h)
theorem inlX7 : ∀ w ∈ wsX70, w ∈ wsL_law := fun _ h => List.mem_append_left _ (List.mem_append_left _ (List.mem_append_left _ (List.mem_append_left _ (List.mem_append_left _ (List.mem_append_left _ (List.mem_append_left _ (List.mem_append_right _ h)))))))
theorem inX7 : ∀ w ∈ wsX70, w ∈ lw_tbl := fun w h => wsL_law_in w (inlX7 w h)
theorem inlJx00060 : ∀ w ∈ wsJx000600, w ∈ wsL_law := fun _ h => List.mem_append_left _ (List.mem_append_right _ h)
theorem inJx00060 : ∀ w ∈ wsJx000600, w ∈ lw_tbl := fun w h => wsL_law_in w (inlJx00060 w h)
theorem inJ0 : ∀ w ∈ wsJ00, w ∈ lw_tbl := by decide +kernel
theorem inJ1 : ∀ w ∈ wsJ10, w ∈ lw_tbl := by decide +kernel
theorem inJ2 : ∀ w ∈ wsJ20, w ∈ lw_tbl := by decide +kernel
theorem inJ3 : ∀ w ∈ wsJ30, w ∈ lw_tbl := by decide +kernel
theorem dX0_init_0 : decode cX0_init 0 = .ok (.aload_n 0, 1) := by decide +kernel
theorem dX0_init_1 : decode cX0_init 1 = .ok (.invokespecial 3, 3) := by decide +kernel
theorem dX0_init_4 : decode cX0_init 4 = .ok (.aload_n 0, 1) := by decide +kernel
theorem dX0_init_5 : decode cX0_init 5 = .ok (.bipush 50, 2) := by decide +kernel
theorem dX0_init_7 : decode cX0_init 7 = .ok (.newarray .long, 2) := by decide +kernel
theorem dX0_init_9 : decode cX0_init 9 = .ok (.putfield 9, 3) := by decide +kernel
theorem dX0_init_12 : decode cX0_init 12 = .ok (.aload_n 0, 1) := by decide +kernel
theorem dX0_init_13 : decode cX0_init 13 = .ok (.bipush 50, 2) := by decide +kernel
theorem dX0_init_15 : decode cX0_init 15 = .ok (.newarray .long, 2) := by decide +kernel
theorem dX0_init_17 : decode cX0_init 17 = .ok (.putfield 15, 3) := by decide +kernel
theorem dX0_init_20 : decode cX0_init 20 = .ok (.aload_n 0, 1) := by decide +kernel
theorem dX0_init_21 : decode cX0_init 21 = .ok (.iconst 0, 1) := by decide +kernel
theorem dX0_init_22 : decode cX0_init 22 = .ok (.putfield 18, 3) := by decide +kernel
theorem dX0_init_25 : decode cX0_init 25 = .ok (.return_, 1) := by decide +kernel
theorem dX0_isFull_0 : decode cX0_isFull 0 = .ok (.aload_n 0, 1) := by decide +kernel
theorem dX0_isFull_1 : decode cX0_isFull 1 = .ok (.getfield 18, 3) := by decide +kernel
theorem dX0_isFull_4 : decode cX0_isFull 4 = .ok (.bipush 50, 2) := by decide +kernel
theorem dX0_isFull_6 : decode cX0_isFull 6 = .ok (.if_icmp .lt 7, 3) := by decide +kernel
theorem dX0_isFull_9 : decode cX0_isFull 9 = .ok (.iconst 1, 1) := by decide +kernel
theorem dX0_isFull_10 : decode cX0_isFull 10 = .ok (.goto 4, 3) := by decide +kernel
theorem dX0_isFull_13 : decode cX0_isFull 13 = .ok (.iconst 0, 1) := by decide +kernel
theorem dX0_isFull_14 : decode cX0_isFull 14 = .ok (.ireturn, 1) := by decide +kernel
theorem dX0_add_0 : decode cX0_add 0 = .ok (.aload_n 0, 1) := by decide +kernel
theorem dX0_add_1 : decode cX0_add 1 = .ok (.getfield 18, 3) := by decide +kernel
theorem dX0_add_4 : decode cX0_add 4 = .ok (.bipush 50, 2) := by decide +kernel
theorem dX0_add_6 : decode cX0_add 6 = .ok (.if_icmp .ge 33, 3) := by decide +kernel
theorem dX0_add_9 : decode cX0_add 9 = .ok (.aload_n 0, 1) := by decide +kernel
theorem dX0_add_10 : decode cX0_add 10 = .ok (.getfield 9, 3) := by decide +kernel
theorem dX0_add_13 : decode cX0_add 13 = .ok (.aload_n 0, 1) := by decide +kernel
theorem dX0_add_14 : decode cX0_add 14 = .ok (.getfield 18, 3) := by decide +kernel
theorem dX0_add_17 : decode cX0_add 17 = .ok (.lload_n 1, 1) := by decide +kernel
theorem dX0_add_18 : decode cX0_add 18 = .ok (.lastore, 1) := by decide +kernel
theorem dX0_add_19 : decode cX0_add 19 = .ok (.aload_n 0, 1) := by decide +kernel
theorem dX0_add_20 : decode cX0_add 20 = .ok (.getfield 15, 3) := by decide +kernel
theorem dX0_add_23 : decode cX0_add 23 = .ok (.aload_n 0, 1) := by decide +kernel
theorem dX0_add_24 : decode cX0_add 24 = .ok (.getfield 18, 3) := by decide +kernel
theorem dX0_add_27 : decode cX0_add 27 = .ok (.lload_n 3, 1) := by decide +kernel
theorem dX0_add_28 : decode cX0_add 28 = .ok (.lastore, 1) := by decide +kernel
theorem dX0_add_29 : decode cX0_add 29 = .ok (.aload_n 0, 1) := by decide +kernel
theorem dX0_add_30 : decode cX0_add 30 = .ok (.dup, 1) := by decide +kernel
theorem dX0_add_31 : decode cX0_add 31 = .ok (.getfield 18, 3) := by decide +kernel
theorem dX0_add_34 : decode cX0_add 34 = .ok (.iconst 1, 1) := by decide +kernel
theorem dX0_add_35 : decode cX0_add 35 = .ok (.iadd, 1) := by decide +kernel
theorem dX0_add_36 : decode cX0_add 36 = .ok (.putfield 18, 3) := by decide +kernel
theorem dX0_add_39 : decode cX0_add 39 = .ok (.return_, 1) := by decide +kernel
set_option maxRecDepth 20000 in
theorem ggX0_firstFree_X0_behindRowAt : GoodIn wsX0_firstFree wsX0_behindRowAt := goodIn_r _ [6, 1, 7, 8, 9, 10, 11] (by decide +kernel) (by decide +kernel)
set_option maxRecDepth 20000 in
theorem gX0_firstFree_X0_behindRowAt : GoodIn wsX0_firstFree (wsV RX0 22 RX0 yX0_behindRowAt wsX0_behindRowAt) := goodIn_app (goodIn_of _ (by decide +kernel)) ggX0_firstFree_X0_behindRowAt
theorem dX0_firstFree_0 : decode cX0_firstFree 0 = .ok (.lload_n 1, 1) := by decide +kernel
theorem dX0_firstFree_1 : decode cX0_firstFree 1 = .ok (.lstore_n 3, 1) := by decide +kernel
theorem dX0_firstFree_2 : decode cX0_firstFree 2 = .ok (.iconst 0, 1) := by decide +kernel
theorem dX0_firstFree_3 : decode cX0_firstFree 3 = .ok (.istore 5, 2) := by decide +kernel
theorem dX0_firstFree_5 : decode cX0_firstFree 5 = .ok (.iload 5, 2) := by decide +kernel
theorem dX0_firstFree_7 : decode cX0_firstFree 7 = .ok (.aload_n 0, 1) := by decide +kernel
theorem dX0_firstFree_8 : decode cX0_firstFree 8 = .ok (.getfield 18, 3) := by decide +kernel
theorem dX0_firstFree_11 : decode cX0_firstFree 11 = .ok (.if_icmp .ge 28, 3) := by decide +kernel
theorem dX0_firstFree_14 : decode cX0_firstFree 14 = .ok (.aload_n 0, 1) := by decide +kernel
theorem dX0_firstFree_15 : decode cX0_firstFree 15 = .ok (.lload_n 3, 1) := by decide +kernel
theorem dX0_firstFree_16 : decode cX0_firstFree 16 = .ok (.invokevirtual 22, 3) := by decide +kernel
theorem dX0_firstFree_19 : decode cX0_firstFree 19 = .ok (.lstore 6, 2) := by decide +kernel
theorem dX0_firstFree_21 : decode cX0_firstFree 21 = .ok (.lload 6, 2) := by decide +kernel
theorem dX0_firstFree_23 : decode cX0_firstFree 23 = .ok (.lload_n 3, 1) := by decide +kernel
theorem dX0_firstFree_24 : decode cX0_firstFree 24 = .ok (.lcmp, 1) := by decide +kernel
theorem dX0_firstFree_25 : decode cX0_firstFree 25 = .ok (.ifCond .ne 5, 3) := by decide +kernel
theorem dX0_firstFree_28 : decode cX0_firstFree 28 = .ok (.lload_n 3, 1) := by decide +kernel
theorem dX0_firstFree_29 : decode cX0_firstFree 29 = .ok (.lreturn, 1) := by decide +kernel
theorem dX0_firstFree_30 : decode cX0_firstFree 30 = .ok (.lload 6, 2) := by decide +kernel
theorem dX0_firstFree_32 : decode cX0_firstFree 32 = .ok (.lstore_n 3, 1) := by decide +kernel
theorem dX0_firstFree_33 : decode cX0_firstFree 33 = .ok (.iinc 5 1, 3) := by decide +kernel
theorem dX0_firstFree_36 : decode cX0_firstFree 36 = .ok (.goto (-31), 3) := by decide +kernel
theorem dX0_firstFree_39 : decode cX0_firstFree 39 = .ok (.lload_n 3, 1) := by decide +kernel
theorem dX0_firstFree_40 : decode cX0_firstFree 40 = .ok (.lreturn, 1) := by decide +kernel
theorem dX0_behindRowAt_0 : decode cX0_behindRowAt 0 = .ok (.iconst 0, 1) := by decide +kernel
theorem dX0_behindRowAt_1 : decode cX0_behindRowAt 1 = .ok (.istore_n 3, 1) := by decide +kernel
theorem dX0_behindRowAt_2 : decode cX0_behindRowAt 2 = .ok (.iload_n 3, 1) := by decide +kernel
theorem dX0_behindRowAt_3 : decode cX0_behindRowAt 3 = .ok (.aload_n 0, 1) := by decide +kernel
theorem dX0_behindRowAt_4 : decode cX0_behindRowAt 4 = .ok (.getfield 18, 3) := by decide +kernel
theorem dX0_behindRowAt_7 : decode cX0_behindRowAt 7 = .ok (.if_icmp .ge 40, 3) := by decide +kernel
theorem dX0_behindRowAt_10 : decode cX0_behindRowAt 10 = .ok (.aload_n 0, 1) := by decide +kernel
theorem dX0_behindRowAt_11 : decode cX0_behindRowAt 11 = .ok (.getfield 9, 3) := by decide +kernel
theorem dX0_behindRowAt_14 : decode cX0_behindRowAt 14 = .ok (.iload_n 3, 1) := by decide +kernel
theorem dX0_behindRowAt_15 : decode cX0_behindRowAt 15 = .ok (.laload, 1) := by decide +kernel
theorem dX0_behindRowAt_16 : decode cX0_behindRowAt 16 = .ok (.lload_n 1, 1) := by decide +kernel
theorem dX0_behindRowAt_17 : decode cX0_behindRowAt 17 = .ok (.lcmp, 1) := by decide +kernel
theorem dX0_behindRowAt_18 : decode cX0_behindRowAt 18 = .ok (.ifCond .gt 23, 3) := by decide +kernel
theorem dX0_behindRowAt_21 : decode cX0_behindRowAt 21 = .ok (.lload_n 1, 1) := by decide +kernel
theorem dX0_behindRowAt_22 : decode cX0_behindRowAt 22 = .ok (.aload_n 0, 1) := by decide +kernel
theorem dX0_behindRowAt_23 : decode cX0_behindRowAt 23 = .ok (.getfield 15, 3) := by decide +kernel
theorem dX0_behindRowAt_26 : decode cX0_behindRowAt 26 = .ok (.iload_n 3, 1) := by decide +kernel
theorem dX0_behindRowAt_27 : decode cX0_behindRowAt 27 = .ok (.laload, 1) := by decide +kernel
theorem dX0_behindRowAt_28 : decode cX0_behindRowAt 28 = .ok (.lcmp, 1) := by decide +kernel
theorem dX0_behindRowAt_29 : decode cX0_behindRowAt 29 = .ok (.ifCond .gt 12, 3) := by decide +kernel
theorem dX0_behindRowAt_32 : decode cX0_behindRowAt 32 = .ok (.aload_n 0, 1) := by decide +kernel
theorem dX0_behindRowAt_33 : decode cX0_behindRowAt 33 = .ok (.getfield 15, 3) := by decide +kernel
theorem dX0_behindRowAt_36 : decode cX0_behindRowAt 36 = .ok (.iload_n 3, 1) := by decide +kernel
theorem dX0_behindRowAt_37 : decode cX0_behindRowAt 37 = .ok (.laload, 1) := by decide +kernel
theorem dX0_behindRowAt_38 : decode cX0_behindRowAt 38 = .ok (.lconst 1, 1) := by decide +kernel
theorem dX0_behindRowAt_39 : decode cX0_behindRowAt 39 = .ok (.ladd, 1) := by decide +kernel
theorem dX0_behindRowAt_40 : decode cX0_behindRowAt 40 = .ok (.lreturn, 1) := by decide +kernel
theorem dX0_behindRowAt_41 : decode cX0_behindRowAt 41 = .ok (.iinc 3 1, 3) := by decide +kernel
theorem dX0_behindRowAt_44 : decode cX0_behindRowAt 44 = .ok (.goto (-42), 3) := by decide +kernel
theorem dX0_behindRowAt_47 : decode cX0_behindRowAt 47 = .ok (.lload_n 1, 1) := by decide +kernel
theorem dX0_behindRowAt_48 : decode cX0_behindRowAt 48 = .ok (.lreturn, 1) := by decide +kernel
theorem dX1_init_0 : decode cX1_init 0 = .ok (.aload_n 0, 1) := by decide +kernel
theorem dX1_init_1 : decode cX1_init 1 = .ok (.invokespecial 3, 3) := by decide +kernel
theorem dX1_init_4 : decode cX1_init 4 = .ok (.aload_n 0, 1) := by decide +kernel
theorem dX1_init_5 : decode cX1_init 5 = .ok (.bipush 50, 2) := by decide +kernel
theorem dX1_init_7 : decode cX1_init 7 = .ok (.newarray .int, 2) := by decide +kernel
theorem dX1_init_9 : decode cX1_init 9 = .ok (.putfield 9, 3) := by decide +kernel
theorem dX1_init_12 : decode cX1_init 12 = .ok (.aload_n 0, 1) := by decide +kernel
theorem dX1_init_13 : decode cX1_init 13 = .ok (.bipush 50, 2) := by decide +kernel
theorem dX1_init_15 : decode cX1_init 15 = .ok (.newarray .long, 2) := by decide +kernel
theorem dX1_init_17 : decode cX1_init 17 = .ok (.putfield 15, 3) := by decide +kernel
theorem dX1_init_20 : decode cX1_init 20 = .ok (.aload_n 0, 1) := by decide +kernel
theorem dX1_init_21 : decode cX1_init 21 = .ok (.bipush 50, 2) := by decide +kernel
theorem dX1_init_23 : decode cX1_init 23 = .ok (.newarray .long, 2) := by decide +kernel
theorem dX1_init_25 : decode cX1_init 25 = .ok (.putfield 19, 3) := by decide +kernel
theorem dX1_init_28 : decode cX1_init 28 = .ok (.aload_n 0, 1) := by decide +kernel
theorem dX1_init_29 : decode cX1_init 29 = .ok (.bipush 50, 2) := by decide +kernel
theorem dX1_init_31 : decode cX1_init 31 = .ok (.newarray .long, 2) := by decide +kernel
theorem dX1_init_33 : decode cX1_init 33 = .ok (.putfield 22, 3) := by decide +kernel
theorem dX1_init_36 : decode cX1_init 36 = .ok (.aload_n 0, 1) := by decide +kernel
theorem dX1_init_37 : decode cX1_init 37 = .ok (.iconst 0, 1) := by decide +kernel
theorem dX1_init_38 : decode cX1_init 38 = .ok (.putfield 25, 3) := by decide +kernel
theorem dX1_init_41 : decode cX1_init 41 = .ok (.return_, 1) := by decide +kernel
theorem dX1_isFull_0 : decode cX1_isFull 0 = .ok (.aload_n 0, 1) := by decide +kernel
theorem dX1_isFull_1 : decode cX1_isFull 1 = .ok (.getfield 25, 3) := by decide +kernel
theorem dX1_isFull_4 : decode cX1_isFull 4 = .ok (.bipush 50, 2) := by decide +kernel
theorem dX1_isFull_6 : decode cX1_isFull 6 = .ok (.if_icmp .lt 7, 3) := by decide +kernel
theorem dX1_isFull_9 : decode cX1_isFull 9 = .ok (.iconst 1, 1) := by decide +kernel
theorem dX1_isFull_10 : decode cX1_isFull 10 = .ok (.goto 4, 3) := by decide +kernel
theorem dX1_isFull_13 : decode cX1_isFull 13 = .ok (.iconst 0, 1) := by decide +kernel
theorem dX1_isFull_14 : decode cX1_isFull 14 = .ok (.ireturn, 1) := by decide +kernel
theorem dX1_touches_0 : decode cX1_touches 0 = .ok (.iconst 0, 1) := by decide +kernel
theorem dX1_touches_1 : decode cX1_touches 1 = .ok (.istore 5, 2) := by decide +kernel
theorem dX1_touches_3 : decode cX1_touches 3 = .ok (.iload 5, 2) := by decide +kernel
theorem dX1_touches_5 : decode cX1_touches 5 = .ok (.aload_n 0, 1) := by decide +kernel
theorem dX1_touches_6 : decode cX1_touches 6 = .ok (.getfield 25, 3) := by decide +kernel
theorem dX1_touches_9 : decode cX1_touches 9 = .ok (.if_icmp .ge 35, 3) := by decide +kernel
theorem dX1_touches_12 : decode cX1_touches 12 = .ok (.lload_n 1, 1) := by decide +kernel
theorem dX1_touches_13 : decode cX1_touches 13 = .ok (.aload_n 0, 1) := by decide +kernel
theorem dX1_touches_14 : decode cX1_touches 14 = .ok (.getfield 19, 3) := by decide +kernel
theorem dX1_touches_17 : decode cX1_touches 17 = .ok (.iload 5, 2) := by decide +kernel
theorem dX1_touches_19 : decode cX1_touches 19 = .ok (.laload, 1) := by decide +kernel
theorem dX1_touches_20 : decode cX1_touches 20 = .ok (.lcmp, 1) := by decide +kernel
theorem dX1_touches_21 : decode cX1_touches 21 = .ok (.ifCond .gt 17, 3) := by decide +kernel
theorem dX1_touches_24 : decode cX1_touches 24 = .ok (.aload_n 0, 1) := by decide +kernel
theorem dX1_touches_25 : decode cX1_touches 25 = .ok (.getfield 15, 3) := by decide +kernel
theorem dX1_touches_28 : decode cX1_touches 28 = .ok (.iload 5, 2) := by decide +kernel
theorem dX1_touches_30 : decode cX1_touches 30 = .ok (.laload, 1) := by decide +kernel
theorem dX1_touches_31 : decode cX1_touches 31 = .ok (.lload_n 3, 1) := by decide +kernel
theorem dX1_touches_32 : decode cX1_touches 32 = .ok (.lcmp, 1) := by decide +kernel
theorem dX1_touches_33 : decode cX1_touches 33 = .ok (.ifCond .gt 5, 3) := by decide +kernel
theorem dX1_touches_36 : decode cX1_touches 36 = .ok (.iconst 1, 1) := by decide +kernel
theorem dX1_touches_37 : decode cX1_touches 37 = .ok (.ireturn, 1) := by decide +kernel
theorem dX1_touches_38 : decode cX1_touches 38 = .ok (.iinc 5 1, 3) := by decide +kernel
theorem dX1_touches_41 : decode cX1_touches 41 = .ok (.goto (-38), 3) := by decide +kernel
theorem dX1_touches_44 : decode cX1_touches 44 = .ok (.iconst 0, 1) := by decide +kernel
theorem dX1_touches_45 : decode cX1_touches 45 = .ok (.ireturn, 1) := by decide +kernel
theorem dX1_add_0 : decode cX1_add 0 = .ok (.aload_n 0, 1) := by decide +kernel
theorem dX1_add_1 : decode cX1_add 1 = .ok (.getfield 25, 3) := by decide +kernel
theorem dX1_add_4 : decode cX1_add 4 = .ok (.bipush 50, 2) := by decide +kernel
theorem dX1_add_6 : decode cX1_add 6 = .ok (.if_icmp .ge 54, 3) := by decide +kernel
theorem dX1_add_9 : decode cX1_add 9 = .ok (.aload_n 0, 1) := by decide +kernel
theorem dX1_add_10 : decode cX1_add 10 = .ok (.getfield 9, 3) := by decide +kernel
theorem dX1_add_13 : decode cX1_add 13 = .ok (.aload_n 0, 1) := by decide +kernel
theorem dX1_add_14 : decode cX1_add 14 = .ok (.getfield 25, 3) := by decide +kernel
theorem dX1_add_17 : decode cX1_add 17 = .ok (.iload_n 1, 1) := by decide +kernel
theorem dX1_add_18 : decode cX1_add 18 = .ok (.iastore, 1) := by decide +kernel
theorem dX1_add_19 : decode cX1_add 19 = .ok (.aload_n 0, 1) := by decide +kernel
theorem dX1_add_20 : decode cX1_add 20 = .ok (.getfield 15, 3) := by decide +kernel
theorem dX1_add_23 : decode cX1_add 23 = .ok (.aload_n 0, 1) := by decide +kernel
theorem dX1_add_24 : decode cX1_add 24 = .ok (.getfield 25, 3) := by decide +kernel
theorem dX1_add_27 : decode cX1_add 27 = .ok (.lload_n 2, 1) := by decide +kernel
theorem dX1_add_28 : decode cX1_add 28 = .ok (.lastore, 1) := by decide +kernel
theorem dX1_add_29 : decode cX1_add 29 = .ok (.aload_n 0, 1) := by decide +kernel
theorem dX1_add_30 : decode cX1_add 30 = .ok (.getfield 19, 3) := by decide +kernel
theorem dX1_add_33 : decode cX1_add 33 = .ok (.aload_n 0, 1) := by decide +kernel
theorem dX1_add_34 : decode cX1_add 34 = .ok (.getfield 25, 3) := by decide +kernel
theorem dX1_add_37 : decode cX1_add 37 = .ok (.lload 4, 2) := by decide +kernel
theorem dX1_add_39 : decode cX1_add 39 = .ok (.lastore, 1) := by decide +kernel
theorem dX1_add_40 : decode cX1_add 40 = .ok (.aload_n 0, 1) := by decide +kernel
theorem dX1_add_41 : decode cX1_add 41 = .ok (.getfield 22, 3) := by decide +kernel
theorem dX1_add_44 : decode cX1_add 44 = .ok (.aload_n 0, 1) := by decide +kernel
theorem dX1_add_45 : decode cX1_add 45 = .ok (.getfield 25, 3) := by decide +kernel
theorem dX1_add_48 : decode cX1_add 48 = .ok (.lload_n 2, 1) := by decide +kernel
theorem dX1_add_49 : decode cX1_add 49 = .ok (.lastore, 1) := by decide +kernel
theorem dX1_add_50 : decode cX1_add 50 = .ok (.aload_n 0, 1) := by decide +kernel
theorem dX1_add_51 : decode cX1_add 51 = .ok (.dup, 1) := by decide +kernel
theorem dX1_add_52 : decode cX1_add 52 = .ok (.getfield 25, 3) := by decide +kernel
theorem dX1_add_55 : decode cX1_add 55 = .ok (.iconst 1, 1) := by decide +kernel
theorem dX1_add_56 : decode cX1_add 56 = .ok (.iadd, 1) := by decide +kernel
theorem dX1_add_57 : decode cX1_add 57 = .ok (.putfield 25, 3) := by decide +kernel
theorem dX1_add_60 : decode cX1_add 60 = .ok (.aload_n 0, 1) := by decide +kernel
theorem dX1_add_61 : decode cX1_add 61 = .ok (.getfield 25, 3) := by decide +kernel
theorem dX1_add_64 : decode cX1_add 64 = .ok (.ireturn, 1) := by decide +kernel
set_option maxRecDepth 20000 in
theorem ggX1_takeSerial_X0_firstFree : GoodIn wsX1_takeSerial wsX0_firstFree := goodIn_r _ [10, 11, 12, 13, 14, 9, 15, 16, 17, 23, 24, 25] (by decide +kernel) (by decide +kernel)
set_option maxRecDepth 20000 in
theorem gX1_takeSerial_X0_firstFree : GoodIn wsX1_takeSerial (wsV RX1 29 RX0 yX0_firstFree wsX0_firstFree) := goodIn_app (goodIn_of _ (by decide +kernel)) ggX1_takeSerial_X0_firstFree
theorem dX1_takeSerial_0 : decode cX1_takeSerial 0 = .ok (.iconst 0, 1) := by decide +kernel
theorem dX1_takeSerial_1 : decode cX1_takeSerial 1 = .ok (.istore_n 3, 1) := by decide +kernel
theorem dX1_takeSerial_2 : decode cX1_takeSerial 2 = .ok (.iload_n 3, 1) := by decide +kernel
theorem dX1_takeSerial_3 : decode cX1_takeSerial 3 = .ok (.aload_n 0, 1) := by decide +kernel
theorem dX1_takeSerial_4 : decode cX1_takeSerial 4 = .ok (.getfield 25, 3) := by decide +kernel
theorem dX1_takeSerial_7 : decode cX1_takeSerial 7 = .ok (.if_icmp .ge 80, 3) := by decide +kernel
theorem dX1_takeSerial_10 : decode cX1_takeSerial 10 = .ok (.aload_n 0, 1) := by decide +kernel
theorem dX1_takeSerial_11 : decode cX1_takeSerial 11 = .ok (.getfield 9, 3) := by decide +kernel
theorem dX1_takeSerial_14 : decode cX1_takeSerial 14 = .ok (.iload_n 3, 1) := by decide +kernel
theorem dX1_takeSerial_15 : decode cX1_takeSerial 15 = .ok (.iaload, 1) := by decide +kernel
theorem dX1_takeSerial_16 : decode cX1_takeSerial 16 = .ok (.iload_n 1, 1) := by decide +kernel
theorem dX1_takeSerial_17 : decode cX1_takeSerial 17 = .ok (.if_icmp .ne 64, 3) := by decide +kernel
theorem dX1_takeSerial_20 : decode cX1_takeSerial 20 = .ok (.aload_n 0, 1) := by decide +kernel
theorem dX1_takeSerial_21 : decode cX1_takeSerial 21 = .ok (.getfield 22, 3) := by decide +kernel
theorem dX1_takeSerial_24 : decode cX1_takeSerial 24 = .ok (.iload_n 3, 1) := by decide +kernel
theorem dX1_takeSerial_25 : decode cX1_takeSerial 25 = .ok (.laload, 1) := by decide +kernel
theorem dX1_takeSerial_26 : decode cX1_takeSerial 26 = .ok (.aload_n 0, 1) := by decide +kernel
theorem dX1_takeSerial_27 : decode cX1_takeSerial 27 = .ok (.getfield 19, 3) := by decide +kernel
theorem dX1_takeSerial_30 : decode cX1_takeSerial 30 = .ok (.iload_n 3, 1) := by decide +kernel
theorem dX1_takeSerial_31 : decode cX1_takeSerial 31 = .ok (.laload, 1) := by decide +kernel
theorem dX1_takeSerial_32 : decode cX1_takeSerial 32 = .ok (.lcmp, 1) := by decide +kernel
theorem dX1_takeSerial_33 : decode cX1_takeSerial 33 = .ok (.ifCond .gt 48, 3) := by decide +kernel
theorem dX1_takeSerial_36 : decode cX1_takeSerial 36 = .ok (.aload_n 2, 1) := by decide +kernel
theorem dX1_takeSerial_37 : decode cX1_takeSerial 37 = .ok (.aload_n 0, 1) := by decide +kernel
theorem dX1_takeSerial_38 : decode cX1_takeSerial 38 = .ok (.getfield 22, 3) := by decide +kernel
theorem dX1_takeSerial_41 : decode cX1_takeSerial 41 = .ok (.iload_n 3, 1) := by decide +kernel
theorem dX1_takeSerial_42 : decode cX1_takeSerial 42 = .ok (.laload, 1) := by decide +kernel
theorem dX1_takeSerial_43 : decode cX1_takeSerial 43 = .ok (.invokevirtual 29, 3) := by decide +kernel
theorem dX1_takeSerial_46 : decode cX1_takeSerial 46 = .ok (.lstore 4, 2) := by decide +kernel
theorem dX1_takeSerial_48 : decode cX1_takeSerial 48 = .ok (.lload 4, 2) := by decide +kernel
theorem dX1_takeSerial_50 : decode cX1_takeSerial 50 = .ok (.aload_n 0, 1) := by decide +kernel
theorem dX1_takeSerial_51 : decode cX1_takeSerial 51 = .ok (.getfield 19, 3) := by decide +kernel
theorem dX1_takeSerial_54 : decode cX1_takeSerial 54 = .ok (.iload_n 3, 1) := by decide +kernel
theorem dX1_takeSerial_55 : decode cX1_takeSerial 55 = .ok (.laload, 1) := by decide +kernel
theorem dX1_takeSerial_56 : decode cX1_takeSerial 56 = .ok (.lcmp, 1) := by decide +kernel
theorem dX1_takeSerial_57 : decode cX1_takeSerial 57 = .ok (.ifCond .gt 16, 3) := by decide +kernel
theorem dX1_takeSerial_60 : decode cX1_takeSerial 60 = .ok (.aload_n 0, 1) := by decide +kernel
theorem dX1_takeSerial_61 : decode cX1_takeSerial 61 = .ok (.getfield 22, 3) := by decide +kernel
theorem dX1_takeSerial_64 : decode cX1_takeSerial 64 = .ok (.iload_n 3, 1) := by decide +kernel
theorem dX1_takeSerial_65 : decode cX1_takeSerial 65 = .ok (.lload 4, 2) := by decide +kernel
theorem dX1_takeSerial_67 : decode cX1_takeSerial 67 = .ok (.lconst 1, 1) := by decide +kernel
theorem dX1_takeSerial_68 : decode cX1_takeSerial 68 = .ok (.ladd, 1) := by decide +kernel
theorem dX1_takeSerial_69 : decode cX1_takeSerial 69 = .ok (.lastore, 1) := by decide +kernel
theorem dX1_takeSerial_70 : decode cX1_takeSerial 70 = .ok (.lload 4, 2) := by decide +kernel
theorem dX1_takeSerial_72 : decode cX1_takeSerial 72 = .ok (.lreturn, 1) := by decide +kernel
theorem dX1_takeSerial_73 : decode cX1_takeSerial 73 = .ok (.aload_n 0, 1) := by decide +kernel
theorem dX1_takeSerial_74 : decode cX1_takeSerial 74 = .ok (.getfield 22, 3) := by decide +kernel
theorem dX1_takeSerial_77 : decode cX1_takeSerial 77 = .ok (.iload_n 3, 1) := by decide +kernel
theorem dX1_takeSerial_78 : decode cX1_takeSerial 78 = .ok (.lload 4, 2) := by decide +kernel
theorem dX1_takeSerial_80 : decode cX1_takeSerial 80 = .ok (.lastore, 1) := by decide +kernel
theorem dX1_takeSerial_81 : decode cX1_takeSerial 81 = .ok (.iinc 3 1, 3) := by decide +kernel
theorem dX1_takeSerial_84 : decode cX1_takeSerial 84 = .ok (.goto (-82), 3) := by decide +kernel
theorem dX1_takeSerial_87 : decode cX1_takeSerial 87 = .ok (.ldc2_w 35, 3) := by decide +kernel
theorem dX1_takeSerial_90 : decode cX1_takeSerial 90 = .ok (.lreturn, 1) := by decide +kernel
set_option maxRecDepth 20000 in
theorem ggX2_letterOf_J0_charAt_5068e : GoodIn wsX2_letterOf wsJ0_charAt_5068e := goodIn_r _ [5, 6, 7, 8, 9, 4, 10, 11, 12, 13, 14, 15, 16, 17, 18, 19, 20, 21, 22, 23, 24, 25, 26, 27, 28, 29, 30, 31, 32, 33, 34, 35, 36, 37, 38, 39, 40, 41] (by decide +kernel) (by decide +kernel)
set_option maxRecDepth 20000 in
theorem gX2_letterOf_J0_charAt_5068e : GoodIn wsX2_letterOf (wsV RX2 13 RJ0 yJ0_charAt_5068e wsJ0_charAt_5068e) := goodIn_app (goodIn_of _ (by decide +kernel)) ggX2_letterOf_J0_charAt_5068e
theorem dX2_letterOf_0 : decode cX2_letterOf 0 = .ok (.iload_n 0, 1) := by decide +kernel
theorem dX2_letterOf_1 : decode cX2_letterOf 1 = .ok (.ifCond .lt 9, 3) := by decide +kernel
theorem dX2_letterOf_4 : decode cX2_letterOf 4 = .ok (.iload_n 0, 1) := by decide +kernel
theorem dX2_letterOf_5 : decode cX2_letterOf 5 = .ok (.bipush 31, 2) := by decide +kernel
theorem dX2_letterOf_7 : decode cX2_letterOf 7 = .ok (.if_icmp .lt 6, 3) := by decide +kernel
theorem dX2_letterOf_10 : decode cX2_letterOf 10 = .ok (.bipush (-101), 2) := by decide +kernel
theorem dX2_letterOf_12 : decode cX2_letterOf 12 = .ok (.ireturn, 1) := by decide +kernel
theorem dX2_letterOf_13 : decode cX2_letterOf 13 = .ok (.ldc 11, 2) := by decide +kernel
theorem dX2_letterOf_15 : decode cX2_letterOf 15 = .ok (.iload_n 0, 1) := by decide +kernel
theorem dX2_letterOf_16 : decode cX2_letterOf 16 = .ok (.invokevirtual 13, 3) := by decide +kernel
theorem dX2_letterOf_19 : decode cX2_letterOf 19 = .ok (.ireturn, 1) := by decide +kernel
set_option maxRecDepth 20000 in
theorem ggX2_valueOf_J0_charAt_5068e : GoodIn wsX2_valueOf wsJ0_charAt_5068e := goodIn_r _ [5, 6, 7, 8, 9, 4, 10, 11, 12, 13, 14, 15, 16, 17, 18, 19, 20, 21, 22, 23, 24, 25, 26, 27, 28, 29, 30, 31, 32, 33, 34, 35, 36, 37, 38, 39, 40, 41] (by decide +kernel) (by decide +kernel)
set_option maxRecDepth 20000 in
theorem gX2_valueOf_J0_charAt_5068e : GoodIn wsX2_valueOf (wsV RX2 13 RJ0 yJ0_charAt_5068e wsJ0_charAt_5068e) := goodIn_app (goodIn_of _ (by decide +kernel)) ggX2_valueOf_J0_charAt_5068e
theorem dX2_valueOf_0 : decode cX2_valueOf 0 = .ok (.iload_n 0, 1) := by decide +kernel
theorem dX2_valueOf_1 : decode cX2_valueOf 1 = .ok (.bipush 97, 2) := by decide +kernel
theorem dX2_valueOf_3 : decode cX2_valueOf 3 = .ok (.if_icmp .lt 19, 3) := by decide +kernel
theorem dX2_valueOf_6 : decode cX2_valueOf 6 = .ok (.iload_n 0, 1) := by decide +kernel
theorem dX2_valueOf_7 : decode cX2_valueOf 7 = .ok (.bipush 122, 2) := by decide +kernel
theorem dX2_valueOf_9 : decode cX2_valueOf 9 = .ok (.if_icmp .gt 13, 3) := by decide +kernel
theorem dX2_valueOf_12 : decode cX2_valueOf 12 = .ok (.iload_n 0, 1) := by decide +kernel
theorem dX2_valueOf_13 : decode cX2_valueOf 13 = .ok (.bipush 97, 2) := by decide +kernel
theorem dX2_valueOf_15 : decode cX2_valueOf 15 = .ok (.isub, 1) := by decide +kernel
theorem dX2_valueOf_16 : decode cX2_valueOf 16 = .ok (.bipush 65, 2) := by decide +kernel
theorem dX2_valueOf_18 : decode cX2_valueOf 18 = .ok (.iadd, 1) := by decide +kernel
theorem dX2_valueOf_19 : decode cX2_valueOf 19 = .ok (.goto 4, 3) := by decide +kernel
theorem dX2_valueOf_22 : decode cX2_valueOf 22 = .ok (.iload_n 0, 1) := by decide +kernel
theorem dX2_valueOf_23 : decode cX2_valueOf 23 = .ok (.istore_n 1, 1) := by decide +kernel
theorem dX2_valueOf_24 : decode cX2_valueOf 24 = .ok (.iconst 0, 1) := by decide +kernel
theorem dX2_valueOf_25 : decode cX2_valueOf 25 = .ok (.istore_n 2, 1) := by decide +kernel
theorem dX2_valueOf_26 : decode cX2_valueOf 26 = .ok (.iload_n 2, 1) := by decide +kernel
theorem dX2_valueOf_27 : decode cX2_valueOf 27 = .ok (.bipush 31, 2) := by decide +kernel
theorem dX2_valueOf_29 : decode cX2_valueOf 29 = .ok (.if_icmp .ge 21, 3) := by decide +kernel
theorem dX2_valueOf_32 : decode cX2_valueOf 32 = .ok (.ldc 11, 2) := by decide +kernel
theorem dX2_valueOf_34 : decode cX2_valueOf 34 = .ok (.iload_n 2, 1) := by decide +kernel
theorem dX2_valueOf_35 : decode cX2_valueOf 35 = .ok (.invokevirtual 13, 3) := by decide +kernel
theorem dX2_valueOf_38 : decode cX2_valueOf 38 = .ok (.iload_n 1, 1) := by decide +kernel
theorem dX2_valueOf_39 : decode cX2_valueOf 39 = .ok (.if_icmp .ne 5, 3) := by decide +kernel
theorem dX2_valueOf_42 : decode cX2_valueOf 42 = .ok (.iload_n 2, 1) := by decide +kernel
theorem dX2_valueOf_43 : decode cX2_valueOf 43 = .ok (.ireturn, 1) := by decide +kernel
theorem dX2_valueOf_44 : decode cX2_valueOf 44 = .ok (.iinc 2 1, 3) := by decide +kernel
theorem dX2_valueOf_47 : decode cX2_valueOf 47 = .ok (.goto (-21), 3) := by decide +kernel
theorem dX2_valueOf_50 : decode cX2_valueOf 50 = .ok (.iconst (-1), 1) := by decide +kernel
theorem dX2_valueOf_51 : decode cX2_valueOf 51 = .ok (.ireturn, 1) := by decide +kernel
theorem dX2_weighted_0 : decode cX2_weighted 0 = .ok (.iload_n 1, 1) := by decide +kernel
theorem dX2_weighted_1 : decode cX2_weighted 1 = .ok (.ifCond .lt 19, 3) := by decide +kernel
theorem dX2_weighted_4 : decode cX2_weighted 4 = .ok (.iload_n 1, 1) := by decide +kernel
theorem dX2_weighted_5 : decode cX2_weighted 5 = .ok (.bipush 9, 2) := by decide +kernel
theorem dX2_weighted_7 : decode cX2_weighted 7 = .ok (.if_icmp .ge 13, 3) := by decide +kernel
theorem dX2_weighted_10 : decode cX2_weighted 10 = .ok (.iload_n 0, 1) := by decide +kernel
theorem dX2_weighted_11 : decode cX2_weighted 11 = .ok (.getstatic 19, 3) := by decide +kernel
theorem dX2_weighted_14 : decode cX2_weighted 14 = .ok (.iload_n 1, 1) := by decide +kernel
theorem dX2_weighted_15 : decode cX2_weighted 15 = .ok (.iaload, 1) := by decide +kernel
theorem dX2_weighted_16 : decode cX2_weighted 16 = .ok (.imul, 1) := by decide +kernel
theorem dX2_weighted_17 : decode cX2_weighted 17 = .ok (.goto 4, 3) := by decide +kernel
theorem dX2_weighted_20 : decode cX2_weighted 20 = .ok (.iconst 0, 1) := by decide +kernel
theorem dX2_weighted_21 : decode cX2_weighted 21 = .ok (.ireturn, 1) := by decide +kernel
set_option maxRecDepth 20000 in
theorem ggX2_valueAt_X2_checkOf : GoodIn wsX2_valueAt wsX2_checkOf := goodIn_r _ [4, 5, 6, 3, 7, 8, 9, 10, 11, 12, 13, 14, 15, 16, 17, 18] (by decide +kernel) (by decide +kernel)
set_option maxRecDepth 20000 in
theorem gX2_valueAt_X2_checkOf : GoodIn wsX2_valueAt (va_wsS RX2 23 yX2_checkOf wsX2_checkOf) := goodIn_app (goodIn_of _ (by decide +kernel)) ggX2_valueAt_X2_checkOf
set_option maxRecDepth 20000 in
theorem ggX2_valueAt_X2_plainValueAt : GoodIn wsX2_valueAt wsX2_plainValueAt := goodIn_r _ [7, 8, 9, 10, 11, 12, 13, 14] (by decide +kernel) (by decide +kernel)
set_option maxRecDepth 20000 in
theorem gX2_valueAt_X2_plainValueAt : GoodIn wsX2_valueAt (va_wsS RX2 27 yX2_plainValueAt wsX2_plainValueAt) := goodIn_app (goodIn_of _ (by decide +kernel)) ggX2_valueAt_X2_plainValueAt
theorem dX2_valueAt_0 : decode cX2_valueAt 0 = .ok (.iload_n 2, 1) := by decide +kernel
theorem dX2_valueAt_1 : decode cX2_valueAt 1 = .ok (.bipush 8, 2) := by decide +kernel
theorem dX2_valueAt_3 : decode cX2_valueAt 3 = .ok (.if_icmp .ne 10, 3) := by decide +kernel
theorem dX2_valueAt_6 : decode cX2_valueAt 6 = .ok (.lload_n 0, 1) := by decide +kernel
theorem dX2_valueAt_7 : decode cX2_valueAt 7 = .ok (.invokestatic 23, 3) := by decide +kernel
theorem dX2_valueAt_10 : decode cX2_valueAt 10 = .ok (.goto 8, 3) := by decide +kernel
theorem dX2_valueAt_13 : decode cX2_valueAt 13 = .ok (.lload_n 0, 1) := by decide +kernel
theorem dX2_valueAt_14 : decode cX2_valueAt 14 = .ok (.iload_n 2, 1) := by decide +kernel
theorem dX2_valueAt_15 : decode cX2_valueAt 15 = .ok (.invokestatic 27, 3) := by decide +kernel
theorem dX2_valueAt_18 : decode cX2_valueAt 18 = .ok (.ireturn, 1) := by decide +kernel
set_option maxRecDepth 20000 in
theorem ggX2_plainValueAt_X6_serviceOf : GoodIn wsX2_plainValueAt wsX6_serviceOf := goodIn_r _ [4, 5] (by decide +kernel) (by decide +kernel)
set_option maxRecDepth 20000 in
theorem gX2_plainValueAt_X6_serviceOf_n31 : GoodIn wsX2_plainValueAt (wsX6_serviceOf) := ggX2_plainValueAt_X6_serviceOf
set_option maxRecDepth 20000 in
theorem ggX2_plainValueAt_X6_serialOf : GoodIn wsX2_plainValueAt wsX6_serialOf := goodIn_r _ [7, 5] (by decide +kernel) (by decide +kernel)
set_option maxRecDepth 20000 in
theorem gX2_plainValueAt_X6_serialOf_n35 : GoodIn wsX2_plainValueAt (wsX6_serialOf) := ggX2_plainValueAt_X6_serialOf
theorem dX2_plainValueAt_0 : decode cX2_plainValueAt 0 = .ok (.iload_n 2, 1) := by decide +kernel
theorem dX2_plainValueAt_1 : decode cX2_plainValueAt 1 = .ok (.ifCond .ne 9, 3) := by decide +kernel
theorem dX2_plainValueAt_4 : decode cX2_plainValueAt 4 = .ok (.lload_n 0, 1) := by decide +kernel
theorem dX2_plainValueAt_5 : decode cX2_plainValueAt 5 = .ok (.invokestatic 31, 3) := by decide +kernel
theorem dX2_plainValueAt_8 : decode cX2_plainValueAt 8 = .ok (.l2i, 1) := by decide +kernel
theorem dX2_plainValueAt_9 : decode cX2_plainValueAt 9 = .ok (.ireturn, 1) := by decide +kernel
theorem dX2_plainValueAt_10 : decode cX2_plainValueAt 10 = .ok (.lload_n 0, 1) := by decide +kernel
theorem dX2_plainValueAt_11 : decode cX2_plainValueAt 11 = .ok (.invokestatic 35, 3) := by decide +kernel
theorem dX2_plainValueAt_14 : decode cX2_plainValueAt 14 = .ok (.lstore_n 3, 1) := by decide +kernel
theorem dX2_plainValueAt_15 : decode cX2_plainValueAt 15 = .ok (.bipush 7, 2) := by decide +kernel
theorem dX2_plainValueAt_17 : decode cX2_plainValueAt 17 = .ok (.istore 5, 2) := by decide +kernel
theorem dX2_plainValueAt_19 : decode cX2_plainValueAt 19 = .ok (.iload 5, 2) := by decide +kernel
theorem dX2_plainValueAt_21 : decode cX2_plainValueAt 21 = .ok (.iload_n 2, 1) := by decide +kernel
theorem dX2_plainValueAt_22 : decode cX2_plainValueAt 22 = .ok (.if_icmp .le 15, 3) := by decide +kernel
theorem dX2_plainValueAt_25 : decode cX2_plainValueAt 25 = .ok (.lload_n 3, 1) := by decide +kernel
theorem dX2_plainValueAt_26 : decode cX2_plainValueAt 26 = .ok (.ldc2_w 38, 3) := by decide +kernel
theorem dX2_plainValueAt_29 : decode cX2_plainValueAt 29 = .ok (.ldiv, 1) := by decide +kernel
theorem dX2_plainValueAt_30 : decode cX2_plainValueAt 30 = .ok (.lstore_n 3, 1) := by decide +kernel
theorem dX2_plainValueAt_31 : decode cX2_plainValueAt 31 = .ok (.iinc 5 (-1), 3) := by decide +kernel
theorem dX2_plainValueAt_34 : decode cX2_plainValueAt 34 = .ok (.goto (-15), 3) := by decide +kernel
theorem dX2_plainValueAt_37 : decode cX2_plainValueAt 37 = .ok (.lload_n 3, 1) := by decide +kernel
theorem dX2_plainValueAt_38 : decode cX2_plainValueAt 38 = .ok (.ldc2_w 38, 3) := by decide +kernel
theorem dX2_plainValueAt_41 : decode cX2_plainValueAt 41 = .ok (.lrem, 1) := by decide +kernel
theorem dX2_plainValueAt_42 : decode cX2_plainValueAt 42 = .ok (.l2i, 1) := by decide +kernel
theorem dX2_plainValueAt_43 : decode cX2_plainValueAt 43 = .ok (.ireturn, 1) := by decide +kernel
set_option maxRecDepth 20000 in
theorem ggX2_checkOf_X2_plainValueAt : GoodIn wsX2_checkOf wsX2_plainValueAt := goodIn_r _ [4, 5, 6, 7, 8, 9, 10, 11] (by decide +kernel) (by decide +kernel)
set_option maxRecDepth 20000 in
theorem gX2_checkOf_X2_plainValueAt : GoodIn wsX2_checkOf (va_wsS RX2 27 yX2_plainValueAt wsX2_plainValueAt) := goodIn_app (goodIn_of _ (by decide +kernel)) ggX2_checkOf_X2_plainValueAt
set_option maxRecDepth 20000 in
theorem ggX2_checkOf_X2_weighted : GoodIn wsX2_checkOf wsX2_weighted := goodIn_r _ [14, 15] (by decide +kernel) (by decide +kernel)
set_option maxRecDepth 20000 in
theorem gX2_checkOf_X2_weighted : GoodIn wsX2_checkOf (va_wsS RX2 40 yX2_weighted wsX2_weighted) := goodIn_app (goodIn_of _ (by decide +kernel)) ggX2_checkOf_X2_weighted
theorem dX2_checkOf_0 : decode cX2_checkOf 0 = .ok (.iconst 0, 1) := by decide +kernel
theorem dX2_checkOf_1 : decode cX2_checkOf 1 = .ok (.istore_n 2, 1) := by decide +kernel
theorem dX2_checkOf_2 : decode cX2_checkOf 2 = .ok (.iconst 0, 1) := by decide +kernel
theorem dX2_checkOf_3 : decode cX2_checkOf 3 = .ok (.istore_n 3, 1) := by decide +kernel
theorem dX2_checkOf_4 : decode cX2_checkOf 4 = .ok (.iload_n 3, 1) := by decide +kernel
theorem dX2_checkOf_5 : decode cX2_checkOf 5 = .ok (.bipush 8, 2) := by decide +kernel
theorem dX2_checkOf_7 : decode cX2_checkOf 7 = .ok (.if_icmp .ge 21, 3) := by decide +kernel
theorem dX2_checkOf_10 : decode cX2_checkOf 10 = .ok (.iload_n 2, 1) := by decide +kernel
theorem dX2_checkOf_11 : decode cX2_checkOf 11 = .ok (.lload_n 0, 1) := by decide +kernel
theorem dX2_checkOf_12 : decode cX2_checkOf 12 = .ok (.iload_n 3, 1) := by decide +kernel
theorem dX2_checkOf_13 : decode cX2_checkOf 13 = .ok (.invokestatic 27, 3) := by decide +kernel
theorem dX2_checkOf_16 : decode cX2_checkOf 16 = .ok (.iload_n 3, 1) := by decide +kernel
theorem dX2_checkOf_17 : decode cX2_checkOf 17 = .ok (.invokestatic 40, 3) := by decide +kernel
theorem dX2_checkOf_20 : decode cX2_checkOf 20 = .ok (.iadd, 1) := by decide +kernel
theorem dX2_checkOf_21 : decode cX2_checkOf 21 = .ok (.istore_n 2, 1) := by decide +kernel
theorem dX2_checkOf_22 : decode cX2_checkOf 22 = .ok (.iinc 3 1, 3) := by decide +kernel
theorem dX2_checkOf_25 : decode cX2_checkOf 25 = .ok (.goto (-21), 3) := by decide +kernel
theorem dX2_checkOf_28 : decode cX2_checkOf 28 = .ok (.bipush 31, 2) := by decide +kernel
theorem dX2_checkOf_30 : decode cX2_checkOf 30 = .ok (.iload_n 2, 1) := by decide +kernel
theorem dX2_checkOf_31 : decode cX2_checkOf 31 = .ok (.bipush 31, 2) := by decide +kernel
theorem dX2_checkOf_33 : decode cX2_checkOf 33 = .ok (.irem, 1) := by decide +kernel
theorem dX2_checkOf_34 : decode cX2_checkOf 34 = .ok (.isub, 1) := by decide +kernel
theorem dX2_checkOf_35 : decode cX2_checkOf 35 = .ok (.bipush 31, 2) := by decide +kernel
theorem dX2_checkOf_37 : decode cX2_checkOf 37 = .ok (.irem, 1) := by decide +kernel
theorem dX2_checkOf_38 : decode cX2_checkOf 38 = .ok (.ireturn, 1) := by decide +kernel
set_option maxRecDepth 20000 in
theorem ggX2_canStand_X6_isService : GoodIn wsX2_canStand wsX6_isService := goodIn_r _ [3] (by decide +kernel) (by decide +kernel)
set_option maxRecDepth 20000 in
theorem gX2_canStand_X6_isService_n44 : GoodIn wsX2_canStand (wsX6_isService) := ggX2_canStand_X6_isService
set_option maxRecDepth 20000 in
theorem ggX2_canStand_X2_weighted : GoodIn wsX2_canStand wsX2_weighted := goodIn_r _ [7, 8] (by decide +kernel) (by decide +kernel)
set_option maxRecDepth 20000 in
theorem gX2_canStand_X2_weighted : GoodIn wsX2_canStand (va_wsS RX2 40 yX2_weighted wsX2_weighted) := goodIn_app (goodIn_of _ (by decide +kernel)) ggX2_canStand_X2_weighted
theorem dX2_canStand_0 : decode cX2_canStand 0 = .ok (.iload_n 0, 1) := by decide +kernel
theorem dX2_canStand_1 : decode cX2_canStand 1 = .ok (.ifCond .lt 9, 3) := by decide +kernel
theorem dX2_canStand_4 : decode cX2_canStand 4 = .ok (.iload_n 1, 1) := by decide +kernel
theorem dX2_canStand_5 : decode cX2_canStand 5 = .ok (.bipush 9, 2) := by decide +kernel
theorem dX2_canStand_7 : decode cX2_canStand 7 = .ok (.if_icmp .lt 5, 3) := by decide +kernel
theorem dX2_canStand_10 : decode cX2_canStand 10 = .ok (.iconst 0, 1) := by decide +kernel
theorem dX2_canStand_11 : decode cX2_canStand 11 = .ok (.ireturn, 1) := by decide +kernel
theorem dX2_canStand_12 : decode cX2_canStand 12 = .ok (.iload_n 1, 1) := by decide +kernel
theorem dX2_canStand_13 : decode cX2_canStand 13 = .ok (.ifCond .ne 8, 3) := by decide +kernel
theorem dX2_canStand_16 : decode cX2_canStand 16 = .ok (.iload_n 0, 1) := by decide +kernel
theorem dX2_canStand_17 : decode cX2_canStand 17 = .ok (.invokestatic 44, 3) := by decide +kernel
theorem dX2_canStand_20 : decode cX2_canStand 20 = .ok (.ireturn, 1) := by decide +kernel
theorem dX2_canStand_21 : decode cX2_canStand 21 = .ok (.iload_n 1, 1) := by decide +kernel
theorem dX2_canStand_22 : decode cX2_canStand 22 = .ok (.bipush 8, 2) := by decide +kernel
theorem dX2_canStand_24 : decode cX2_canStand 24 = .ok (.if_icmp .lt 16, 3) := by decide +kernel
theorem dX2_canStand_27 : decode cX2_canStand 27 = .ok (.iload_n 2, 1) := by decide +kernel
theorem dX2_canStand_28 : decode cX2_canStand 28 = .ok (.iload_n 0, 1) := by decide +kernel
theorem dX2_canStand_29 : decode cX2_canStand 29 = .ok (.iload_n 1, 1) := by decide +kernel
theorem dX2_canStand_30 : decode cX2_canStand 30 = .ok (.invokestatic 40, 3) := by decide +kernel
theorem dX2_canStand_33 : decode cX2_canStand 33 = .ok (.iadd, 1) := by decide +kernel
theorem dX2_canStand_34 : decode cX2_canStand 34 = .ok (.bipush 31, 2) := by decide +kernel
theorem dX2_canStand_36 : decode cX2_canStand 36 = .ok (.irem, 1) := by decide +kernel
theorem dX2_canStand_37 : decode cX2_canStand 37 = .ok (.ifCond .ne 7, 3) := by decide +kernel
theorem dX2_canStand_40 : decode cX2_canStand 40 = .ok (.iconst 1, 1) := by decide +kernel
theorem dX2_canStand_41 : decode cX2_canStand 41 = .ok (.goto 4, 3) := by decide +kernel
theorem dX2_canStand_44 : decode cX2_canStand 44 = .ok (.iconst 0, 1) := by decide +kernel
theorem dX2_canStand_45 : decode cX2_canStand 45 = .ok (.ireturn, 1) := by decide +kernel
theorem dX3_init_0 : decode cX3_init 0 = .ok (.aload_n 0, 1) := by decide +kernel
theorem dX3_init_1 : decode cX3_init 1 = .ok (.invokespecial 3, 3) := by decide +kernel
theorem dX3_init_4 : decode cX3_init 4 = .ok (.aload_n 0, 1) := by decide +kernel
theorem dX3_init_5 : decode cX3_init 5 = .ok (.sipush 512, 3) := by decide +kernel
theorem dX3_init_8 : decode cX3_init 8 = .ok (.newarray .long, 2) := by decide +kernel
theorem dX3_init_10 : decode cX3_init 10 = .ok (.putfield 9, 3) := by decide +kernel
theorem dX3_init_13 : decode cX3_init 13 = .ok (.aload_n 0, 1) := by decide +kernel
theorem dX3_init_14 : decode cX3_init 14 = .ok (.iconst 0, 1) := by decide +kernel
theorem dX3_init_15 : decode cX3_init 15 = .ok (.putfield 15, 3) := by decide +kernel
theorem dX3_init_18 : decode cX3_init 18 = .ok (.return_, 1) := by decide +kernel
theorem dX3_isFull_0 : decode cX3_isFull 0 = .ok (.aload_n 0, 1) := by decide +kernel
theorem dX3_isFull_1 : decode cX3_isFull 1 = .ok (.getfield 15, 3) := by decide +kernel
theorem dX3_isFull_4 : decode cX3_isFull 4 = .ok (.sipush 512, 3) := by decide +kernel
theorem dX3_isFull_7 : decode cX3_isFull 7 = .ok (.if_icmp .lt 7, 3) := by decide +kernel
theorem dX3_isFull_10 : decode cX3_isFull 10 = .ok (.iconst 1, 1) := by decide +kernel
theorem dX3_isFull_11 : decode cX3_isFull 11 = .ok (.goto 4, 3) := by decide +kernel
theorem dX3_isFull_14 : decode cX3_isFull 14 = .ok (.iconst 0, 1) := by decide +kernel
theorem dX3_isFull_15 : decode cX3_isFull 15 = .ok (.ireturn, 1) := by decide +kernel
theorem dX3_add_0 : decode cX3_add 0 = .ok (.aload_n 0, 1) := by decide +kernel
theorem dX3_add_1 : decode cX3_add 1 = .ok (.getfield 15, 3) := by decide +kernel
theorem dX3_add_4 : decode cX3_add 4 = .ok (.sipush 512, 3) := by decide +kernel
theorem dX3_add_7 : decode cX3_add 7 = .ok (.if_icmp .ge 23, 3) := by decide +kernel
theorem dX3_add_10 : decode cX3_add 10 = .ok (.aload_n 0, 1) := by decide +kernel
theorem dX3_add_11 : decode cX3_add 11 = .ok (.getfield 9, 3) := by decide +kernel
theorem dX3_add_14 : decode cX3_add 14 = .ok (.aload_n 0, 1) := by decide +kernel
theorem dX3_add_15 : decode cX3_add 15 = .ok (.getfield 15, 3) := by decide +kernel
theorem dX3_add_18 : decode cX3_add 18 = .ok (.lload_n 1, 1) := by decide +kernel
theorem dX3_add_19 : decode cX3_add 19 = .ok (.lastore, 1) := by decide +kernel
theorem dX3_add_20 : decode cX3_add 20 = .ok (.aload_n 0, 1) := by decide +kernel
theorem dX3_add_21 : decode cX3_add 21 = .ok (.dup, 1) := by decide +kernel
theorem dX3_add_22 : decode cX3_add 22 = .ok (.getfield 15, 3) := by decide +kernel
theorem dX3_add_25 : decode cX3_add 25 = .ok (.iconst 1, 1) := by decide +kernel
theorem dX3_add_26 : decode cX3_add 26 = .ok (.iadd, 1) := by decide +kernel
theorem dX3_add_27 : decode cX3_add 27 = .ok (.putfield 15, 3) := by decide +kernel
theorem dX3_add_30 : decode cX3_add 30 = .ok (.return_, 1) := by decide +kernel
theorem dX3_contains_0 : decode cX3_contains 0 = .ok (.iconst 0, 1) := by decide +kernel
theorem dX3_contains_1 : decode cX3_contains 1 = .ok (.istore_n 3, 1) := by decide +kernel
theorem dX3_contains_2 : decode cX3_contains 2 = .ok (.iload_n 3, 1) := by decide +kernel
theorem dX3_contains_3 : decode cX3_contains 3 = .ok (.aload_n 0, 1) := by decide +kernel
theorem dX3_contains_4 : decode cX3_contains 4 = .ok (.getfield 15, 3) := by decide +kernel
theorem dX3_contains_7 : decode cX3_contains 7 = .ok (.if_icmp .ge 22, 3) := by decide +kernel
theorem dX3_contains_10 : decode cX3_contains 10 = .ok (.aload_n 0, 1) := by decide +kernel
theorem dX3_contains_11 : decode cX3_contains 11 = .ok (.getfield 9, 3) := by decide +kernel
theorem dX3_contains_14 : decode cX3_contains 14 = .ok (.iload_n 3, 1) := by decide +kernel
theorem dX3_contains_15 : decode cX3_contains 15 = .ok (.laload, 1) := by decide +kernel
theorem dX3_contains_16 : decode cX3_contains 16 = .ok (.lload_n 1, 1) := by decide +kernel
theorem dX3_contains_17 : decode cX3_contains 17 = .ok (.lcmp, 1) := by decide +kernel
theorem dX3_contains_18 : decode cX3_contains 18 = .ok (.ifCond .ne 5, 3) := by decide +kernel
theorem dX3_contains_21 : decode cX3_contains 21 = .ok (.iconst 1, 1) := by decide +kernel
theorem dX3_contains_22 : decode cX3_contains 22 = .ok (.ireturn, 1) := by decide +kernel
theorem dX3_contains_23 : decode cX3_contains 23 = .ok (.iinc 3 1, 3) := by decide +kernel
theorem dX3_contains_26 : decode cX3_contains 26 = .ok (.goto (-24), 3) := by decide +kernel
theorem dX3_contains_29 : decode cX3_contains 29 = .ok (.iconst 0, 1) := by decide +kernel
theorem dX3_contains_30 : decode cX3_contains 30 = .ok (.ireturn, 1) := by decide +kernel
set_option maxRecDepth 20000 in
theorem ggX3_removeRow_X6_serialOf : GoodIn wsX3_removeRow wsX6_serialOf := goodIn_r _ [5, 6] (by decide +kernel) (by decide +kernel)
set_option maxRecDepth 20000 in
theorem gX3_removeRow_X6_serialOf_n19 : GoodIn wsX3_removeRow (wsX6_serialOf) := ggX3_removeRow_X6_serialOf
theorem dX3_removeRow_0 : decode cX3_removeRow 0 = .ok (.aload_n 0, 1) := by decide +kernel
theorem dX3_removeRow_1 : decode cX3_removeRow 1 = .ok (.getfield 15, 3) := by decide +kernel
theorem dX3_removeRow_4 : decode cX3_removeRow 4 = .ok (.istore 5, 2) := by decide +kernel
theorem dX3_removeRow_6 : decode cX3_removeRow 6 = .ok (.iload 5, 2) := by decide +kernel
theorem dX3_removeRow_8 : decode cX3_removeRow 8 = .ok (.iconst 1, 1) := by decide +kernel
theorem dX3_removeRow_9 : decode cX3_removeRow 9 = .ok (.isub, 1) := by decide +kernel
theorem dX3_removeRow_10 : decode cX3_removeRow 10 = .ok (.istore 6, 2) := by decide +kernel
theorem dX3_removeRow_12 : decode cX3_removeRow 12 = .ok (.iload 6, 2) := by decide +kernel
theorem dX3_removeRow_14 : decode cX3_removeRow 14 = .ok (.ifCond .lt 61, 3) := by decide +kernel
theorem dX3_removeRow_17 : decode cX3_removeRow 17 = .ok (.aload_n 0, 1) := by decide +kernel
theorem dX3_removeRow_18 : decode cX3_removeRow 18 = .ok (.getfield 9, 3) := by decide +kernel
theorem dX3_removeRow_21 : decode cX3_removeRow 21 = .ok (.iload 6, 2) := by decide +kernel
theorem dX3_removeRow_23 : decode cX3_removeRow 23 = .ok (.laload, 1) := by decide +kernel
theorem dX3_removeRow_24 : decode cX3_removeRow 24 = .ok (.invokestatic 19, 3) := by decide +kernel
theorem dX3_removeRow_27 : decode cX3_removeRow 27 = .ok (.lstore 7, 2) := by decide +kernel
theorem dX3_removeRow_29 : decode cX3_removeRow 29 = .ok (.lload_n 1, 1) := by decide +kernel
theorem dX3_removeRow_30 : decode cX3_removeRow 30 = .ok (.lload 7, 2) := by decide +kernel
theorem dX3_removeRow_32 : decode cX3_removeRow 32 = .ok (.lcmp, 1) := by decide +kernel
theorem dX3_removeRow_33 : decode cX3_removeRow 33 = .ok (.ifCond .gt 36, 3) := by decide +kernel
theorem dX3_removeRow_36 : decode cX3_removeRow 36 = .ok (.lload 7, 2) := by decide +kernel
theorem dX3_removeRow_38 : decode cX3_removeRow 38 = .ok (.lload_n 3, 1) := by decide +kernel
theorem dX3_removeRow_39 : decode cX3_removeRow 39 = .ok (.lcmp, 1) := by decide +kernel
theorem dX3_removeRow_40 : decode cX3_removeRow 40 = .ok (.ifCond .gt 29, 3) := by decide +kernel
theorem dX3_removeRow_43 : decode cX3_removeRow 43 = .ok (.aload_n 0, 1) := by decide +kernel
theorem dX3_removeRow_44 : decode cX3_removeRow 44 = .ok (.dup, 1) := by decide +kernel
theorem dX3_removeRow_45 : decode cX3_removeRow 45 = .ok (.getfield 15, 3) := by decide +kernel
theorem dX3_removeRow_48 : decode cX3_removeRow 48 = .ok (.iconst 1, 1) := by decide +kernel
theorem dX3_removeRow_49 : decode cX3_removeRow 49 = .ok (.isub, 1) := by decide +kernel
theorem dX3_removeRow_50 : decode cX3_removeRow 50 = .ok (.putfield 15, 3) := by decide +kernel
theorem dX3_removeRow_53 : decode cX3_removeRow 53 = .ok (.aload_n 0, 1) := by decide +kernel
theorem dX3_removeRow_54 : decode cX3_removeRow 54 = .ok (.getfield 9, 3) := by decide +kernel
theorem dX3_removeRow_57 : decode cX3_removeRow 57 = .ok (.iload 6, 2) := by decide +kernel
theorem dX3_removeRow_59 : decode cX3_removeRow 59 = .ok (.aload_n 0, 1) := by decide +kernel
theorem dX3_removeRow_60 : decode cX3_removeRow 60 = .ok (.getfield 9, 3) := by decide +kernel
theorem dX3_removeRow_63 : decode cX3_removeRow 63 = .ok (.aload_n 0, 1) := by decide +kernel
theorem dX3_removeRow_64 : decode cX3_removeRow 64 = .ok (.getfield 15, 3) := by decide +kernel
theorem dX3_removeRow_67 : decode cX3_removeRow 67 = .ok (.laload, 1) := by decide +kernel
theorem dX3_removeRow_68 : decode cX3_removeRow 68 = .ok (.lastore, 1) := by decide +kernel
theorem dX3_removeRow_69 : decode cX3_removeRow 69 = .ok (.iinc 6 (-1), 3) := by decide +kernel
theorem dX3_removeRow_72 : decode cX3_removeRow 72 = .ok (.goto (-60), 3) := by decide +kernel
theorem dX3_removeRow_75 : decode cX3_removeRow 75 = .ok (.iload 5, 2) := by decide +kernel
theorem dX3_removeRow_77 : decode cX3_removeRow 77 = .ok (.aload_n 0, 1) := by decide +kernel
theorem dX3_removeRow_78 : decode cX3_removeRow 78 = .ok (.getfield 15, 3) := by decide +kernel
theorem dX3_removeRow_81 : decode cX3_removeRow 81 = .ok (.isub, 1) := by decide +kernel
theorem dX3_removeRow_82 : decode cX3_removeRow 82 = .ok (.ireturn, 1) := by decide +kernel
theorem dX4_init_0 : decode cX4_init 0 = .ok (.aload_n 0, 1) := by decide +kernel
theorem dX4_init_1 : decode cX4_init 1 = .ok (.invokespecial 3, 3) := by decide +kernel
theorem dX4_init_4 : decode cX4_init 4 = .ok (.aload_n 0, 1) := by decide +kernel
theorem dX4_init_5 : decode cX4_init 5 = .ok (.sipush 300, 3) := by decide +kernel
theorem dX4_init_8 : decode cX4_init 8 = .ok (.newarray .int, 2) := by decide +kernel
theorem dX4_init_10 : decode cX4_init 10 = .ok (.putfield 9, 3) := by decide +kernel
theorem dX4_init_13 : decode cX4_init 13 = .ok (.aload_n 0, 1) := by decide +kernel
theorem dX4_init_14 : decode cX4_init 14 = .ok (.sipush 300, 3) := by decide +kernel
theorem dX4_init_17 : decode cX4_init 17 = .ok (.newarray .long, 2) := by decide +kernel
theorem dX4_init_19 : decode cX4_init 19 = .ok (.putfield 15, 3) := by decide +kernel
theorem dX4_init_22 : decode cX4_init 22 = .ok (.aload_n 0, 1) := by decide +kernel
theorem dX4_init_23 : decode cX4_init 23 = .ok (.sipush 300, 3) := by decide +kernel
theorem dX4_init_26 : decode cX4_init 26 = .ok (.newarray .long, 2) := by decide +kernel
theorem dX4_init_28 : decode cX4_init 28 = .ok (.putfield 19, 3) := by decide +kernel
theorem dX4_init_31 : decode cX4_init 31 = .ok (.aload_n 0, 1) := by decide +kernel
theorem dX4_init_32 : decode cX4_init 32 = .ok (.iconst 0, 1) := by decide +kernel
theorem dX4_init_33 : decode cX4_init 33 = .ok (.putfield 22, 3) := by decide +kernel
theorem dX4_init_36 : decode cX4_init 36 = .ok (.return_, 1) := by decide +kernel
theorem dX4_isFull_0 : decode cX4_isFull 0 = .ok (.aload_n 0, 1) := by decide +kernel
theorem dX4_isFull_1 : decode cX4_isFull 1 = .ok (.getfield 22, 3) := by decide +kernel
theorem dX4_isFull_4 : decode cX4_isFull 4 = .ok (.sipush 300, 3) := by decide +kernel
theorem dX4_isFull_7 : decode cX4_isFull 7 = .ok (.if_icmp .lt 7, 3) := by decide +kernel
theorem dX4_isFull_10 : decode cX4_isFull 10 = .ok (.iconst 1, 1) := by decide +kernel
theorem dX4_isFull_11 : decode cX4_isFull 11 = .ok (.goto 4, 3) := by decide +kernel
theorem dX4_isFull_14 : decode cX4_isFull 14 = .ok (.iconst 0, 1) := by decide +kernel
theorem dX4_isFull_15 : decode cX4_isFull 15 = .ok (.ireturn, 1) := by decide +kernel
theorem dX4_numberOfReference_0 : decode cX4_numberOfReference 0 = .ok (.iconst 0, 1) := by decide +kernel
theorem dX4_numberOfReference_1 : decode cX4_numberOfReference 1 = .ok (.istore 4, 2) := by decide +kernel
theorem dX4_numberOfReference_3 : decode cX4_numberOfReference 3 = .ok (.iload 4, 2) := by decide +kernel
theorem dX4_numberOfReference_5 : decode cX4_numberOfReference 5 = .ok (.aload_n 0, 1) := by decide +kernel
theorem dX4_numberOfReference_6 : decode cX4_numberOfReference 6 = .ok (.getfield 22, 3) := by decide +kernel
theorem dX4_numberOfReference_9 : decode cX4_numberOfReference 9 = .ok (.if_icmp .ge 40, 3) := by decide +kernel
theorem dX4_numberOfReference_12 : decode cX4_numberOfReference 12 = .ok (.aload_n 0, 1) := by decide +kernel
theorem dX4_numberOfReference_13 : decode cX4_numberOfReference 13 = .ok (.getfield 9, 3) := by decide +kernel
theorem dX4_numberOfReference_16 : decode cX4_numberOfReference 16 = .ok (.iload 4, 2) := by decide +kernel
theorem dX4_numberOfReference_18 : decode cX4_numberOfReference 18 = .ok (.iaload, 1) := by decide +kernel
theorem dX4_numberOfReference_19 : decode cX4_numberOfReference 19 = .ok (.iload_n 1, 1) := by decide +kernel
theorem dX4_numberOfReference_20 : decode cX4_numberOfReference 20 = .ok (.if_icmp .ne 23, 3) := by decide +kernel
theorem dX4_numberOfReference_23 : decode cX4_numberOfReference 23 = .ok (.aload_n 0, 1) := by decide +kernel
theorem dX4_numberOfReference_24 : decode cX4_numberOfReference 24 = .ok (.getfield 15, 3) := by decide +kernel
theorem dX4_numberOfReference_27 : decode cX4_numberOfReference 27 = .ok (.iload 4, 2) := by decide +kernel
theorem dX4_numberOfReference_29 : decode cX4_numberOfReference 29 = .ok (.laload, 1) := by decide +kernel
theorem dX4_numberOfReference_30 : decode cX4_numberOfReference 30 = .ok (.lload_n 2, 1) := by decide +kernel
theorem dX4_numberOfReference_31 : decode cX4_numberOfReference 31 = .ok (.lcmp, 1) := by decide +kernel
theorem dX4_numberOfReference_32 : decode cX4_numberOfReference 32 = .ok (.ifCond .ne 11, 3) := by decide +kernel
theorem dX4_numberOfReference_35 : decode cX4_numberOfReference 35 = .ok (.aload_n 0, 1) := by decide +kernel
theorem dX4_numberOfReference_36 : decode cX4_numberOfReference 36 = .ok (.getfield 19, 3) := by decide +kernel
theorem dX4_numberOfReference_39 : decode cX4_numberOfReference 39 = .ok (.iload 4, 2) := by decide +kernel
theorem dX4_numberOfReference_41 : decode cX4_numberOfReference 41 = .ok (.laload, 1) := by decide +kernel
theorem dX4_numberOfReference_42 : decode cX4_numberOfReference 42 = .ok (.lreturn, 1) := by decide +kernel
theorem dX4_numberOfReference_43 : decode cX4_numberOfReference 43 = .ok (.iinc 4 1, 3) := by decide +kernel
theorem dX4_numberOfReference_46 : decode cX4_numberOfReference 46 = .ok (.goto (-43), 3) := by decide +kernel
theorem dX4_numberOfReference_49 : decode cX4_numberOfReference 49 = .ok (.ldc2_w 26, 3) := by decide +kernel
theorem dX4_numberOfReference_52 : decode cX4_numberOfReference 52 = .ok (.lreturn, 1) := by decide +kernel
theorem dX4_replace_0 : decode cX4_replace 0 = .ok (.iconst 0, 1) := by decide +kernel
theorem dX4_replace_1 : decode cX4_replace 1 = .ok (.istore 6, 2) := by decide +kernel
theorem dX4_replace_3 : decode cX4_replace 3 = .ok (.iload 6, 2) := by decide +kernel
theorem dX4_replace_5 : decode cX4_replace 5 = .ok (.aload_n 0, 1) := by decide +kernel
theorem dX4_replace_6 : decode cX4_replace 6 = .ok (.getfield 22, 3) := by decide +kernel
theorem dX4_replace_9 : decode cX4_replace 9 = .ok (.if_icmp .ge 43, 3) := by decide +kernel
theorem dX4_replace_12 : decode cX4_replace 12 = .ok (.aload_n 0, 1) := by decide +kernel
theorem dX4_replace_13 : decode cX4_replace 13 = .ok (.getfield 9, 3) := by decide +kernel
theorem dX4_replace_16 : decode cX4_replace 16 = .ok (.iload 6, 2) := by decide +kernel
theorem dX4_replace_18 : decode cX4_replace 18 = .ok (.iaload, 1) := by decide +kernel
theorem dX4_replace_19 : decode cX4_replace 19 = .ok (.iload_n 1, 1) := by decide +kernel
theorem dX4_replace_20 : decode cX4_replace 20 = .ok (.if_icmp .ne 26, 3) := by decide +kernel
theorem dX4_replace_23 : decode cX4_replace 23 = .ok (.aload_n 0, 1) := by decide +kernel
theorem dX4_replace_24 : decode cX4_replace 24 = .ok (.getfield 19, 3) := by decide +kernel
theorem dX4_replace_27 : decode cX4_replace 27 = .ok (.iload 6, 2) := by decide +kernel
theorem dX4_replace_29 : decode cX4_replace 29 = .ok (.laload, 1) := by decide +kernel
theorem dX4_replace_30 : decode cX4_replace 30 = .ok (.lload 4, 2) := by decide +kernel
theorem dX4_replace_32 : decode cX4_replace 32 = .ok (.lcmp, 1) := by decide +kernel
theorem dX4_replace_33 : decode cX4_replace 33 = .ok (.ifCond .ne 13, 3) := by decide +kernel
theorem dX4_replace_36 : decode cX4_replace 36 = .ok (.aload_n 0, 1) := by decide +kernel
theorem dX4_replace_37 : decode cX4_replace 37 = .ok (.getfield 15, 3) := by decide +kernel
theorem dX4_replace_40 : decode cX4_replace 40 = .ok (.iload 6, 2) := by decide +kernel
theorem dX4_replace_42 : decode cX4_replace 42 = .ok (.lload_n 2, 1) := by decide +kernel
theorem dX4_replace_43 : decode cX4_replace 43 = .ok (.lastore, 1) := by decide +kernel
theorem dX4_replace_44 : decode cX4_replace 44 = .ok (.iconst 1, 1) := by decide +kernel
theorem dX4_replace_45 : decode cX4_replace 45 = .ok (.ireturn, 1) := by decide +kernel
theorem dX4_replace_46 : decode cX4_replace 46 = .ok (.iinc 6 1, 3) := by decide +kernel
theorem dX4_replace_49 : decode cX4_replace 49 = .ok (.goto (-46), 3) := by decide +kernel
theorem dX4_replace_52 : decode cX4_replace 52 = .ok (.iconst 0, 1) := by decide +kernel
theorem dX4_replace_53 : decode cX4_replace 53 = .ok (.ireturn, 1) := by decide +kernel
theorem dX4_add_0 : decode cX4_add 0 = .ok (.aload_n 0, 1) := by decide +kernel
theorem dX4_add_1 : decode cX4_add 1 = .ok (.getfield 22, 3) := by decide +kernel
theorem dX4_add_4 : decode cX4_add 4 = .ok (.sipush 300, 3) := by decide +kernel
theorem dX4_add_7 : decode cX4_add 7 = .ok (.if_icmp .ge 44, 3) := by decide +kernel
theorem dX4_add_10 : decode cX4_add 10 = .ok (.aload_n 0, 1) := by decide +kernel
theorem dX4_add_11 : decode cX4_add 11 = .ok (.getfield 9, 3) := by decide +kernel
theorem dX4_add_14 : decode cX4_add 14 = .ok (.aload_n 0, 1) := by decide +kernel
theorem dX4_add_15 : decode cX4_add 15 = .ok (.getfield 22, 3) := by decide +kernel
theorem dX4_add_18 : decode cX4_add 18 = .ok (.iload_n 1, 1) := by decide +kernel
theorem dX4_add_19 : decode cX4_add 19 = .ok (.iastore, 1) := by decide +kernel
theorem dX4_add_20 : decode cX4_add 20 = .ok (.aload_n 0, 1) := by decide +kernel
theorem dX4_add_21 : decode cX4_add 21 = .ok (.getfield 15, 3) := by decide +kernel
theorem dX4_add_24 : decode cX4_add 24 = .ok (.aload_n 0, 1) := by decide +kernel
theorem dX4_add_25 : decode cX4_add 25 = .ok (.getfield 22, 3) := by decide +kernel
theorem dX4_add_28 : decode cX4_add 28 = .ok (.lload_n 2, 1) := by decide +kernel
theorem dX4_add_29 : decode cX4_add 29 = .ok (.lastore, 1) := by decide +kernel
theorem dX4_add_30 : decode cX4_add 30 = .ok (.aload_n 0, 1) := by decide +kernel
theorem dX4_add_31 : decode cX4_add 31 = .ok (.getfield 19, 3) := by decide +kernel
theorem dX4_add_34 : decode cX4_add 34 = .ok (.aload_n 0, 1) := by decide +kernel
theorem dX4_add_35 : decode cX4_add 35 = .ok (.getfield 22, 3) := by decide +kernel
theorem dX4_add_38 : decode cX4_add 38 = .ok (.lload 4, 2) := by decide +kernel
theorem dX4_add_40 : decode cX4_add 40 = .ok (.lastore, 1) := by decide +kernel
theorem dX4_add_41 : decode cX4_add 41 = .ok (.aload_n 0, 1) := by decide +kernel
theorem dX4_add_42 : decode cX4_add 42 = .ok (.dup, 1) := by decide +kernel
theorem dX4_add_43 : decode cX4_add 43 = .ok (.getfield 22, 3) := by decide +kernel
theorem dX4_add_46 : decode cX4_add 46 = .ok (.iconst 1, 1) := by decide +kernel
theorem dX4_add_47 : decode cX4_add 47 = .ok (.iadd, 1) := by decide +kernel
theorem dX4_add_48 : decode cX4_add 48 = .ok (.putfield 22, 3) := by decide +kernel
theorem dX4_add_51 : decode cX4_add 51 = .ok (.return_, 1) := by decide +kernel
theorem dX5_init_0 : decode cX5_init 0 = .ok (.aload_n 0, 1) := by decide +kernel
theorem dX5_init_1 : decode cX5_init 1 = .ok (.invokespecial 3, 3) := by decide +kernel
theorem dX5_init_4 : decode cX5_init 4 = .ok (.aload_n 0, 1) := by decide +kernel
theorem dX5_init_5 : decode cX5_init 5 = .ok (.bipush 60, 2) := by decide +kernel
theorem dX5_init_7 : decode cX5_init 7 = .ok (.newarray .int, 2) := by decide +kernel
theorem dX5_init_9 : decode cX5_init 9 = .ok (.putfield 9, 3) := by decide +kernel
theorem dX5_init_12 : decode cX5_init 12 = .ok (.aload_n 0, 1) := by decide +kernel
theorem dX5_init_13 : decode cX5_init 13 = .ok (.iconst 0, 1) := by decide +kernel
theorem dX5_init_14 : decode cX5_init 14 = .ok (.putfield 15, 3) := by decide +kernel
theorem dX5_init_17 : decode cX5_init 17 = .ok (.return_, 1) := by decide +kernel
theorem dX5_add_0 : decode cX5_add 0 = .ok (.aload_n 0, 1) := by decide +kernel
theorem dX5_add_1 : decode cX5_add 1 = .ok (.getfield 15, 3) := by decide +kernel
theorem dX5_add_4 : decode cX5_add 4 = .ok (.bipush 60, 2) := by decide +kernel
theorem dX5_add_6 : decode cX5_add 6 = .ok (.if_icmp .ge 23, 3) := by decide +kernel
theorem dX5_add_9 : decode cX5_add 9 = .ok (.aload_n 0, 1) := by decide +kernel
theorem dX5_add_10 : decode cX5_add 10 = .ok (.getfield 9, 3) := by decide +kernel
theorem dX5_add_13 : decode cX5_add 13 = .ok (.aload_n 0, 1) := by decide +kernel
theorem dX5_add_14 : decode cX5_add 14 = .ok (.getfield 15, 3) := by decide +kernel
theorem dX5_add_17 : decode cX5_add 17 = .ok (.iload_n 1, 1) := by decide +kernel
theorem dX5_add_18 : decode cX5_add 18 = .ok (.iastore, 1) := by decide +kernel
theorem dX5_add_19 : decode cX5_add 19 = .ok (.aload_n 0, 1) := by decide +kernel
theorem dX5_add_20 : decode cX5_add 20 = .ok (.dup, 1) := by decide +kernel
theorem dX5_add_21 : decode cX5_add 21 = .ok (.getfield 15, 3) := by decide +kernel
theorem dX5_add_24 : decode cX5_add 24 = .ok (.iconst 1, 1) := by decide +kernel
theorem dX5_add_25 : decode cX5_add 25 = .ok (.iadd, 1) := by decide +kernel
theorem dX5_add_26 : decode cX5_add 26 = .ok (.putfield 15, 3) := by decide +kernel
theorem dX5_add_29 : decode cX5_add 29 = .ok (.return_, 1) := by decide +kernel
theorem dX5_clear_0 : decode cX5_clear 0 = .ok (.aload_n 0, 1) := by decide +kernel
theorem dX5_clear_1 : decode cX5_clear 1 = .ok (.iconst 0, 1) := by decide +kernel
theorem dX5_clear_2 : decode cX5_clear 2 = .ok (.putfield 15, 3) := by decide +kernel
theorem dX5_clear_5 : decode cX5_clear 5 = .ok (.return_, 1) := by decide +kernel
set_option maxRecDepth 20000 in
theorem ggX5_parse_X2_valueOf : GoodIn wsX5_parse wsX2_valueOf := goodIn_r _ [8, 9, 10, 11, 12, 13, 14, 15, 16, 17, 18, 19, 20, 21, 22, 23, 24, 25, 26, 27, 28, 29, 30, 31, 32, 33, 34, 35, 36, 37, 38, 39, 40, 41, 42, 43, 44, 45, 46, 47, 48, 49] (by decide +kernel) (by decide +kernel)
set_option maxRecDepth 20000 in
theorem gX5_parse_X2_valueOf : GoodIn wsX5_parse (va_wsS RX5 19 yX2_valueOf wsX2_valueOf) := goodIn_app (goodIn_of _ (by decide +kernel)) ggX5_parse_X2_valueOf
set_option maxRecDepth 20000 in
theorem ggX5_parse_X2_canStand : GoodIn wsX5_parse wsX2_canStand := goodIn_r _ [52, 53, 54, 55, 56, 57, 7, 58, 59] (by decide +kernel) (by decide +kernel)
set_option maxRecDepth 20000 in
theorem gX5_parse_X2_canStand : GoodIn wsX5_parse (va_wsS RX5 25 yX2_canStand wsX2_canStand) := goodIn_app (goodIn_of _ (by decide +kernel)) ggX5_parse_X2_canStand
set_option maxRecDepth 20000 in
theorem ggX5_parse_X2_weighted : GoodIn wsX5_parse wsX2_weighted := goodIn_r _ [58, 59] (by decide +kernel) (by decide +kernel)
set_option maxRecDepth 20000 in
theorem gX5_parse_X2_weighted : GoodIn wsX5_parse (va_wsS RX5 31 yX2_weighted wsX2_weighted) := goodIn_app (goodIn_of _ (by decide +kernel)) ggX5_parse_X2_weighted
theorem dX5_parse_0 : decode cX5_parse 0 = .ok (.lconst 0, 1) := by decide +kernel
theorem dX5_parse_1 : decode cX5_parse 1 = .ok (.lstore_n 1, 1) := by decide +kernel
theorem dX5_parse_2 : decode cX5_parse 2 = .ok (.iconst 0, 1) := by decide +kernel
theorem dX5_parse_3 : decode cX5_parse 3 = .ok (.istore_n 3, 1) := by decide +kernel
theorem dX5_parse_4 : decode cX5_parse 4 = .ok (.iconst 0, 1) := by decide +kernel
theorem dX5_parse_5 : decode cX5_parse 5 = .ok (.istore 4, 2) := by decide +kernel
theorem dX5_parse_7 : decode cX5_parse 7 = .ok (.iconst 0, 1) := by decide +kernel
theorem dX5_parse_8 : decode cX5_parse 8 = .ok (.istore 5, 2) := by decide +kernel
theorem dX5_parse_10 : decode cX5_parse 10 = .ok (.iload 5, 2) := by decide +kernel
theorem dX5_parse_12 : decode cX5_parse 12 = .ok (.aload_n 0, 1) := by decide +kernel
theorem dX5_parse_13 : decode cX5_parse 13 = .ok (.getfield 15, 3) := by decide +kernel
theorem dX5_parse_16 : decode cX5_parse 16 = .ok (.if_icmp .ge 83, 3) := by decide +kernel
theorem dX5_parse_19 : decode cX5_parse 19 = .ok (.aload_n 0, 1) := by decide +kernel
theorem dX5_parse_20 : decode cX5_parse 20 = .ok (.getfield 9, 3) := by decide +kernel
theorem dX5_parse_23 : decode cX5_parse 23 = .ok (.iload 5, 2) := by decide +kernel
theorem dX5_parse_25 : decode cX5_parse 25 = .ok (.iaload, 1) := by decide +kernel
theorem dX5_parse_26 : decode cX5_parse 26 = .ok (.bipush 32, 2) := by decide +kernel
theorem dX5_parse_28 : decode cX5_parse 28 = .ok (.if_icmp .ne 6, 3) := by decide +kernel
theorem dX5_parse_31 : decode cX5_parse 31 = .ok (.goto 62, 3) := by decide +kernel
theorem dX5_parse_34 : decode cX5_parse 34 = .ok (.aload_n 0, 1) := by decide +kernel
theorem dX5_parse_35 : decode cX5_parse 35 = .ok (.getfield 9, 3) := by decide +kernel
theorem dX5_parse_38 : decode cX5_parse 38 = .ok (.iload 5, 2) := by decide +kernel
theorem dX5_parse_40 : decode cX5_parse 40 = .ok (.iaload, 1) := by decide +kernel
theorem dX5_parse_41 : decode cX5_parse 41 = .ok (.invokestatic 19, 3) := by decide +kernel
theorem dX5_parse_44 : decode cX5_parse 44 = .ok (.istore 6, 2) := by decide +kernel
theorem dX5_parse_46 : decode cX5_parse 46 = .ok (.iload 6, 2) := by decide +kernel
theorem dX5_parse_48 : decode cX5_parse 48 = .ok (.iload 4, 2) := by decide +kernel
theorem dX5_parse_50 : decode cX5_parse 50 = .ok (.iload_n 3, 1) := by decide +kernel
theorem dX5_parse_51 : decode cX5_parse 51 = .ok (.invokestatic 25, 3) := by decide +kernel
theorem dX5_parse_54 : decode cX5_parse 54 = .ok (.ifCond .ne 9, 3) := by decide +kernel
theorem dX5_parse_57 : decode cX5_parse 57 = .ok (.iconst (-1), 1) := by decide +kernel
theorem dX5_parse_58 : decode cX5_parse 58 = .ok (.iload 5, 2) := by decide +kernel
theorem dX5_parse_60 : decode cX5_parse 60 = .ok (.isub, 1) := by decide +kernel
theorem dX5_parse_61 : decode cX5_parse 61 = .ok (.i2l, 1) := by decide +kernel
theorem dX5_parse_62 : decode cX5_parse 62 = .ok (.lreturn, 1) := by decide +kernel
theorem dX5_parse_63 : decode cX5_parse 63 = .ok (.iload 4, 2) := by decide +kernel
theorem dX5_parse_65 : decode cX5_parse 65 = .ok (.bipush 8, 2) := by decide +kernel
theorem dX5_parse_67 : decode cX5_parse 67 = .ok (.if_icmp .ge 13, 3) := by decide +kernel
theorem dX5_parse_70 : decode cX5_parse 70 = .ok (.lload_n 1, 1) := by decide +kernel
theorem dX5_parse_71 : decode cX5_parse 71 = .ok (.ldc2_w 29, 3) := by decide +kernel
theorem dX5_parse_74 : decode cX5_parse 74 = .ok (.lmul, 1) := by decide +kernel
theorem dX5_parse_75 : decode cX5_parse 75 = .ok (.iload 6, 2) := by decide +kernel
theorem dX5_parse_77 : decode cX5_parse 77 = .ok (.i2l, 1) := by decide +kernel
theorem dX5_parse_78 : decode cX5_parse 78 = .ok (.ladd, 1) := by decide +kernel
theorem dX5_parse_79 : decode cX5_parse 79 = .ok (.lstore_n 1, 1) := by decide +kernel
theorem dX5_parse_80 : decode cX5_parse 80 = .ok (.iload_n 3, 1) := by decide +kernel
theorem dX5_parse_81 : decode cX5_parse 81 = .ok (.iload 6, 2) := by decide +kernel
theorem dX5_parse_83 : decode cX5_parse 83 = .ok (.iload 4, 2) := by decide +kernel
theorem dX5_parse_85 : decode cX5_parse 85 = .ok (.invokestatic 31, 3) := by decide +kernel
theorem dX5_parse_88 : decode cX5_parse 88 = .ok (.iadd, 1) := by decide +kernel
theorem dX5_parse_89 : decode cX5_parse 89 = .ok (.istore_n 3, 1) := by decide +kernel
theorem dX5_parse_90 : decode cX5_parse 90 = .ok (.iinc 4 1, 3) := by decide +kernel
theorem dX5_parse_93 : decode cX5_parse 93 = .ok (.iinc 5 1, 3) := by decide +kernel
theorem dX5_parse_96 : decode cX5_parse 96 = .ok (.goto (-86), 3) := by decide +kernel
theorem dX5_parse_99 : decode cX5_parse 99 = .ok (.iload 4, 2) := by decide +kernel
theorem dX5_parse_101 : decode cX5_parse 101 = .ok (.bipush 9, 2) := by decide +kernel
theorem dX5_parse_103 : decode cX5_parse 103 = .ok (.if_icmp .ge 13, 3) := by decide +kernel
theorem dX5_parse_106 : decode cX5_parse 106 = .ok (.iconst (-1), 1) := by decide +kernel
theorem dX5_parse_107 : decode cX5_parse 107 = .ok (.aload_n 0, 1) := by decide +kernel
theorem dX5_parse_108 : decode cX5_parse 108 = .ok (.getfield 15, 3) := by decide +kernel
theorem dX5_parse_111 : decode cX5_parse 111 = .ok (.isub, 1) := by decide +kernel
theorem dX5_parse_112 : decode cX5_parse 112 = .ok (.i2l, 1) := by decide +kernel
theorem dX5_parse_113 : decode cX5_parse 113 = .ok (.goto 8, 3) := by decide +kernel
theorem dX5_parse_116 : decode cX5_parse 116 = .ok (.ldc2_w 35, 3) := by decide +kernel
theorem dX5_parse_119 : decode cX5_parse 119 = .ok (.lload_n 1, 1) := by decide +kernel
theorem dX5_parse_120 : decode cX5_parse 120 = .ok (.ladd, 1) := by decide +kernel
theorem dX5_parse_121 : decode cX5_parse 121 = .ok (.lreturn, 1) := by decide +kernel
set_option maxRecDepth 20000 in
theorem ggX6_init_X1_init : GoodIn wsX6_init wsX1_init := goodIn_r _ [25, 26, 2, 3, 27, 28, 29, 30, 31, 32, 33, 57, 58, 59, 60, 61] (by decide +kernel) (by decide +kernel)
set_option maxRecDepth 20000 in
theorem gX6_init_X1_init_n9 : GoodIn wsX6_init (wsX1_init) := ggX6_init_X1_init
set_option maxRecDepth 20000 in
theorem ggX6_init_X0_init : GoodIn wsX6_init wsX0_init := goodIn_r _ [35, 36, 2, 3, 29, 37, 38, 39, 67, 68, 69] (by decide +kernel) (by decide +kernel)
set_option maxRecDepth 20000 in
theorem gX6_init_X0_init_n18 : GoodIn wsX6_init (wsX0_init) := ggX6_init_X0_init
set_option maxRecDepth 20000 in
theorem ggX6_init_X3_init : GoodIn wsX6_init wsX3_init := goodIn_r _ [41, 42, 2, 3, 29, 43, 44, 70, 71] (by decide +kernel) (by decide +kernel)
set_option maxRecDepth 20000 in
theorem gX6_init_X3_init_n25 : GoodIn wsX6_init (wsX3_init) := ggX6_init_X3_init
set_option maxRecDepth 20000 in
theorem ggX6_init_X4_init : GoodIn wsX6_init wsX4_init := goodIn_r _ [46, 47, 2, 3, 27, 48, 29, 49, 50, 51, 72, 73, 74, 75] (by decide +kernel) (by decide +kernel)
set_option maxRecDepth 20000 in
theorem gX6_init_X4_init_n32 : GoodIn wsX6_init (wsX4_init) := ggX6_init_X4_init
set_option maxRecDepth 20000 in
theorem ggX6_init_X5_init : GoodIn wsX6_init wsX5_init := goodIn_r _ [53, 54, 2, 3, 27, 55, 56, 76, 77] (by decide +kernel) (by decide +kernel)
set_option maxRecDepth 20000 in
theorem gX6_init_X5_init_n39 : GoodIn wsX6_init (wsX5_init) := ggX6_init_X5_init
theorem dX6_init_0 : decode cX6_init 0 = .ok (.aload_n 0, 1) := by decide +kernel
theorem dX6_init_1 : decode cX6_init 1 = .ok (.invokespecial 1, 3) := by decide +kernel
theorem dX6_init_4 : decode cX6_init 4 = .ok (.aload_n 0, 1) := by decide +kernel
theorem dX6_init_5 : decode cX6_init 5 = .ok (.new 7, 3) := by decide +kernel
theorem dX6_init_8 : decode cX6_init 8 = .ok (.dup, 1) := by decide +kernel
theorem dX6_init_9 : decode cX6_init 9 = .ok (.invokespecial 9, 3) := by decide +kernel
theorem dX6_init_12 : decode cX6_init 12 = .ok (.putfield 10, 3) := by decide +kernel
theorem dX6_init_15 : decode cX6_init 15 = .ok (.aload_n 0, 1) := by decide +kernel
theorem dX6_init_16 : decode cX6_init 16 = .ok (.new 16, 3) := by decide +kernel
theorem dX6_init_19 : decode cX6_init 19 = .ok (.dup, 1) := by decide +kernel
theorem dX6_init_20 : decode cX6_init 20 = .ok (.invokespecial 18, 3) := by decide +kernel
theorem dX6_init_23 : decode cX6_init 23 = .ok (.putfield 19, 3) := by decide +kernel
theorem dX6_init_26 : decode cX6_init 26 = .ok (.aload_n 0, 1) := by decide +kernel
theorem dX6_init_27 : decode cX6_init 27 = .ok (.new 23, 3) := by decide +kernel
theorem dX6_init_30 : decode cX6_init 30 = .ok (.dup, 1) := by decide +kernel
theorem dX6_init_31 : decode cX6_init 31 = .ok (.invokespecial 25, 3) := by decide +kernel
theorem dX6_init_34 : decode cX6_init 34 = .ok (.putfield 26, 3) := by decide +kernel
theorem dX6_init_37 : decode cX6_init 37 = .ok (.aload_n 0, 1) := by decide +kernel
theorem dX6_init_38 : decode cX6_init 38 = .ok (.new 30, 3) := by decide +kernel
theorem dX6_init_41 : decode cX6_init 41 = .ok (.dup, 1) := by decide +kernel
theorem dX6_init_42 : decode cX6_init 42 = .ok (.invokespecial 32, 3) := by decide +kernel
theorem dX6_init_45 : decode cX6_init 45 = .ok (.putfield 33, 3) := by decide +kernel
theorem dX6_init_48 : decode cX6_init 48 = .ok (.aload_n 0, 1) := by decide +kernel
theorem dX6_init_49 : decode cX6_init 49 = .ok (.new 37, 3) := by decide +kernel
theorem dX6_init_52 : decode cX6_init 52 = .ok (.dup, 1) := by decide +kernel
theorem dX6_init_53 : decode cX6_init 53 = .ok (.invokespecial 39, 3) := by decide +kernel
theorem dX6_init_56 : decode cX6_init 56 = .ok (.putfield 40, 3) := by decide +kernel
theorem dX6_init_59 : decode cX6_init 59 = .ok (.return_, 1) := by decide +kernel
set_option maxRecDepth 20000 in
theorem ggX6_block_X6_isOffice : GoodIn wsX6_block wsX6_isOffice := goodIn_r _ [6] (by decide +kernel) (by decide +kernel)
set_option maxRecDepth 20000 in
theorem gX6_block_X6_isOffice : GoodIn wsX6_block (va_wsS RX6 44 yX6_isOffice wsX6_isOffice) := goodIn_app (goodIn_of _ (by decide +kernel)) ggX6_block_X6_isOffice
set_option maxRecDepth 20000 in
theorem ggX6_block_X6_isRowBelow : GoodIn wsX6_block wsX6_isRowBelow := goodIn_r _ [9] (by decide +kernel) (by decide +kernel)
set_option maxRecDepth 20000 in
theorem gX6_block_X6_isRowBelow : GoodIn wsX6_block (va_wsS RX6 50 yX6_isRowBelow wsX6_isRowBelow) := goodIn_app (goodIn_of _ (by decide +kernel)) ggX6_block_X6_isRowBelow
set_option maxRecDepth 20000 in
theorem ggX6_block_X1_touches : GoodIn wsX6_block wsX1_touches := goodIn_r _ [14, 15, 16, 17, 33, 34, 35, 36, 37] (by decide +kernel) (by decide +kernel)
set_option maxRecDepth 20000 in
theorem gX6_block_X1_touches : GoodIn wsX6_block (wsV RX6 54 RX1 yX1_touches wsX1_touches) := goodIn_app (goodIn_of _ (by decide +kernel)) ggX6_block_X1_touches
set_option maxRecDepth 20000 in
theorem ggX6_block_X1_isFull : GoodIn wsX6_block wsX1_isFull := goodIn_r _ [21, 15, 33, 34, 35, 36, 37] (by decide +kernel) (by decide +kernel)
set_option maxRecDepth 20000 in
theorem gX6_block_X1_isFull : GoodIn wsX6_block (wsV RX6 58 RX1 yX1_isFull wsX1_isFull) := goodIn_app (goodIn_of _ (by decide +kernel)) ggX6_block_X1_isFull
set_option maxRecDepth 20000 in
theorem ggX6_block_X1_add : GoodIn wsX6_block wsX1_add := goodIn_r _ [25, 15, 26, 17, 16, 27, 33, 34, 35, 36, 37] (by decide +kernel) (by decide +kernel)
set_option maxRecDepth 20000 in
theorem gX6_block_X1_add : GoodIn wsX6_block (wsV RX6 62 RX1 yX1_add wsX1_add) := goodIn_app (goodIn_of _ (by decide +kernel)) ggX6_block_X1_add
theorem dX6_block_0 : decode cX6_block 0 = .ok (.iload_n 1, 1) := by decide +kernel
theorem dX6_block_1 : decode cX6_block 1 = .ok (.invokestatic 44, 3) := by decide +kernel
theorem dX6_block_4 : decode cX6_block 4 = .ok (.ifCond .eq 15, 3) := by decide +kernel
theorem dX6_block_7 : decode cX6_block 7 = .ok (.lload_n 2, 1) := by decide +kernel
theorem dX6_block_8 : decode cX6_block 8 = .ok (.lload 4, 2) := by decide +kernel
theorem dX6_block_10 : decode cX6_block 10 = .ok (.ldc2_w 48, 3) := by decide +kernel
theorem dX6_block_13 : decode cX6_block 13 = .ok (.invokestatic 50, 3) := by decide +kernel
theorem dX6_block_16 : decode cX6_block 16 = .ok (.ifCond .ne 6, 3) := by decide +kernel
theorem dX6_block_19 : decode cX6_block 19 = .ok (.bipush (-102), 2) := by decide +kernel
theorem dX6_block_21 : decode cX6_block 21 = .ok (.ireturn, 1) := by decide +kernel
theorem dX6_block_22 : decode cX6_block 22 = .ok (.aload_n 0, 1) := by decide +kernel
theorem dX6_block_23 : decode cX6_block 23 = .ok (.getfield 10, 3) := by decide +kernel
theorem dX6_block_26 : decode cX6_block 26 = .ok (.lload_n 2, 1) := by decide +kernel
theorem dX6_block_27 : decode cX6_block 27 = .ok (.lload 4, 2) := by decide +kernel
theorem dX6_block_29 : decode cX6_block 29 = .ok (.invokevirtual 54, 3) := by decide +kernel
theorem dX6_block_32 : decode cX6_block 32 = .ok (.ifCond .eq 6, 3) := by decide +kernel
theorem dX6_block_35 : decode cX6_block 35 = .ok (.bipush (-103), 2) := by decide +kernel
theorem dX6_block_37 : decode cX6_block 37 = .ok (.ireturn, 1) := by decide +kernel
theorem dX6_block_38 : decode cX6_block 38 = .ok (.aload_n 0, 1) := by decide +kernel
theorem dX6_block_39 : decode cX6_block 39 = .ok (.getfield 10, 3) := by decide +kernel
theorem dX6_block_42 : decode cX6_block 42 = .ok (.invokevirtual 58, 3) := by decide +kernel
theorem dX6_block_45 : decode cX6_block 45 = .ok (.ifCond .eq 6, 3) := by decide +kernel
theorem dX6_block_48 : decode cX6_block 48 = .ok (.bipush (-104), 2) := by decide +kernel
theorem dX6_block_50 : decode cX6_block 50 = .ok (.ireturn, 1) := by decide +kernel
theorem dX6_block_51 : decode cX6_block 51 = .ok (.aload_n 0, 1) := by decide +kernel
theorem dX6_block_52 : decode cX6_block 52 = .ok (.getfield 10, 3) := by decide +kernel
theorem dX6_block_55 : decode cX6_block 55 = .ok (.iload_n 1, 1) := by decide +kernel
theorem dX6_block_56 : decode cX6_block 56 = .ok (.lload_n 2, 1) := by decide +kernel
theorem dX6_block_57 : decode cX6_block 57 = .ok (.lload 4, 2) := by decide +kernel
theorem dX6_block_59 : decode cX6_block 59 = .ok (.invokevirtual 62, 3) := by decide +kernel
theorem dX6_block_62 : decode cX6_block 62 = .ok (.ireturn, 1) := by decide +kernel
set_option maxRecDepth 20000 in
theorem ggX6_next_X6_isOffice : GoodIn wsX6_next wsX6_isOffice := goodIn_r _ [9] (by decide +kernel) (by decide +kernel)
set_option maxRecDepth 20000 in
theorem gX6_next_X6_isOffice : GoodIn wsX6_next (va_wsS RX6 44 yX6_isOffice wsX6_isOffice) := goodIn_app (goodIn_of _ (by decide +kernel)) ggX6_next_X6_isOffice
set_option maxRecDepth 20000 in
theorem ggX6_next_X6_isService : GoodIn wsX6_next wsX6_isService := goodIn_r _ [12] (by decide +kernel) (by decide +kernel)
set_option maxRecDepth 20000 in
theorem gX6_next_X6_isService : GoodIn wsX6_next (va_wsS RX6 66 yX6_isService wsX6_isService) := goodIn_app (goodIn_of _ (by decide +kernel)) ggX6_next_X6_isService
set_option maxRecDepth 20000 in
theorem ggX6_next_X3_isFull : GoodIn wsX6_next wsX3_isFull := goodIn_r _ [17, 18, 55, 56] (by decide +kernel) (by decide +kernel)
set_option maxRecDepth 20000 in
theorem gX6_next_X3_isFull : GoodIn wsX6_next (wsV RX6 71 RX3 yX3_isFull wsX3_isFull) := goodIn_app (goodIn_of _ (by decide +kernel)) ggX6_next_X3_isFull
set_option maxRecDepth 20000 in
theorem ggX6_next_X1_takeSerial : GoodIn wsX6_next wsX1_takeSerial := goodIn_r _ [23, 24, 25, 26, 27, 28, 29, 30, 31, 32, 33, 34, 35, 36, 37, 38, 39, 40, 57, 58, 59, 60, 61, 62, 63, 64] (by decide +kernel) (by decide +kernel)
set_option maxRecDepth 20000 in
theorem gX6_next_X1_takeSerial : GoodIn wsX6_next (wsV RX6 74 RX1 yX1_takeSerial wsX1_takeSerial) := goodIn_app (goodIn_of _ (by decide +kernel)) ggX6_next_X1_takeSerial
set_option maxRecDepth 20000 in
theorem ggX6_next_X6_numberOf : GoodIn wsX6_next wsX6_numberOf := goodIn_r _ [43, 44] (by decide +kernel) (by decide +kernel)
set_option maxRecDepth 20000 in
theorem gX6_next_X6_numberOf : GoodIn wsX6_next (va_wsS RX6 78 yX6_numberOf wsX6_numberOf) := goodIn_app (goodIn_of _ (by decide +kernel)) ggX6_next_X6_numberOf
set_option maxRecDepth 20000 in
theorem ggX6_next_X3_add : GoodIn wsX6_next wsX3_add := goodIn_r _ [48, 18, 49, 55, 56] (by decide +kernel) (by decide +kernel)
set_option maxRecDepth 20000 in
theorem gX6_next_X3_add : GoodIn wsX6_next (wsV RX6 82 RX3 yX3_add wsX3_add) := goodIn_app (goodIn_of _ (by decide +kernel)) ggX6_next_X3_add
theorem dX6_next_0 : decode cX6_next 0 = .ok (.iload_n 1, 1) := by decide +kernel
theorem dX6_next_1 : decode cX6_next 1 = .ok (.invokestatic 44, 3) := by decide +kernel
theorem dX6_next_4 : decode cX6_next 4 = .ok (.ifCond .eq 10, 3) := by decide +kernel
theorem dX6_next_7 : decode cX6_next 7 = .ok (.iload_n 2, 1) := by decide +kernel
theorem dX6_next_8 : decode cX6_next 8 = .ok (.invokestatic 66, 3) := by decide +kernel
theorem dX6_next_11 : decode cX6_next 11 = .ok (.ifCond .ne 7, 3) := by decide +kernel
theorem dX6_next_14 : decode cX6_next 14 = .ok (.ldc2_w 69, 3) := by decide +kernel
theorem dX6_next_17 : decode cX6_next 17 = .ok (.lreturn, 1) := by decide +kernel
theorem dX6_next_18 : decode cX6_next 18 = .ok (.aload_n 0, 1) := by decide +kernel
theorem dX6_next_19 : decode cX6_next 19 = .ok (.getfield 26, 3) := by decide +kernel
theorem dX6_next_22 : decode cX6_next 22 = .ok (.invokevirtual 71, 3) := by decide +kernel
theorem dX6_next_25 : decode cX6_next 25 = .ok (.ifCond .eq 7, 3) := by decide +kernel
theorem dX6_next_28 : decode cX6_next 28 = .ok (.ldc2_w 72, 3) := by decide +kernel
theorem dX6_next_31 : decode cX6_next 31 = .ok (.lreturn, 1) := by decide +kernel
theorem dX6_next_32 : decode cX6_next 32 = .ok (.aload_n 0, 1) := by decide +kernel
theorem dX6_next_33 : decode cX6_next 33 = .ok (.getfield 10, 3) := by decide +kernel
theorem dX6_next_36 : decode cX6_next 36 = .ok (.iload_n 1, 1) := by decide +kernel
theorem dX6_next_37 : decode cX6_next 37 = .ok (.aload_n 0, 1) := by decide +kernel
theorem dX6_next_38 : decode cX6_next 38 = .ok (.getfield 19, 3) := by decide +kernel
theorem dX6_next_41 : decode cX6_next 41 = .ok (.invokevirtual 74, 3) := by decide +kernel
theorem dX6_next_44 : decode cX6_next 44 = .ok (.lstore_n 3, 1) := by decide +kernel
theorem dX6_next_45 : decode cX6_next 45 = .ok (.lload_n 3, 1) := by decide +kernel
theorem dX6_next_46 : decode cX6_next 46 = .ok (.lconst 0, 1) := by decide +kernel
theorem dX6_next_47 : decode cX6_next 47 = .ok (.lcmp, 1) := by decide +kernel
theorem dX6_next_48 : decode cX6_next 48 = .ok (.ifCond .ge 5, 3) := by decide +kernel
theorem dX6_next_51 : decode cX6_next 51 = .ok (.lconst 0, 1) := by decide +kernel
theorem dX6_next_52 : decode cX6_next 52 = .ok (.lreturn, 1) := by decide +kernel
theorem dX6_next_53 : decode cX6_next 53 = .ok (.iload_n 2, 1) := by decide +kernel
theorem dX6_next_54 : decode cX6_next 54 = .ok (.lload_n 3, 1) := by decide +kernel
theorem dX6_next_55 : decode cX6_next 55 = .ok (.invokestatic 78, 3) := by decide +kernel
theorem dX6_next_58 : decode cX6_next 58 = .ok (.lstore 5, 2) := by decide +kernel
theorem dX6_next_60 : decode cX6_next 60 = .ok (.aload_n 0, 1) := by decide +kernel
theorem dX6_next_61 : decode cX6_next 61 = .ok (.getfield 26, 3) := by decide +kernel
theorem dX6_next_64 : decode cX6_next 64 = .ok (.lload 5, 2) := by decide +kernel
theorem dX6_next_66 : decode cX6_next 66 = .ok (.invokevirtual 82, 3) := by decide +kernel
theorem dX6_next_69 : decode cX6_next 69 = .ok (.lload 5, 2) := by decide +kernel
theorem dX6_next_71 : decode cX6_next 71 = .ok (.lreturn, 1) := by decide +kernel
set_option maxRecDepth 20000 in
theorem ggX6_letter_X6_isNumber : GoodIn wsX6_letter wsX6_isNumber := goodIn_r _ [7, 8, 9] (by decide +kernel) (by decide +kernel)
set_option maxRecDepth 20000 in
theorem gX6_letter_X6_isNumber : GoodIn wsX6_letter (va_wsS RX6 85 yX6_isNumber wsX6_isNumber) := goodIn_app (goodIn_of _ (by decide +kernel)) ggX6_letter_X6_isNumber
set_option maxRecDepth 20000 in
theorem ggX6_letter_X2_valueAt : GoodIn wsX6_letter wsX2_valueAt := goodIn_r _ [13, 14, 15, 12, 16, 17, 18, 19, 20, 21, 6, 22, 8, 23, 24, 25, 26, 27, 28] (by decide +kernel) (by decide +kernel)
set_option maxRecDepth 20000 in
theorem gX6_letter_X2_valueAt : GoodIn wsX6_letter (va_wsS RX6 98 yX2_valueAt wsX2_valueAt) := goodIn_app (goodIn_of _ (by decide +kernel)) ggX6_letter_X2_valueAt
set_option maxRecDepth 20000 in
theorem ggX6_letter_X2_letterOf : GoodIn wsX6_letter wsX2_letterOf := goodIn_r _ [31, 32, 33, 34, 35, 36, 37, 38, 39, 40, 41, 42, 43, 44, 45, 46, 47, 48, 49, 50, 51, 52, 53, 54, 55, 56, 57, 58, 59, 60, 61, 62, 63, 64, 65, 66, 67, 68, 69, 70, 71, 72] (by decide +kernel) (by decide +kernel)
set_option maxRecDepth 20000 in
theorem gX6_letter_X2_letterOf : GoodIn wsX6_letter (va_wsS RX6 102 yX2_letterOf wsX2_letterOf) := goodIn_app (goodIn_of _ (by decide +kernel)) ggX6_letter_X2_letterOf
theorem dX6_letter_0 : decode cX6_letter 0 = .ok (.lload_n 1, 1) := by decide +kernel
theorem dX6_letter_1 : decode cX6_letter 1 = .ok (.invokestatic 85, 3) := by decide +kernel
theorem dX6_letter_4 : decode cX6_letter 4 = .ok (.ifCond .ne 6, 3) := by decide +kernel
theorem dX6_letter_7 : decode cX6_letter 7 = .ok (.bipush (-101), 2) := by decide +kernel
theorem dX6_letter_9 : decode cX6_letter 9 = .ok (.ireturn, 1) := by decide +kernel
theorem dX6_letter_10 : decode cX6_letter 10 = .ok (.iload_n 3, 1) := by decide +kernel
theorem dX6_letter_11 : decode cX6_letter 11 = .ok (.ifCond .lt 9, 3) := by decide +kernel
theorem dX6_letter_14 : decode cX6_letter 14 = .ok (.iload_n 3, 1) := by decide +kernel
theorem dX6_letter_15 : decode cX6_letter 15 = .ok (.bipush 9, 2) := by decide +kernel
theorem dX6_letter_17 : decode cX6_letter 17 = .ok (.if_icmp .lt 13, 3) := by decide +kernel
theorem dX6_letter_20 : decode cX6_letter 20 = .ok (.new 91, 3) := by decide +kernel
theorem dX6_letter_23 : decode cX6_letter 23 = .ok (.dup, 1) := by decide +kernel
theorem dX6_letter_24 : decode cX6_letter 24 = .ok (.ldc 93, 2) := by decide +kernel
theorem dX6_letter_26 : decode cX6_letter 26 = .ok (.invokespecial 95, 3) := by decide +kernel
theorem dX6_letter_29 : decode cX6_letter 29 = .ok (.athrow, 1) := by decide +kernel
theorem dX6_letter_30 : decode cX6_letter 30 = .ok (.lload_n 1, 1) := by decide +kernel
theorem dX6_letter_31 : decode cX6_letter 31 = .ok (.iload_n 3, 1) := by decide +kernel
theorem dX6_letter_32 : decode cX6_letter 32 = .ok (.invokestatic 98, 3) := by decide +kernel
theorem dX6_letter_35 : decode cX6_letter 35 = .ok (.invokestatic 102, 3) := by decide +kernel
theorem dX6_letter_38 : decode cX6_letter 38 = .ok (.ireturn, 1) := by decide +kernel
set_option maxRecDepth 20000 in
theorem ggX6_type_X5_add : GoodIn wsX6_type wsX5_add := goodIn_r _ [6, 7, 8, 14, 15] (by decide +kernel) (by decide +kernel)
set_option maxRecDepth 20000 in
theorem gX6_type_X5_add : GoodIn wsX6_type (wsV RX6 106 RX5 yX5_add wsX5_add) := goodIn_app (goodIn_of _ (by decide +kernel)) ggX6_type_X5_add
theorem dX6_type_0 : decode cX6_type 0 = .ok (.aload_n 0, 1) := by decide +kernel
theorem dX6_type_1 : decode cX6_type 1 = .ok (.getfield 40, 3) := by decide +kernel
theorem dX6_type_4 : decode cX6_type 4 = .ok (.iload_n 1, 1) := by decide +kernel
theorem dX6_type_5 : decode cX6_type 5 = .ok (.invokevirtual 106, 3) := by decide +kernel
theorem dX6_type_8 : decode cX6_type 8 = .ok (.return_, 1) := by decide +kernel
set_option maxRecDepth 20000 in
theorem ggX6_read_X5_parse : GoodIn wsX6_read wsX5_parse := goodIn_r _ [6, 7, 8, 9, 10, 11, 12, 13, 14, 15, 16, 17, 18, 19, 20, 21, 22, 23, 24, 25, 26, 27, 28, 29, 30, 31, 32, 33, 34, 35, 36, 37, 38, 39, 40, 41, 42, 43, 44, 45, 46, 47, 48, 49, 50, 51, 52, 53, 54, 55, 56, 57, 58, 59, 60, 61, 62, 63, 64, 65, 66, 76, 77] (by decide +kernel) (by decide +kernel)
set_option maxRecDepth 20000 in
theorem gX6_read_X5_parse : GoodIn wsX6_read (wsV RX6 109 RX5 yX5_parse wsX5_parse) := goodIn_app (goodIn_of _ (by decide +kernel)) ggX6_read_X5_parse
set_option maxRecDepth 20000 in
theorem ggX6_read_X5_clear : GoodIn wsX6_read wsX5_clear := goodIn_r _ [70, 7, 76, 77] (by decide +kernel) (by decide +kernel)
set_option maxRecDepth 20000 in
theorem gX6_read_X5_clear : GoodIn wsX6_read (wsV RX6 113 RX5 yX5_clear wsX5_clear) := goodIn_app (goodIn_of _ (by decide +kernel)) ggX6_read_X5_clear
theorem dX6_read_0 : decode cX6_read 0 = .ok (.aload_n 0, 1) := by decide +kernel
theorem dX6_read_1 : decode cX6_read 1 = .ok (.getfield 40, 3) := by decide +kernel
theorem dX6_read_4 : decode cX6_read 4 = .ok (.invokevirtual 109, 3) := by decide +kernel
theorem dX6_read_7 : decode cX6_read 7 = .ok (.lstore_n 1, 1) := by decide +kernel
theorem dX6_read_8 : decode cX6_read 8 = .ok (.aload_n 0, 1) := by decide +kernel
theorem dX6_read_9 : decode cX6_read 9 = .ok (.getfield 40, 3) := by decide +kernel
theorem dX6_read_12 : decode cX6_read 12 = .ok (.invokevirtual 113, 3) := by decide +kernel
theorem dX6_read_15 : decode cX6_read 15 = .ok (.lload_n 1, 1) := by decide +kernel
theorem dX6_read_16 : decode cX6_read 16 = .ok (.lreturn, 1) := by decide +kernel
set_option maxRecDepth 20000 in
theorem ggX6_bar_X6_isRowBelow : GoodIn wsX6_bar wsX6_isRowBelow := goodIn_r _ [7] (by decide +kernel) (by decide +kernel)
set_option maxRecDepth 20000 in
theorem gX6_bar_X6_isRowBelow : GoodIn wsX6_bar (va_wsS RX6 50 yX6_isRowBelow wsX6_isRowBelow) := goodIn_app (goodIn_of _ (by decide +kernel)) ggX6_bar_X6_isRowBelow
set_option maxRecDepth 20000 in
theorem ggX6_bar_X0_isFull : GoodIn wsX6_bar wsX0_isFull := goodIn_r _ [12, 13, 34, 35, 36] (by decide +kernel) (by decide +kernel)
set_option maxRecDepth 20000 in
theorem gX6_bar_X0_isFull : GoodIn wsX6_bar (wsV RX6 118 RX0 yX0_isFull wsX0_isFull) := goodIn_app (goodIn_of _ (by decide +kernel)) ggX6_bar_X0_isFull
set_option maxRecDepth 20000 in
theorem ggX6_bar_X0_add : GoodIn wsX6_bar wsX0_add := goodIn_r _ [17, 13, 18, 19, 34, 35, 36] (by decide +kernel) (by decide +kernel)
set_option maxRecDepth 20000 in
theorem gX6_bar_X0_add : GoodIn wsX6_bar (wsV RX6 119 RX0 yX0_add wsX0_add) := goodIn_app (goodIn_of _ (by decide +kernel)) ggX6_bar_X0_add
set_option maxRecDepth 20000 in
theorem ggX6_bar_X3_removeRow : GoodIn wsX6_bar wsX3_removeRow := goodIn_r _ [24, 25, 26, 27, 6, 28, 1, 37, 38] (by decide +kernel) (by decide +kernel)
set_option maxRecDepth 20000 in
theorem gX6_bar_X3_removeRow : GoodIn wsX6_bar (wsV RX6 122 RX3 yX3_removeRow wsX3_removeRow) := goodIn_app (goodIn_of _ (by decide +kernel)) ggX6_bar_X3_removeRow
theorem dX6_bar_0 : decode cX6_bar 0 = .ok (.lload_n 1, 1) := by decide +kernel
theorem dX6_bar_1 : decode cX6_bar 1 = .ok (.lload_n 3, 1) := by decide +kernel
theorem dX6_bar_2 : decode cX6_bar 2 = .ok (.ldc2_w 116, 3) := by decide +kernel
theorem dX6_bar_5 : decode cX6_bar 5 = .ok (.invokestatic 50, 3) := by decide +kernel
theorem dX6_bar_8 : decode cX6_bar 8 = .ok (.ifCond .ne 6, 3) := by decide +kernel
theorem dX6_bar_11 : decode cX6_bar 11 = .ok (.bipush (-102), 2) := by decide +kernel
theorem dX6_bar_13 : decode cX6_bar 13 = .ok (.ireturn, 1) := by decide +kernel
theorem dX6_bar_14 : decode cX6_bar 14 = .ok (.aload_n 0, 1) := by decide +kernel
theorem dX6_bar_15 : decode cX6_bar 15 = .ok (.getfield 19, 3) := by decide +kernel
theorem dX6_bar_18 : decode cX6_bar 18 = .ok (.invokevirtual 118, 3) := by decide +kernel
theorem dX6_bar_21 : decode cX6_bar 21 = .ok (.ifCond .eq 6, 3) := by decide +kernel
theorem dX6_bar_24 : decode cX6_bar 24 = .ok (.bipush (-104), 2) := by decide +kernel
theorem dX6_bar_26 : decode cX6_bar 26 = .ok (.ireturn, 1) := by decide +kernel
theorem dX6_bar_27 : decode cX6_bar 27 = .ok (.aload_n 0, 1) := by decide +kernel
theorem dX6_bar_28 : decode cX6_bar 28 = .ok (.getfield 19, 3) := by decide +kernel
theorem dX6_bar_31 : decode cX6_bar 31 = .ok (.lload_n 1, 1) := by decide +kernel
theorem dX6_bar_32 : decode cX6_bar 32 = .ok (.lload_n 3, 1) := by decide +kernel
theorem dX6_bar_33 : decode cX6_bar 33 = .ok (.invokevirtual 119, 3) := by decide +kernel
theorem dX6_bar_36 : decode cX6_bar 36 = .ok (.aload_n 0, 1) := by decide +kernel
theorem dX6_bar_37 : decode cX6_bar 37 = .ok (.getfield 26, 3) := by decide +kernel
theorem dX6_bar_40 : decode cX6_bar 40 = .ok (.lload_n 1, 1) := by decide +kernel
theorem dX6_bar_41 : decode cX6_bar 41 = .ok (.lload_n 3, 1) := by decide +kernel
theorem dX6_bar_42 : decode cX6_bar 42 = .ok (.invokevirtual 122, 3) := by decide +kernel
theorem dX6_bar_45 : decode cX6_bar 45 = .ok (.ireturn, 1) := by decide +kernel
set_option maxRecDepth 20000 in
theorem ggX6_given_X3_contains : GoodIn wsX6_given wsX3_contains := goodIn_r _ [6, 7, 8, 14, 15] (by decide +kernel) (by decide +kernel)
set_option maxRecDepth 20000 in
theorem gX6_given_X3_contains : GoodIn wsX6_given (wsV RX6 126 RX3 yX3_contains wsX3_contains) := goodIn_app (goodIn_of _ (by decide +kernel)) ggX6_given_X3_contains
theorem dX6_given_0 : decode cX6_given 0 = .ok (.aload_n 0, 1) := by decide +kernel
theorem dX6_given_1 : decode cX6_given 1 = .ok (.getfield 26, 3) := by decide +kernel
theorem dX6_given_4 : decode cX6_given 4 = .ok (.lload_n 1, 1) := by decide +kernel
theorem dX6_given_5 : decode cX6_given 5 = .ok (.invokevirtual 126, 3) := by decide +kernel
theorem dX6_given_8 : decode cX6_given 8 = .ok (.ireturn, 1) := by decide +kernel
set_option maxRecDepth 20000 in
theorem ggX6_old_X6_numberOf : GoodIn wsX6_old wsX6_numberOf := goodIn_r _ [8, 9] (by decide +kernel) (by decide +kernel)
set_option maxRecDepth 20000 in
theorem gX6_old_X6_numberOf : GoodIn wsX6_old (va_wsS RX6 78 yX6_numberOf wsX6_numberOf) := goodIn_app (goodIn_of _ (by decide +kernel)) ggX6_old_X6_numberOf
set_option maxRecDepth 20000 in
theorem ggX6_old_X6_isNumber : GoodIn wsX6_old wsX6_isNumber := goodIn_r _ [12, 9, 13] (by decide +kernel) (by decide +kernel)
set_option maxRecDepth 20000 in
theorem gX6_old_X6_isNumber : GoodIn wsX6_old (va_wsS RX6 85 yX6_isNumber wsX6_isNumber) := goodIn_app (goodIn_of _ (by decide +kernel)) ggX6_old_X6_isNumber
set_option maxRecDepth 20000 in
theorem ggX6_old_X6_serialOf : GoodIn wsX6_old wsX6_serialOf := goodIn_r _ [16, 9] (by decide +kernel) (by decide +kernel)
set_option maxRecDepth 20000 in
theorem gX6_old_X6_serialOf : GoodIn wsX6_old (va_wsS RX6 133 yX6_serialOf wsX6_serialOf) := goodIn_app (goodIn_of _ (by decide +kernel)) ggX6_old_X6_serialOf
set_option maxRecDepth 20000 in
theorem ggX6_old_X6_serviceOf : GoodIn wsX6_old wsX6_serviceOf := goodIn_r _ [19, 9] (by decide +kernel) (by decide +kernel)
set_option maxRecDepth 20000 in
theorem gX6_old_X6_serviceOf : GoodIn wsX6_old (va_wsS RX6 137 yX6_serviceOf wsX6_serviceOf) := goodIn_app (goodIn_of _ (by decide +kernel)) ggX6_old_X6_serviceOf
theorem dX6_old_0 : decode cX6_old 0 = .ok (.lload_n 1, 1) := by decide +kernel
theorem dX6_old_1 : decode cX6_old 1 = .ok (.lconst 0, 1) := by decide +kernel
theorem dX6_old_2 : decode cX6_old 2 = .ok (.lcmp, 1) := by decide +kernel
theorem dX6_old_3 : decode cX6_old 3 = .ok (.ifCond .lt 32, 3) := by decide +kernel
theorem dX6_old_6 : decode cX6_old 6 = .ok (.lload_n 1, 1) := by decide +kernel
theorem dX6_old_7 : decode cX6_old 7 = .ok (.ldc2_w 129, 3) := by decide +kernel
theorem dX6_old_10 : decode cX6_old 10 = .ok (.lcmp, 1) := by decide +kernel
theorem dX6_old_11 : decode cX6_old 11 = .ok (.ifCond .ge 24, 3) := by decide +kernel
theorem dX6_old_14 : decode cX6_old 14 = .ok (.lload_n 1, 1) := by decide +kernel
theorem dX6_old_15 : decode cX6_old 15 = .ok (.ldc2_w 131, 3) := by decide +kernel
theorem dX6_old_18 : decode cX6_old 18 = .ok (.ldiv, 1) := by decide +kernel
theorem dX6_old_19 : decode cX6_old 19 = .ok (.l2i, 1) := by decide +kernel
theorem dX6_old_20 : decode cX6_old 20 = .ok (.istore_n 3, 1) := by decide +kernel
theorem dX6_old_21 : decode cX6_old 21 = .ok (.iload_n 3, 1) := by decide +kernel
theorem dX6_old_22 : decode cX6_old 22 = .ok (.ldc2_w 48, 3) := by decide +kernel
theorem dX6_old_25 : decode cX6_old 25 = .ok (.lload_n 1, 1) := by decide +kernel
theorem dX6_old_26 : decode cX6_old 26 = .ok (.ldc2_w 131, 3) := by decide +kernel
theorem dX6_old_29 : decode cX6_old 29 = .ok (.lrem, 1) := by decide +kernel
theorem dX6_old_30 : decode cX6_old 30 = .ok (.ladd, 1) := by decide +kernel
theorem dX6_old_31 : decode cX6_old 31 = .ok (.invokestatic 78, 3) := by decide +kernel
theorem dX6_old_34 : decode cX6_old 34 = .ok (.lreturn, 1) := by decide +kernel
theorem dX6_old_35 : decode cX6_old 35 = .ok (.lload_n 1, 1) := by decide +kernel
theorem dX6_old_36 : decode cX6_old 36 = .ok (.invokestatic 85, 3) := by decide +kernel
theorem dX6_old_39 : decode cX6_old 39 = .ok (.ifCond .ne 7, 3) := by decide +kernel
theorem dX6_old_42 : decode cX6_old 42 = .ok (.ldc2_w 69, 3) := by decide +kernel
theorem dX6_old_45 : decode cX6_old 45 = .ok (.lreturn, 1) := by decide +kernel
theorem dX6_old_46 : decode cX6_old 46 = .ok (.lload_n 1, 1) := by decide +kernel
theorem dX6_old_47 : decode cX6_old 47 = .ok (.invokestatic 133, 3) := by decide +kernel
theorem dX6_old_50 : decode cX6_old 50 = .ok (.ldc2_w 48, 3) := by decide +kernel
theorem dX6_old_53 : decode cX6_old 53 = .ok (.lsub, 1) := by decide +kernel
theorem dX6_old_54 : decode cX6_old 54 = .ok (.lstore_n 3, 1) := by decide +kernel
theorem dX6_old_55 : decode cX6_old 55 = .ok (.lload_n 3, 1) := by decide +kernel
theorem dX6_old_56 : decode cX6_old 56 = .ok (.lconst 0, 1) := by decide +kernel
theorem dX6_old_57 : decode cX6_old 57 = .ok (.lcmp, 1) := by decide +kernel
theorem dX6_old_58 : decode cX6_old 58 = .ok (.ifCond .lt 11, 3) := by decide +kernel
theorem dX6_old_61 : decode cX6_old 61 = .ok (.lload_n 3, 1) := by decide +kernel
theorem dX6_old_62 : decode cX6_old 62 = .ok (.ldc2_w 131, 3) := by decide +kernel
theorem dX6_old_65 : decode cX6_old 65 = .ok (.lcmp, 1) := by decide +kernel
theorem dX6_old_66 : decode cX6_old 66 = .ok (.ifCond .lt 7, 3) := by decide +kernel
theorem dX6_old_69 : decode cX6_old 69 = .ok (.ldc2_w 69, 3) := by decide +kernel
theorem dX6_old_72 : decode cX6_old 72 = .ok (.lreturn, 1) := by decide +kernel
theorem dX6_old_73 : decode cX6_old 73 = .ok (.lload_n 1, 1) := by decide +kernel
theorem dX6_old_74 : decode cX6_old 74 = .ok (.invokestatic 137, 3) := by decide +kernel
theorem dX6_old_77 : decode cX6_old 77 = .ok (.ldc2_w 131, 3) := by decide +kernel
theorem dX6_old_80 : decode cX6_old 80 = .ok (.lmul, 1) := by decide +kernel
theorem dX6_old_81 : decode cX6_old 81 = .ok (.lload_n 3, 1) := by decide +kernel
theorem dX6_old_82 : decode cX6_old 82 = .ok (.ladd, 1) := by decide +kernel
theorem dX6_old_83 : decode cX6_old 83 = .ok (.lreturn, 1) := by decide +kernel
set_option maxRecDepth 20000 in
theorem ggX6_map_X3_contains : GoodIn wsX6_map wsX3_contains := goodIn_r _ [8, 9, 10, 38, 39] (by decide +kernel) (by decide +kernel)
set_option maxRecDepth 20000 in
theorem gX6_map_X3_contains : GoodIn wsX6_map (wsV RX6 126 RX3 yX3_contains wsX3_contains) := goodIn_app (goodIn_of _ (by decide +kernel)) ggX6_map_X3_contains
set_option maxRecDepth 20000 in
theorem ggX6_map_X4_numberOfReference : GoodIn wsX6_map wsX4_numberOfReference := goodIn_r _ [15, 16, 17, 18, 19, 20, 40, 41, 42, 43] (by decide +kernel) (by decide +kernel)
set_option maxRecDepth 20000 in
theorem gX6_map_X4_numberOfReference : GoodIn wsX6_map (wsV RX6 140 RX4 yX4_numberOfReference wsX4_numberOfReference) := goodIn_app (goodIn_of _ (by decide +kernel)) ggX6_map_X4_numberOfReference
set_option maxRecDepth 20000 in
theorem ggX6_map_X4_replace : GoodIn wsX6_map wsX4_replace := goodIn_r _ [24, 16, 17, 19, 18, 40, 41, 42, 43] (by decide +kernel) (by decide +kernel)
set_option maxRecDepth 20000 in
theorem gX6_map_X4_replace : GoodIn wsX6_map (wsV RX6 145 RX4 yX4_replace wsX4_replace) := goodIn_app (goodIn_of _ (by decide +kernel)) ggX6_map_X4_replace
set_option maxRecDepth 20000 in
theorem ggX6_map_X4_isFull : GoodIn wsX6_map wsX4_isFull := goodIn_r _ [28, 16, 40, 41, 42, 43] (by decide +kernel) (by decide +kernel)
set_option maxRecDepth 20000 in
theorem gX6_map_X4_isFull : GoodIn wsX6_map (wsV RX6 149 RX4 yX4_isFull wsX4_isFull) := goodIn_app (goodIn_of _ (by decide +kernel)) ggX6_map_X4_isFull
set_option maxRecDepth 20000 in
theorem ggX6_map_X4_add : GoodIn wsX6_map wsX4_add := goodIn_r _ [32, 16, 17, 18, 19, 40, 41, 42, 43] (by decide +kernel) (by decide +kernel)
set_option maxRecDepth 20000 in
theorem gX6_map_X4_add : GoodIn wsX6_map (wsV RX6 150 RX4 yX4_add wsX4_add) := goodIn_app (goodIn_of _ (by decide +kernel)) ggX6_map_X4_add
theorem dX6_map_0 : decode cX6_map 0 = .ok (.aload_n 0, 1) := by decide +kernel
theorem dX6_map_1 : decode cX6_map 1 = .ok (.getfield 26, 3) := by decide +kernel
theorem dX6_map_4 : decode cX6_map 4 = .ok (.lload 4, 2) := by decide +kernel
theorem dX6_map_6 : decode cX6_map 6 = .ok (.invokevirtual 126, 3) := by decide +kernel
theorem dX6_map_9 : decode cX6_map 9 = .ok (.ifCond .ne 6, 3) := by decide +kernel
theorem dX6_map_12 : decode cX6_map 12 = .ok (.bipush (-101), 2) := by decide +kernel
theorem dX6_map_14 : decode cX6_map 14 = .ok (.ireturn, 1) := by decide +kernel
theorem dX6_map_15 : decode cX6_map 15 = .ok (.iload_n 1, 1) := by decide +kernel
theorem dX6_map_16 : decode cX6_map 16 = .ok (.ifCond .lt 15, 3) := by decide +kernel
theorem dX6_map_19 : decode cX6_map 19 = .ok (.iload_n 1, 1) := by decide +kernel
theorem dX6_map_20 : decode cX6_map 20 = .ok (.bipush 100, 2) := by decide +kernel
theorem dX6_map_22 : decode cX6_map 22 = .ok (.if_icmp .ge 9, 3) := by decide +kernel
theorem dX6_map_25 : decode cX6_map 25 = .ok (.lload_n 2, 1) := by decide +kernel
theorem dX6_map_26 : decode cX6_map 26 = .ok (.lconst 0, 1) := by decide +kernel
theorem dX6_map_27 : decode cX6_map 27 = .ok (.lcmp, 1) := by decide +kernel
theorem dX6_map_28 : decode cX6_map 28 = .ok (.ifCond .ge 6, 3) := by decide +kernel
theorem dX6_map_31 : decode cX6_map 31 = .ok (.bipush (-102), 2) := by decide +kernel
theorem dX6_map_33 : decode cX6_map 33 = .ok (.ireturn, 1) := by decide +kernel
theorem dX6_map_34 : decode cX6_map 34 = .ok (.aload_n 0, 1) := by decide +kernel
theorem dX6_map_35 : decode cX6_map 35 = .ok (.getfield 33, 3) := by decide +kernel
theorem dX6_map_38 : decode cX6_map 38 = .ok (.iload_n 1, 1) := by decide +kernel
theorem dX6_map_39 : decode cX6_map 39 = .ok (.lload_n 2, 1) := by decide +kernel
theorem dX6_map_40 : decode cX6_map 40 = .ok (.invokevirtual 140, 3) := by decide +kernel
theorem dX6_map_43 : decode cX6_map 43 = .ok (.lstore 6, 2) := by decide +kernel
theorem dX6_map_45 : decode cX6_map 45 = .ok (.lload 6, 2) := by decide +kernel
theorem dX6_map_47 : decode cX6_map 47 = .ok (.lload 4, 2) := by decide +kernel
theorem dX6_map_49 : decode cX6_map 49 = .ok (.lcmp, 1) := by decide +kernel
theorem dX6_map_50 : decode cX6_map 50 = .ok (.ifCond .ne 5, 3) := by decide +kernel
theorem dX6_map_53 : decode cX6_map 53 = .ok (.iconst 0, 1) := by decide +kernel
theorem dX6_map_54 : decode cX6_map 54 = .ok (.ireturn, 1) := by decide +kernel
theorem dX6_map_55 : decode cX6_map 55 = .ok (.lload 6, 2) := by decide +kernel
theorem dX6_map_57 : decode cX6_map 57 = .ok (.ldc2_w 143, 3) := by decide +kernel
theorem dX6_map_60 : decode cX6_map 60 = .ok (.lcmp, 1) := by decide +kernel
theorem dX6_map_61 : decode cX6_map 61 = .ok (.ifCond .eq 6, 3) := by decide +kernel
theorem dX6_map_64 : decode cX6_map 64 = .ok (.bipush (-103), 2) := by decide +kernel
theorem dX6_map_66 : decode cX6_map 66 = .ok (.ireturn, 1) := by decide +kernel
theorem dX6_map_67 : decode cX6_map 67 = .ok (.aload_n 0, 1) := by decide +kernel
theorem dX6_map_68 : decode cX6_map 68 = .ok (.getfield 33, 3) := by decide +kernel
theorem dX6_map_71 : decode cX6_map 71 = .ok (.iload_n 1, 1) := by decide +kernel
theorem dX6_map_72 : decode cX6_map 72 = .ok (.lload_n 2, 1) := by decide +kernel
theorem dX6_map_73 : decode cX6_map 73 = .ok (.lload 4, 2) := by decide +kernel
theorem dX6_map_75 : decode cX6_map 75 = .ok (.invokevirtual 145, 3) := by decide +kernel
theorem dX6_map_78 : decode cX6_map 78 = .ok (.ifCond .eq 5, 3) := by decide +kernel
theorem dX6_map_81 : decode cX6_map 81 = .ok (.iconst 2, 1) := by decide +kernel
theorem dX6_map_82 : decode cX6_map 82 = .ok (.ireturn, 1) := by decide +kernel
theorem dX6_map_83 : decode cX6_map 83 = .ok (.aload_n 0, 1) := by decide +kernel
theorem dX6_map_84 : decode cX6_map 84 = .ok (.getfield 33, 3) := by decide +kernel
theorem dX6_map_87 : decode cX6_map 87 = .ok (.invokevirtual 149, 3) := by decide +kernel
theorem dX6_map_90 : decode cX6_map 90 = .ok (.ifCond .eq 6, 3) := by decide +kernel
theorem dX6_map_93 : decode cX6_map 93 = .ok (.bipush (-104), 2) := by decide +kernel
theorem dX6_map_95 : decode cX6_map 95 = .ok (.ireturn, 1) := by decide +kernel
theorem dX6_map_96 : decode cX6_map 96 = .ok (.aload_n 0, 1) := by decide +kernel
theorem dX6_map_97 : decode cX6_map 97 = .ok (.getfield 33, 3) := by decide +kernel
theorem dX6_map_100 : decode cX6_map 100 = .ok (.iload_n 1, 1) := by decide +kernel
theorem dX6_map_101 : decode cX6_map 101 = .ok (.lload_n 2, 1) := by decide +kernel
theorem dX6_map_102 : decode cX6_map 102 = .ok (.lload 4, 2) := by decide +kernel
theorem dX6_map_104 : decode cX6_map 104 = .ok (.invokevirtual 150, 3) := by decide +kernel
theorem dX6_map_107 : decode cX6_map 107 = .ok (.iconst 1, 1) := by decide +kernel
theorem dX6_map_108 : decode cX6_map 108 = .ok (.ireturn, 1) := by decide +kernel
set_option maxRecDepth 20000 in
theorem ggX6_named_X4_numberOfReference : GoodIn wsX6_named wsX4_numberOfReference := goodIn_r _ [6, 7, 8, 9, 10, 11, 17, 18, 19, 20] (by decide +kernel) (by decide +kernel)
set_option maxRecDepth 20000 in
theorem gX6_named_X4_numberOfReference : GoodIn wsX6_named (wsV RX6 140 RX4 yX4_numberOfReference wsX4_numberOfReference) := goodIn_app (goodIn_of _ (by decide +kernel)) ggX6_named_X4_numberOfReference
theorem dX6_named_0 : decode cX6_named 0 = .ok (.aload_n 0, 1) := by decide +kernel
theorem dX6_named_1 : decode cX6_named 1 = .ok (.getfield 33, 3) := by decide +kernel
theorem dX6_named_4 : decode cX6_named 4 = .ok (.iload_n 1, 1) := by decide +kernel
theorem dX6_named_5 : decode cX6_named 5 = .ok (.lload_n 2, 1) := by decide +kernel
theorem dX6_named_6 : decode cX6_named 6 = .ok (.invokevirtual 140, 3) := by decide +kernel
theorem dX6_named_9 : decode cX6_named 9 = .ok (.lreturn, 1) := by decide +kernel
theorem dX6_isOffice_0 : decode cX6_isOffice 0 = .ok (.iload_n 0, 1) := by decide +kernel
theorem dX6_isOffice_1 : decode cX6_isOffice 1 = .ok (.ifCond .lt 13, 3) := by decide +kernel
theorem dX6_isOffice_4 : decode cX6_isOffice 4 = .ok (.iload_n 0, 1) := by decide +kernel
theorem dX6_isOffice_5 : decode cX6_isOffice 5 = .ok (.bipush 100, 2) := by decide +kernel
theorem dX6_isOffice_7 : decode cX6_isOffice 7 = .ok (.if_icmp .ge 7, 3) := by decide +kernel
theorem dX6_isOffice_10 : decode cX6_isOffice 10 = .ok (.iconst 1, 1) := by decide +kernel
theorem dX6_isOffice_11 : decode cX6_isOffice 11 = .ok (.goto 4, 3) := by decide +kernel
theorem dX6_isOffice_14 : decode cX6_isOffice 14 = .ok (.iconst 0, 1) := by decide +kernel
theorem dX6_isOffice_15 : decode cX6_isOffice 15 = .ok (.ireturn, 1) := by decide +kernel
theorem dX6_isService_0 : decode cX6_isService 0 = .ok (.iload_n 0, 1) := by decide +kernel
theorem dX6_isService_1 : decode cX6_isService 1 = .ok (.ifCond .lt 13, 3) := by decide +kernel
theorem dX6_isService_4 : decode cX6_isService 4 = .ok (.iload_n 0, 1) := by decide +kernel
theorem dX6_isService_5 : decode cX6_isService 5 = .ok (.bipush 10, 2) := by decide +kernel
theorem dX6_isService_7 : decode cX6_isService 7 = .ok (.if_icmp .ge 7, 3) := by decide +kernel
theorem dX6_isService_10 : decode cX6_isService 10 = .ok (.iconst 1, 1) := by decide +kernel
theorem dX6_isService_11 : decode cX6_isService 11 = .ok (.goto 4, 3) := by decide +kernel
theorem dX6_isService_14 : decode cX6_isService 14 = .ok (.iconst 0, 1) := by decide +kernel
theorem dX6_isService_15 : decode cX6_isService 15 = .ok (.ireturn, 1) := by decide +kernel
theorem dX6_isRowBelow_0 : decode cX6_isRowBelow 0 = .ok (.lconst 0, 1) := by decide +kernel
theorem dX6_isRowBelow_1 : decode cX6_isRowBelow 1 = .ok (.lload_n 0, 1) := by decide +kernel
theorem dX6_isRowBelow_2 : decode cX6_isRowBelow 2 = .ok (.lcmp, 1) := by decide +kernel
theorem dX6_isRowBelow_3 : decode cX6_isRowBelow 3 = .ok (.ifCond .gt 20, 3) := by decide +kernel
theorem dX6_isRowBelow_6 : decode cX6_isRowBelow 6 = .ok (.lload_n 0, 1) := by decide +kernel
theorem dX6_isRowBelow_7 : decode cX6_isRowBelow 7 = .ok (.lload_n 2, 1) := by decide +kernel
theorem dX6_isRowBelow_8 : decode cX6_isRowBelow 8 = .ok (.lcmp, 1) := by decide +kernel
theorem dX6_isRowBelow_9 : decode cX6_isRowBelow 9 = .ok (.ifCond .gt 14, 3) := by decide +kernel
theorem dX6_isRowBelow_12 : decode cX6_isRowBelow 12 = .ok (.lload_n 2, 1) := by decide +kernel
theorem dX6_isRowBelow_13 : decode cX6_isRowBelow 13 = .ok (.lload 4, 2) := by decide +kernel
theorem dX6_isRowBelow_15 : decode cX6_isRowBelow 15 = .ok (.lcmp, 1) := by decide +kernel
theorem dX6_isRowBelow_16 : decode cX6_isRowBelow 16 = .ok (.ifCond .ge 7, 3) := by decide +kernel
theorem dX6_isRowBelow_19 : decode cX6_isRowBelow 19 = .ok (.iconst 1, 1) := by decide +kernel
theorem dX6_isRowBelow_20 : decode cX6_isRowBelow 20 = .ok (.goto 4, 3) := by decide +kernel
theorem dX6_isRowBelow_23 : decode cX6_isRowBelow 23 = .ok (.iconst 0, 1) := by decide +kernel
theorem dX6_isRowBelow_24 : decode cX6_isRowBelow 24 = .ok (.ireturn, 1) := by decide +kernel
theorem dX6_isNumber_0 : decode cX6_isNumber 0 = .ok (.lload_n 0, 1) := by decide +kernel
theorem dX6_isNumber_1 : decode cX6_isNumber 1 = .ok (.ldc2_w 116, 3) := by decide +kernel
theorem dX6_isNumber_4 : decode cX6_isNumber 4 = .ok (.lcmp, 1) := by decide +kernel
theorem dX6_isNumber_5 : decode cX6_isNumber 5 = .ok (.ifCond .lt 15, 3) := by decide +kernel
theorem dX6_isNumber_8 : decode cX6_isNumber 8 = .ok (.lload_n 0, 1) := by decide +kernel
theorem dX6_isNumber_9 : decode cX6_isNumber 9 = .ok (.ldc2_w 153, 3) := by decide +kernel
theorem dX6_isNumber_12 : decode cX6_isNumber 12 = .ok (.lcmp, 1) := by decide +kernel
theorem dX6_isNumber_13 : decode cX6_isNumber 13 = .ok (.ifCond .ge 7, 3) := by decide +kernel
theorem dX6_isNumber_16 : decode cX6_isNumber 16 = .ok (.iconst 1, 1) := by decide +kernel
theorem dX6_isNumber_17 : decode cX6_isNumber 17 = .ok (.goto 4, 3) := by decide +kernel
theorem dX6_isNumber_20 : decode cX6_isNumber 20 = .ok (.iconst 0, 1) := by decide +kernel
theorem dX6_isNumber_21 : decode cX6_isNumber 21 = .ok (.ireturn, 1) := by decide +kernel
theorem dX6_numberOf_0 : decode cX6_numberOf 0 = .ok (.iload_n 0, 1) := by decide +kernel
theorem dX6_numberOf_1 : decode cX6_numberOf 1 = .ok (.iconst 1, 1) := by decide +kernel
theorem dX6_numberOf_2 : decode cX6_numberOf 2 = .ok (.iadd, 1) := by decide +kernel
theorem dX6_numberOf_3 : decode cX6_numberOf 3 = .ok (.i2l, 1) := by decide +kernel
theorem dX6_numberOf_4 : decode cX6_numberOf 4 = .ok (.ldc2_w 116, 3) := by decide +kernel
theorem dX6_numberOf_7 : decode cX6_numberOf 7 = .ok (.lmul, 1) := by decide +kernel
theorem dX6_numberOf_8 : decode cX6_numberOf 8 = .ok (.lload_n 1, 1) := by decide +kernel
theorem dX6_numberOf_9 : decode cX6_numberOf 9 = .ok (.ladd, 1) := by decide +kernel
theorem dX6_numberOf_10 : decode cX6_numberOf 10 = .ok (.lreturn, 1) := by decide +kernel
theorem dX6_serviceOf_0 : decode cX6_serviceOf 0 = .ok (.lload_n 0, 1) := by decide +kernel
theorem dX6_serviceOf_1 : decode cX6_serviceOf 1 = .ok (.ldc2_w 116, 3) := by decide +kernel
theorem dX6_serviceOf_4 : decode cX6_serviceOf 4 = .ok (.ldiv, 1) := by decide +kernel
theorem dX6_serviceOf_5 : decode cX6_serviceOf 5 = .ok (.lconst 1, 1) := by decide +kernel
theorem dX6_serviceOf_6 : decode cX6_serviceOf 6 = .ok (.lsub, 1) := by decide +kernel
theorem dX6_serviceOf_7 : decode cX6_serviceOf 7 = .ok (.lreturn, 1) := by decide +kernel
theorem dX6_serialOf_0 : decode cX6_serialOf 0 = .ok (.lload_n 0, 1) := by decide +kernel
theorem dX6_serialOf_1 : decode cX6_serialOf 1 = .ok (.ldc2_w 116, 3) := by decide +kernel
theorem dX6_serialOf_4 : decode cX6_serialOf 4 = .ok (.lrem, 1) := by decide +kernel
theorem dX6_serialOf_5 : decode cX6_serialOf 5 = .ok (.lreturn, 1) := by decide +kernel
theorem dX7_init_0 : decode cX7_init 0 = .ok (.aload_n 0, 1) := by decide +kernel
theorem dX7_init_1 : decode cX7_init 1 = .ok (.invokespecial 1, 3) := by decide +kernel
theorem dX7_init_4 : decode cX7_init 4 = .ok (.aload_n 0, 1) := by decide +kernel
theorem dX7_init_5 : decode cX7_init 5 = .ok (.bipush 50, 2) := by decide +kernel
theorem dX7_init_7 : decode cX7_init 7 = .ok (.newarray .int, 2) := by decide +kernel
theorem dX7_init_9 : decode cX7_init 9 = .ok (.putfield 7, 3) := by decide +kernel
theorem dX7_init_12 : decode cX7_init 12 = .ok (.aload_n 0, 1) := by decide +kernel
theorem dX7_init_13 : decode cX7_init 13 = .ok (.bipush 50, 2) := by decide +kernel
theorem dX7_init_15 : decode cX7_init 15 = .ok (.newarray .long, 2) := by decide +kernel
theorem dX7_init_17 : decode cX7_init 17 = .ok (.putfield 13, 3) := by decide +kernel
theorem dX7_init_20 : decode cX7_init 20 = .ok (.aload_n 0, 1) := by decide +kernel
theorem dX7_init_21 : decode cX7_init 21 = .ok (.bipush 50, 2) := by decide +kernel
theorem dX7_init_23 : decode cX7_init 23 = .ok (.newarray .long, 2) := by decide +kernel
theorem dX7_init_25 : decode cX7_init 25 = .ok (.putfield 17, 3) := by decide +kernel
theorem dX7_init_28 : decode cX7_init 28 = .ok (.aload_n 0, 1) := by decide +kernel
theorem dX7_init_29 : decode cX7_init 29 = .ok (.bipush 50, 2) := by decide +kernel
theorem dX7_init_31 : decode cX7_init 31 = .ok (.newarray .long, 2) := by decide +kernel
theorem dX7_init_33 : decode cX7_init 33 = .ok (.putfield 20, 3) := by decide +kernel
theorem dX7_init_36 : decode cX7_init 36 = .ok (.aload_n 0, 1) := by decide +kernel
theorem dX7_init_37 : decode cX7_init 37 = .ok (.bipush 50, 2) := by decide +kernel
theorem dX7_init_39 : decode cX7_init 39 = .ok (.newarray .long, 2) := by decide +kernel
theorem dX7_init_41 : decode cX7_init 41 = .ok (.putfield 23, 3) := by decide +kernel
theorem dX7_init_44 : decode cX7_init 44 = .ok (.aload_n 0, 1) := by decide +kernel
theorem dX7_init_45 : decode cX7_init 45 = .ok (.sipush 4200, 3) := by decide +kernel
theorem dX7_init_48 : decode cX7_init 48 = .ok (.newarray .long, 2) := by decide +kernel
theorem dX7_init_50 : decode cX7_init 50 = .ok (.putfield 26, 3) := by decide +kernel
theorem dX7_init_53 : decode cX7_init 53 = .ok (.aload_n 0, 1) := by decide +kernel
theorem dX7_init_54 : decode cX7_init 54 = .ok (.sipush 4200, 3) := by decide +kernel
theorem dX7_init_57 : decode cX7_init 57 = .ok (.newarray .boolean, 2) := by decide +kernel
theorem dX7_init_59 : decode cX7_init 59 = .ok (.putfield 29, 3) := by decide +kernel
theorem dX7_init_62 : decode cX7_init 62 = .ok (.aload_n 0, 1) := by decide +kernel
theorem dX7_init_63 : decode cX7_init 63 = .ok (.bipush 60, 2) := by decide +kernel
theorem dX7_init_65 : decode cX7_init 65 = .ok (.newarray .int, 2) := by decide +kernel
theorem dX7_init_67 : decode cX7_init 67 = .ok (.putfield 33, 3) := by decide +kernel
theorem dX7_init_70 : decode cX7_init 70 = .ok (.aload_n 0, 1) := by decide +kernel
theorem dX7_init_71 : decode cX7_init 71 = .ok (.sipush 300, 3) := by decide +kernel
theorem dX7_init_74 : decode cX7_init 74 = .ok (.newarray .int, 2) := by decide +kernel
theorem dX7_init_76 : decode cX7_init 76 = .ok (.putfield 36, 3) := by decide +kernel
theorem dX7_init_79 : decode cX7_init 79 = .ok (.aload_n 0, 1) := by decide +kernel
theorem dX7_init_80 : decode cX7_init 80 = .ok (.sipush 300, 3) := by decide +kernel
theorem dX7_init_83 : decode cX7_init 83 = .ok (.newarray .long, 2) := by decide +kernel
theorem dX7_init_85 : decode cX7_init 85 = .ok (.putfield 39, 3) := by decide +kernel
theorem dX7_init_88 : decode cX7_init 88 = .ok (.aload_n 0, 1) := by decide +kernel
theorem dX7_init_89 : decode cX7_init 89 = .ok (.sipush 300, 3) := by decide +kernel
theorem dX7_init_92 : decode cX7_init 92 = .ok (.newarray .long, 2) := by decide +kernel
theorem dX7_init_94 : decode cX7_init 94 = .ok (.putfield 42, 3) := by decide +kernel
theorem dX7_init_97 : decode cX7_init 97 = .ok (.aload_n 0, 1) := by decide +kernel
theorem dX7_init_98 : decode cX7_init 98 = .ok (.bipush 9, 2) := by decide +kernel
theorem dX7_init_100 : decode cX7_init 100 = .ok (.newarray .int, 2) := by decide +kernel
theorem dX7_init_102 : decode cX7_init 102 = .ok (.putfield 45, 3) := by decide +kernel
theorem dX7_init_105 : decode cX7_init 105 = .ok (.aload_n 0, 1) := by decide +kernel
theorem dX7_init_106 : decode cX7_init 106 = .ok (.bipush 9, 2) := by decide +kernel
theorem dX7_init_108 : decode cX7_init 108 = .ok (.newarray .int, 2) := by decide +kernel
theorem dX7_init_110 : decode cX7_init 110 = .ok (.dup, 1) := by decide +kernel
theorem dX7_init_111 : decode cX7_init 111 = .ok (.iconst 0, 1) := by decide +kernel
theorem dX7_init_112 : decode cX7_init 112 = .ok (.iconst 3, 1) := by decide +kernel
theorem dX7_init_113 : decode cX7_init 113 = .ok (.iastore, 1) := by decide +kernel
theorem dX7_init_114 : decode cX7_init 114 = .ok (.dup, 1) := by decide +kernel
theorem dX7_init_115 : decode cX7_init 115 = .ok (.iconst 1, 1) := by decide +kernel
theorem dX7_init_116 : decode cX7_init 116 = .ok (.bipush 8, 2) := by decide +kernel
theorem dX7_init_118 : decode cX7_init 118 = .ok (.iastore, 1) := by decide +kernel
theorem dX7_init_119 : decode cX7_init 119 = .ok (.dup, 1) := by decide +kernel
theorem dX7_init_120 : decode cX7_init 120 = .ok (.iconst 2, 1) := by decide +kernel
theorem dX7_init_121 : decode cX7_init 121 = .ok (.iconst 5, 1) := by decide +kernel
theorem dX7_init_122 : decode cX7_init 122 = .ok (.iastore, 1) := by decide +kernel
theorem dX7_init_123 : decode cX7_init 123 = .ok (.dup, 1) := by decide +kernel
theorem dX7_init_124 : decode cX7_init 124 = .ok (.iconst 3, 1) := by decide +kernel
theorem dX7_init_125 : decode cX7_init 125 = .ok (.bipush 12, 2) := by decide +kernel
theorem dX7_init_127 : decode cX7_init 127 = .ok (.iastore, 1) := by decide +kernel
theorem dX7_init_128 : decode cX7_init 128 = .ok (.dup, 1) := by decide +kernel
theorem dX7_init_129 : decode cX7_init 129 = .ok (.iconst 4, 1) := by decide +kernel
theorem dX7_init_130 : decode cX7_init 130 = .ok (.bipush 7, 2) := by decide +kernel
theorem dX7_init_132 : decode cX7_init 132 = .ok (.iastore, 1) := by decide +kernel
theorem dX7_init_133 : decode cX7_init 133 = .ok (.dup, 1) := by decide +kernel
theorem dX7_init_134 : decode cX7_init 134 = .ok (.iconst 5, 1) := by decide +kernel
theorem dX7_init_135 : decode cX7_init 135 = .ok (.bipush 20, 2) := by decide +kernel
theorem dX7_init_137 : decode cX7_init 137 = .ok (.iastore, 1) := by decide +kernel
theorem dX7_init_138 : decode cX7_init 138 = .ok (.dup, 1) := by decide +kernel
theorem dX7_init_139 : decode cX7_init 139 = .ok (.bipush 6, 2) := by decide +kernel
theorem dX7_init_141 : decode cX7_init 141 = .ok (.bipush 11, 2) := by decide +kernel
theorem dX7_init_143 : decode cX7_init 143 = .ok (.iastore, 1) := by decide +kernel
theorem dX7_init_144 : decode cX7_init 144 = .ok (.dup, 1) := by decide +kernel
theorem dX7_init_145 : decode cX7_init 145 = .ok (.bipush 7, 2) := by decide +kernel
theorem dX7_init_147 : decode cX7_init 147 = .ok (.bipush 25, 2) := by decide +kernel
theorem dX7_init_149 : decode cX7_init 149 = .ok (.iastore, 1) := by decide +kernel
theorem dX7_init_150 : decode cX7_init 150 = .ok (.dup, 1) := by decide +kernel
theorem dX7_init_151 : decode cX7_init 151 = .ok (.bipush 8, 2) := by decide +kernel
theorem dX7_init_153 : decode cX7_init 153 = .ok (.iconst 1, 1) := by decide +kernel
theorem dX7_init_154 : decode cX7_init 154 = .ok (.iastore, 1) := by decide +kernel
theorem dX7_init_155 : decode cX7_init 155 = .ok (.putfield 48, 3) := by decide +kernel
theorem dX7_init_158 : decode cX7_init 158 = .ok (.aload_n 0, 1) := by decide +kernel
theorem dX7_init_159 : decode cX7_init 159 = .ok (.iconst 0, 1) := by decide +kernel
theorem dX7_init_160 : decode cX7_init 160 = .ok (.putfield 51, 3) := by decide +kernel
theorem dX7_init_163 : decode cX7_init 163 = .ok (.return_, 1) := by decide +kernel
theorem dX7_thrown_0 : decode cX7_thrown 0 = .ok (.aload_n 0, 1) := by decide +kernel
theorem dX7_thrown_1 : decode cX7_thrown 1 = .ok (.getfield 55, 3) := by decide +kernel
theorem dX7_thrown_4 : decode cX7_thrown 4 = .ok (.ireturn, 1) := by decide +kernel
theorem dX7_isIn_0 : decode cX7_isIn 0 = .ok (.lload_n 0, 1) := by decide +kernel
theorem dX7_isIn_1 : decode cX7_isIn 1 = .ok (.lload_n 2, 1) := by decide +kernel
theorem dX7_isIn_2 : decode cX7_isIn 2 = .ok (.lcmp, 1) := by decide +kernel
theorem dX7_isIn_3 : decode cX7_isIn 3 = .ok (.ifCond .lt 14, 3) := by decide +kernel
theorem dX7_isIn_6 : decode cX7_isIn 6 = .ok (.lload_n 0, 1) := by decide +kernel
theorem dX7_isIn_7 : decode cX7_isIn 7 = .ok (.lload 4, 2) := by decide +kernel
theorem dX7_isIn_9 : decode cX7_isIn 9 = .ok (.lcmp, 1) := by decide +kernel
theorem dX7_isIn_10 : decode cX7_isIn 10 = .ok (.ifCond .gt 7, 3) := by decide +kernel
theorem dX7_isIn_13 : decode cX7_isIn 13 = .ok (.iconst 1, 1) := by decide +kernel
theorem dX7_isIn_14 : decode cX7_isIn 14 = .ok (.goto 4, 3) := by decide +kernel
theorem dX7_isIn_17 : decode cX7_isIn 17 = .ok (.iconst 0, 1) := by decide +kernel
theorem dX7_isIn_18 : decode cX7_isIn 18 = .ok (.ireturn, 1) := by decide +kernel
set_option maxRecDepth 20000 in
theorem ggX7_block_X7_isIn : GoodIn wsX7_block wsX7_isIn := goodIn_r _ [11] (by decide +kernel) (by decide +kernel)
set_option maxRecDepth 20000 in
theorem gX7_block_X7_isIn : GoodIn wsX7_block (va_wsS RX7 60 yX7_isIn wsX7_isIn) := goodIn_app (goodIn_of _ (by decide +kernel)) ggX7_block_X7_isIn
theorem dX7_block_0 : decode cX7_block 0 = .ok (.aload_n 0, 1) := by decide +kernel
theorem dX7_block_1 : decode cX7_block 1 = .ok (.iconst 0, 1) := by decide +kernel
theorem dX7_block_2 : decode cX7_block 2 = .ok (.putfield 55, 3) := by decide +kernel
theorem dX7_block_5 : decode cX7_block 5 = .ok (.iload_n 1, 1) := by decide +kernel
theorem dX7_block_6 : decode cX7_block 6 = .ok (.i2l, 1) := by decide +kernel
theorem dX7_block_7 : decode cX7_block 7 = .ok (.lconst 0, 1) := by decide +kernel
theorem dX7_block_8 : decode cX7_block 8 = .ok (.ldc2_w 58, 3) := by decide +kernel
theorem dX7_block_11 : decode cX7_block 11 = .ok (.invokestatic 60, 3) := by decide +kernel
theorem dX7_block_14 : decode cX7_block 14 = .ok (.ifCond .eq 25, 3) := by decide +kernel
theorem dX7_block_17 : decode cX7_block 17 = .ok (.lload_n 2, 1) := by decide +kernel
theorem dX7_block_18 : decode cX7_block 18 = .ok (.lconst 0, 1) := by decide +kernel
theorem dX7_block_19 : decode cX7_block 19 = .ok (.lcmp, 1) := by decide +kernel
theorem dX7_block_20 : decode cX7_block 20 = .ok (.ifCond .lt 19, 3) := by decide +kernel
theorem dX7_block_23 : decode cX7_block 23 = .ok (.lload_n 2, 1) := by decide +kernel
theorem dX7_block_24 : decode cX7_block 24 = .ok (.lload 4, 2) := by decide +kernel
theorem dX7_block_26 : decode cX7_block 26 = .ok (.lcmp, 1) := by decide +kernel
theorem dX7_block_27 : decode cX7_block 27 = .ok (.ifCond .gt 12, 3) := by decide +kernel
theorem dX7_block_30 : decode cX7_block 30 = .ok (.lload 4, 2) := by decide +kernel
theorem dX7_block_32 : decode cX7_block 32 = .ok (.ldc2_w 64, 3) := by decide +kernel
theorem dX7_block_35 : decode cX7_block 35 = .ok (.lcmp, 1) := by decide +kernel
theorem dX7_block_36 : decode cX7_block 36 = .ok (.ifCond .lt 6, 3) := by decide +kernel
theorem dX7_block_39 : decode cX7_block 39 = .ok (.bipush (-102), 2) := by decide +kernel
theorem dX7_block_41 : decode cX7_block 41 = .ok (.ireturn, 1) := by decide +kernel
theorem dX7_block_42 : decode cX7_block 42 = .ok (.iconst 0, 1) := by decide +kernel
theorem dX7_block_43 : decode cX7_block 43 = .ok (.istore 6, 2) := by decide +kernel
theorem dX7_block_45 : decode cX7_block 45 = .ok (.iload 6, 2) := by decide +kernel
theorem dX7_block_47 : decode cX7_block 47 = .ok (.aload_n 0, 1) := by decide +kernel
theorem dX7_block_48 : decode cX7_block 48 = .ok (.getfield 66, 3) := by decide +kernel
theorem dX7_block_51 : decode cX7_block 51 = .ok (.if_icmp .ge 49, 3) := by decide +kernel
theorem dX7_block_54 : decode cX7_block 54 = .ok (.lload_n 2, 1) := by decide +kernel
theorem dX7_block_55 : decode cX7_block 55 = .ok (.aload_n 0, 1) := by decide +kernel
theorem dX7_block_56 : decode cX7_block 56 = .ok (.getfield 13, 3) := by decide +kernel
theorem dX7_block_59 : decode cX7_block 59 = .ok (.iload 6, 2) := by decide +kernel
theorem dX7_block_61 : decode cX7_block 61 = .ok (.laload, 1) := by decide +kernel
theorem dX7_block_62 : decode cX7_block 62 = .ok (.aload_n 0, 1) := by decide +kernel
theorem dX7_block_63 : decode cX7_block 63 = .ok (.getfield 17, 3) := by decide +kernel
theorem dX7_block_66 : decode cX7_block 66 = .ok (.iload 6, 2) := by decide +kernel
theorem dX7_block_68 : decode cX7_block 68 = .ok (.laload, 1) := by decide +kernel
theorem dX7_block_69 : decode cX7_block 69 = .ok (.invokestatic 60, 3) := by decide +kernel
theorem dX7_block_72 : decode cX7_block 72 = .ok (.ifCond .ne 19, 3) := by decide +kernel
theorem dX7_block_75 : decode cX7_block 75 = .ok (.aload_n 0, 1) := by decide +kernel
theorem dX7_block_76 : decode cX7_block 76 = .ok (.getfield 13, 3) := by decide +kernel
theorem dX7_block_79 : decode cX7_block 79 = .ok (.iload 6, 2) := by decide +kernel
theorem dX7_block_81 : decode cX7_block 81 = .ok (.laload, 1) := by decide +kernel
theorem dX7_block_82 : decode cX7_block 82 = .ok (.lload_n 2, 1) := by decide +kernel
theorem dX7_block_83 : decode cX7_block 83 = .ok (.lload 4, 2) := by decide +kernel
theorem dX7_block_85 : decode cX7_block 85 = .ok (.invokestatic 60, 3) := by decide +kernel
theorem dX7_block_88 : decode cX7_block 88 = .ok (.ifCond .eq 6, 3) := by decide +kernel
theorem dX7_block_91 : decode cX7_block 91 = .ok (.bipush (-103), 2) := by decide +kernel
theorem dX7_block_93 : decode cX7_block 93 = .ok (.ireturn, 1) := by decide +kernel
theorem dX7_block_94 : decode cX7_block 94 = .ok (.iinc 6 1, 3) := by decide +kernel
theorem dX7_block_97 : decode cX7_block 97 = .ok (.goto (-52), 3) := by decide +kernel
theorem dX7_block_100 : decode cX7_block 100 = .ok (.aload_n 0, 1) := by decide +kernel
theorem dX7_block_101 : decode cX7_block 101 = .ok (.getfield 66, 3) := by decide +kernel
theorem dX7_block_104 : decode cX7_block 104 = .ok (.bipush 50, 2) := by decide +kernel
theorem dX7_block_106 : decode cX7_block 106 = .ok (.if_icmp .ne 6, 3) := by decide +kernel
theorem dX7_block_109 : decode cX7_block 109 = .ok (.bipush (-104), 2) := by decide +kernel
theorem dX7_block_111 : decode cX7_block 111 = .ok (.ireturn, 1) := by decide +kernel
theorem dX7_block_112 : decode cX7_block 112 = .ok (.aload_n 0, 1) := by decide +kernel
theorem dX7_block_113 : decode cX7_block 113 = .ok (.getfield 7, 3) := by decide +kernel
theorem dX7_block_116 : decode cX7_block 116 = .ok (.aload_n 0, 1) := by decide +kernel
theorem dX7_block_117 : decode cX7_block 117 = .ok (.getfield 66, 3) := by decide +kernel
theorem dX7_block_120 : decode cX7_block 120 = .ok (.iload_n 1, 1) := by decide +kernel
theorem dX7_block_121 : decode cX7_block 121 = .ok (.iastore, 1) := by decide +kernel
theorem dX7_block_122 : decode cX7_block 122 = .ok (.aload_n 0, 1) := by decide +kernel
theorem dX7_block_123 : decode cX7_block 123 = .ok (.getfield 13, 3) := by decide +kernel
theorem dX7_block_126 : decode cX7_block 126 = .ok (.aload_n 0, 1) := by decide +kernel
theorem dX7_block_127 : decode cX7_block 127 = .ok (.getfield 66, 3) := by decide +kernel
theorem dX7_block_130 : decode cX7_block 130 = .ok (.lload_n 2, 1) := by decide +kernel
theorem dX7_block_131 : decode cX7_block 131 = .ok (.lastore, 1) := by decide +kernel
theorem dX7_block_132 : decode cX7_block 132 = .ok (.aload_n 0, 1) := by decide +kernel
theorem dX7_block_133 : decode cX7_block 133 = .ok (.getfield 17, 3) := by decide +kernel
theorem dX7_block_136 : decode cX7_block 136 = .ok (.aload_n 0, 1) := by decide +kernel
theorem dX7_block_137 : decode cX7_block 137 = .ok (.getfield 66, 3) := by decide +kernel
theorem dX7_block_140 : decode cX7_block 140 = .ok (.lload 4, 2) := by decide +kernel
theorem dX7_block_142 : decode cX7_block 142 = .ok (.lastore, 1) := by decide +kernel
theorem dX7_block_143 : decode cX7_block 143 = .ok (.aload_n 0, 1) := by decide +kernel
theorem dX7_block_144 : decode cX7_block 144 = .ok (.dup, 1) := by decide +kernel
theorem dX7_block_145 : decode cX7_block 145 = .ok (.getfield 66, 3) := by decide +kernel
theorem dX7_block_148 : decode cX7_block 148 = .ok (.iconst 1, 1) := by decide +kernel
theorem dX7_block_149 : decode cX7_block 149 = .ok (.iadd, 1) := by decide +kernel
theorem dX7_block_150 : decode cX7_block 150 = .ok (.putfield 66, 3) := by decide +kernel
theorem dX7_block_153 : decode cX7_block 153 = .ok (.aload_n 0, 1) := by decide +kernel
theorem dX7_block_154 : decode cX7_block 154 = .ok (.getfield 66, 3) := by decide +kernel
theorem dX7_block_157 : decode cX7_block 157 = .ok (.ireturn, 1) := by decide +kernel
set_option maxRecDepth 20000 in
theorem ggX7_barredTo_X7_isIn : GoodIn wsX7_barredTo wsX7_isIn := goodIn_r _ [8] (by decide +kernel) (by decide +kernel)
set_option maxRecDepth 20000 in
theorem gX7_barredTo_X7_isIn : GoodIn wsX7_barredTo (va_wsS RX7 60 yX7_isIn wsX7_isIn) := goodIn_app (goodIn_of _ (by decide +kernel)) ggX7_barredTo_X7_isIn
theorem dX7_barredTo_0 : decode cX7_barredTo 0 = .ok (.ldc2_w 69, 3) := by decide +kernel
theorem dX7_barredTo_3 : decode cX7_barredTo 3 = .ok (.lstore_n 3, 1) := by decide +kernel
theorem dX7_barredTo_4 : decode cX7_barredTo 4 = .ok (.iconst 0, 1) := by decide +kernel
theorem dX7_barredTo_5 : decode cX7_barredTo 5 = .ok (.istore 5, 2) := by decide +kernel
theorem dX7_barredTo_7 : decode cX7_barredTo 7 = .ok (.iload 5, 2) := by decide +kernel
theorem dX7_barredTo_9 : decode cX7_barredTo 9 = .ok (.aload_n 0, 1) := by decide +kernel
theorem dX7_barredTo_10 : decode cX7_barredTo 10 = .ok (.getfield 71, 3) := by decide +kernel
theorem dX7_barredTo_13 : decode cX7_barredTo 13 = .ok (.if_icmp .ge 54, 3) := by decide +kernel
theorem dX7_barredTo_16 : decode cX7_barredTo 16 = .ok (.lload_n 1, 1) := by decide +kernel
theorem dX7_barredTo_17 : decode cX7_barredTo 17 = .ok (.aload_n 0, 1) := by decide +kernel
theorem dX7_barredTo_18 : decode cX7_barredTo 18 = .ok (.getfield 20, 3) := by decide +kernel
theorem dX7_barredTo_21 : decode cX7_barredTo 21 = .ok (.iload 5, 2) := by decide +kernel
theorem dX7_barredTo_23 : decode cX7_barredTo 23 = .ok (.laload, 1) := by decide +kernel
theorem dX7_barredTo_24 : decode cX7_barredTo 24 = .ok (.aload_n 0, 1) := by decide +kernel
theorem dX7_barredTo_25 : decode cX7_barredTo 25 = .ok (.getfield 23, 3) := by decide +kernel
theorem dX7_barredTo_28 : decode cX7_barredTo 28 = .ok (.iload 5, 2) := by decide +kernel
theorem dX7_barredTo_30 : decode cX7_barredTo 30 = .ok (.laload, 1) := by decide +kernel
theorem dX7_barredTo_31 : decode cX7_barredTo 31 = .ok (.invokestatic 60, 3) := by decide +kernel
theorem dX7_barredTo_34 : decode cX7_barredTo 34 = .ok (.ifCond .eq 25, 3) := by decide +kernel
theorem dX7_barredTo_37 : decode cX7_barredTo 37 = .ok (.aload_n 0, 1) := by decide +kernel
theorem dX7_barredTo_38 : decode cX7_barredTo 38 = .ok (.getfield 23, 3) := by decide +kernel
theorem dX7_barredTo_41 : decode cX7_barredTo 41 = .ok (.iload 5, 2) := by decide +kernel
theorem dX7_barredTo_43 : decode cX7_barredTo 43 = .ok (.laload, 1) := by decide +kernel
theorem dX7_barredTo_44 : decode cX7_barredTo 44 = .ok (.lload_n 3, 1) := by decide +kernel
theorem dX7_barredTo_45 : decode cX7_barredTo 45 = .ok (.lcmp, 1) := by decide +kernel
theorem dX7_barredTo_46 : decode cX7_barredTo 46 = .ok (.ifCond .le 13, 3) := by decide +kernel
theorem dX7_barredTo_49 : decode cX7_barredTo 49 = .ok (.aload_n 0, 1) := by decide +kernel
theorem dX7_barredTo_50 : decode cX7_barredTo 50 = .ok (.getfield 23, 3) := by decide +kernel
theorem dX7_barredTo_53 : decode cX7_barredTo 53 = .ok (.iload 5, 2) := by decide +kernel
theorem dX7_barredTo_55 : decode cX7_barredTo 55 = .ok (.laload, 1) := by decide +kernel
theorem dX7_barredTo_56 : decode cX7_barredTo 56 = .ok (.goto 4, 3) := by decide +kernel
theorem dX7_barredTo_59 : decode cX7_barredTo 59 = .ok (.lload_n 3, 1) := by decide +kernel
theorem dX7_barredTo_60 : decode cX7_barredTo 60 = .ok (.lstore_n 3, 1) := by decide +kernel
theorem dX7_barredTo_61 : decode cX7_barredTo 61 = .ok (.iinc 5 1, 3) := by decide +kernel
theorem dX7_barredTo_64 : decode cX7_barredTo 64 = .ok (.goto (-57), 3) := by decide +kernel
theorem dX7_barredTo_67 : decode cX7_barredTo 67 = .ok (.lload_n 3, 1) := by decide +kernel
theorem dX7_barredTo_68 : decode cX7_barredTo 68 = .ok (.lreturn, 1) := by decide +kernel
theorem dX7_wasGiven_0 : decode cX7_wasGiven 0 = .ok (.iconst 0, 1) := by decide +kernel
theorem dX7_wasGiven_1 : decode cX7_wasGiven 1 = .ok (.istore_n 3, 1) := by decide +kernel
theorem dX7_wasGiven_2 : decode cX7_wasGiven 2 = .ok (.iload_n 3, 1) := by decide +kernel
theorem dX7_wasGiven_3 : decode cX7_wasGiven 3 = .ok (.aload_n 0, 1) := by decide +kernel
theorem dX7_wasGiven_4 : decode cX7_wasGiven 4 = .ok (.getfield 74, 3) := by decide +kernel
theorem dX7_wasGiven_7 : decode cX7_wasGiven 7 = .ok (.if_icmp .ge 26, 3) := by decide +kernel
theorem dX7_wasGiven_10 : decode cX7_wasGiven 10 = .ok (.aload_n 0, 1) := by decide +kernel
theorem dX7_wasGiven_11 : decode cX7_wasGiven 11 = .ok (.getfield 26, 3) := by decide +kernel
theorem dX7_wasGiven_14 : decode cX7_wasGiven 14 = .ok (.iload_n 3, 1) := by decide +kernel
theorem dX7_wasGiven_15 : decode cX7_wasGiven 15 = .ok (.laload, 1) := by decide +kernel
theorem dX7_wasGiven_16 : decode cX7_wasGiven 16 = .ok (.ldc2_w 77, 3) := by decide +kernel
theorem dX7_wasGiven_19 : decode cX7_wasGiven 19 = .ok (.lrem, 1) := by decide +kernel
theorem dX7_wasGiven_20 : decode cX7_wasGiven 20 = .ok (.lload_n 1, 1) := by decide +kernel
theorem dX7_wasGiven_21 : decode cX7_wasGiven 21 = .ok (.lcmp, 1) := by decide +kernel
theorem dX7_wasGiven_22 : decode cX7_wasGiven 22 = .ok (.ifCond .ne 5, 3) := by decide +kernel
theorem dX7_wasGiven_25 : decode cX7_wasGiven 25 = .ok (.iconst 1, 1) := by decide +kernel
theorem dX7_wasGiven_26 : decode cX7_wasGiven 26 = .ok (.ireturn, 1) := by decide +kernel
theorem dX7_wasGiven_27 : decode cX7_wasGiven 27 = .ok (.iinc 3 1, 3) := by decide +kernel
theorem dX7_wasGiven_30 : decode cX7_wasGiven 30 = .ok (.goto (-28), 3) := by decide +kernel
theorem dX7_wasGiven_33 : decode cX7_wasGiven 33 = .ok (.iconst 0, 1) := by decide +kernel
theorem dX7_wasGiven_34 : decode cX7_wasGiven 34 = .ok (.ireturn, 1) := by decide +kernel
set_option maxRecDepth 20000 in
theorem ggX7_free_X7_barredTo : GoodIn wsX7_free wsX7_barredTo := goodIn_r _ [8, 3, 9, 10, 11, 12, 13, 7, 14, 22, 23, 24, 25, 26, 27, 28, 29, 30, 31, 32, 33, 34, 35, 36, 37, 38, 39, 40] (by decide +kernel) (by decide +kernel)
set_option maxRecDepth 20000 in
theorem gX7_free_X7_barredTo : GoodIn wsX7_free (wsV RX7 79 RX7 yX7_barredTo wsX7_barredTo) := goodIn_app (goodIn_of _ (by decide +kernel)) ggX7_free_X7_barredTo
set_option maxRecDepth 20000 in
theorem ggX7_free_X7_wasGiven : GoodIn wsX7_free wsX7_wasGiven := goodIn_r _ [18, 19, 20, 21, 22, 23, 24, 25, 26, 27, 28, 29, 30, 31, 32, 33, 34, 35, 36, 37, 38, 39, 40] (by decide +kernel) (by decide +kernel)
set_option maxRecDepth 20000 in
theorem gX7_free_X7_wasGiven : GoodIn wsX7_free (wsV RX7 83 RX7 yX7_wasGiven wsX7_wasGiven) := goodIn_app (goodIn_of _ (by decide +kernel)) ggX7_free_X7_wasGiven
theorem dX7_free_0 : decode cX7_free 0 = .ok (.aload_n 0, 1) := by decide +kernel
theorem dX7_free_1 : decode cX7_free 1 = .ok (.getfield 13, 3) := by decide +kernel
theorem dX7_free_4 : decode cX7_free 4 = .ok (.iload_n 1, 1) := by decide +kernel
theorem dX7_free_5 : decode cX7_free 5 = .ok (.laload, 1) := by decide +kernel
theorem dX7_free_6 : decode cX7_free 6 = .ok (.lstore_n 2, 1) := by decide +kernel
theorem dX7_free_7 : decode cX7_free 7 = .ok (.iconst 1, 1) := by decide +kernel
theorem dX7_free_8 : decode cX7_free 8 = .ok (.istore 4, 2) := by decide +kernel
theorem dX7_free_10 : decode cX7_free 10 = .ok (.iload 4, 2) := by decide +kernel
theorem dX7_free_12 : decode cX7_free 12 = .ok (.ifCond .eq 73, 3) := by decide +kernel
theorem dX7_free_15 : decode cX7_free 15 = .ok (.lload_n 2, 1) := by decide +kernel
theorem dX7_free_16 : decode cX7_free 16 = .ok (.aload_n 0, 1) := by decide +kernel
theorem dX7_free_17 : decode cX7_free 17 = .ok (.getfield 17, 3) := by decide +kernel
theorem dX7_free_20 : decode cX7_free 20 = .ok (.iload_n 1, 1) := by decide +kernel
theorem dX7_free_21 : decode cX7_free 21 = .ok (.laload, 1) := by decide +kernel
theorem dX7_free_22 : decode cX7_free 22 = .ok (.lcmp, 1) := by decide +kernel
theorem dX7_free_23 : decode cX7_free 23 = .ok (.ifCond .gt 62, 3) := by decide +kernel
theorem dX7_free_26 : decode cX7_free 26 = .ok (.aload_n 0, 1) := by decide +kernel
theorem dX7_free_27 : decode cX7_free 27 = .ok (.lload_n 2, 1) := by decide +kernel
theorem dX7_free_28 : decode cX7_free 28 = .ok (.invokevirtual 79, 3) := by decide +kernel
theorem dX7_free_31 : decode cX7_free 31 = .ok (.lstore 5, 2) := by decide +kernel
theorem dX7_free_33 : decode cX7_free 33 = .ok (.lload 5, 2) := by decide +kernel
theorem dX7_free_35 : decode cX7_free 35 = .ok (.lconst 0, 1) := by decide +kernel
theorem dX7_free_36 : decode cX7_free 36 = .ok (.lcmp, 1) := by decide +kernel
theorem dX7_free_37 : decode cX7_free 37 = .ok (.ifCond .ge 11, 3) := by decide +kernel
theorem dX7_free_40 : decode cX7_free 40 = .ok (.aload_n 0, 1) := by decide +kernel
theorem dX7_free_41 : decode cX7_free 41 = .ok (.lload_n 2, 1) := by decide +kernel
theorem dX7_free_42 : decode cX7_free 42 = .ok (.invokevirtual 83, 3) := by decide +kernel
theorem dX7_free_45 : decode cX7_free 45 = .ok (.ifCond .eq 7, 3) := by decide +kernel
theorem dX7_free_48 : decode cX7_free 48 = .ok (.iconst 1, 1) := by decide +kernel
theorem dX7_free_49 : decode cX7_free 49 = .ok (.goto 4, 3) := by decide +kernel
theorem dX7_free_52 : decode cX7_free 52 = .ok (.iconst 0, 1) := by decide +kernel
theorem dX7_free_53 : decode cX7_free 53 = .ok (.istore 4, 2) := by decide +kernel
theorem dX7_free_55 : decode cX7_free 55 = .ok (.lload 5, 2) := by decide +kernel
theorem dX7_free_57 : decode cX7_free 57 = .ok (.lconst 0, 1) := by decide +kernel
theorem dX7_free_58 : decode cX7_free 58 = .ok (.lcmp, 1) := by decide +kernel
theorem dX7_free_59 : decode cX7_free 59 = .ok (.ifCond .lt 10, 3) := by decide +kernel
theorem dX7_free_62 : decode cX7_free 62 = .ok (.lload 5, 2) := by decide +kernel
theorem dX7_free_64 : decode cX7_free 64 = .ok (.lconst 1, 1) := by decide +kernel
theorem dX7_free_65 : decode cX7_free 65 = .ok (.ladd, 1) := by decide +kernel
theorem dX7_free_66 : decode cX7_free 66 = .ok (.goto 15, 3) := by decide +kernel
theorem dX7_free_69 : decode cX7_free 69 = .ok (.iload 4, 2) := by decide +kernel
theorem dX7_free_71 : decode cX7_free 71 = .ok (.ifCond .eq 9, 3) := by decide +kernel
theorem dX7_free_74 : decode cX7_free 74 = .ok (.lload_n 2, 1) := by decide +kernel
theorem dX7_free_75 : decode cX7_free 75 = .ok (.lconst 1, 1) := by decide +kernel
theorem dX7_free_76 : decode cX7_free 76 = .ok (.ladd, 1) := by decide +kernel
theorem dX7_free_77 : decode cX7_free 77 = .ok (.goto 4, 3) := by decide +kernel
theorem dX7_free_80 : decode cX7_free 80 = .ok (.lload_n 2, 1) := by decide +kernel
theorem dX7_free_81 : decode cX7_free 81 = .ok (.lstore_n 2, 1) := by decide +kernel
theorem dX7_free_82 : decode cX7_free 82 = .ok (.goto (-72), 3) := by decide +kernel
theorem dX7_free_85 : decode cX7_free 85 = .ok (.lload_n 2, 1) := by decide +kernel
theorem dX7_free_86 : decode cX7_free 86 = .ok (.aload_n 0, 1) := by decide +kernel
theorem dX7_free_87 : decode cX7_free 87 = .ok (.getfield 17, 3) := by decide +kernel
theorem dX7_free_90 : decode cX7_free 90 = .ok (.iload_n 1, 1) := by decide +kernel
theorem dX7_free_91 : decode cX7_free 91 = .ok (.laload, 1) := by decide +kernel
theorem dX7_free_92 : decode cX7_free 92 = .ok (.lcmp, 1) := by decide +kernel
theorem dX7_free_93 : decode cX7_free 93 = .ok (.ifCond .gt 7, 3) := by decide +kernel
theorem dX7_free_96 : decode cX7_free 96 = .ok (.lload_n 2, 1) := by decide +kernel
theorem dX7_free_97 : decode cX7_free 97 = .ok (.goto 6, 3) := by decide +kernel
theorem dX7_free_100 : decode cX7_free 100 = .ok (.ldc2_w 69, 3) := by decide +kernel
theorem dX7_free_103 : decode cX7_free 103 = .ok (.lreturn, 1) := by decide +kernel
set_option maxRecDepth 20000 in
theorem ggX7_next_X7_isIn : GoodIn wsX7_next wsX7_isIn := goodIn_r _ [15] (by decide +kernel) (by decide +kernel)
set_option maxRecDepth 20000 in
theorem gX7_next_X7_isIn : GoodIn wsX7_next (va_wsS RX7 60 yX7_isIn wsX7_isIn) := goodIn_app (goodIn_of _ (by decide +kernel)) ggX7_next_X7_isIn
set_option maxRecDepth 20000 in
theorem ggX7_next_X7_free : GoodIn wsX7_next wsX7_free := goodIn_r _ [19, 20, 21, 7, 22, 23, 24, 14, 25, 26, 27, 28, 12, 13, 15, 29, 30, 31, 32, 9, 8, 10, 33, 34, 35, 36, 37, 38, 39, 40, 41, 42, 43, 44, 45, 46, 47, 48, 49, 50, 51] (by decide +kernel) (by decide +kernel)
set_option maxRecDepth 20000 in
theorem gX7_next_X7_free : GoodIn wsX7_next (wsV RX7 91 RX7 yX7_free wsX7_free) := goodIn_app (goodIn_of _ (by decide +kernel)) ggX7_next_X7_free
theorem dX7_next_0 : decode cX7_next 0 = .ok (.aload_n 0, 1) := by decide +kernel
theorem dX7_next_1 : decode cX7_next 1 = .ok (.iconst 0, 1) := by decide +kernel
theorem dX7_next_2 : decode cX7_next 2 = .ok (.putfield 55, 3) := by decide +kernel
theorem dX7_next_5 : decode cX7_next 5 = .ok (.iload_n 1, 1) := by decide +kernel
theorem dX7_next_6 : decode cX7_next 6 = .ok (.i2l, 1) := by decide +kernel
theorem dX7_next_7 : decode cX7_next 7 = .ok (.lconst 0, 1) := by decide +kernel
theorem dX7_next_8 : decode cX7_next 8 = .ok (.ldc2_w 58, 3) := by decide +kernel
theorem dX7_next_11 : decode cX7_next 11 = .ok (.invokestatic 60, 3) := by decide +kernel
theorem dX7_next_14 : decode cX7_next 14 = .ok (.ifCond .eq 15, 3) := by decide +kernel
theorem dX7_next_17 : decode cX7_next 17 = .ok (.iload_n 2, 1) := by decide +kernel
theorem dX7_next_18 : decode cX7_next 18 = .ok (.i2l, 1) := by decide +kernel
theorem dX7_next_19 : decode cX7_next 19 = .ok (.lconst 0, 1) := by decide +kernel
theorem dX7_next_20 : decode cX7_next 20 = .ok (.ldc2_w 87, 3) := by decide +kernel
theorem dX7_next_23 : decode cX7_next 23 = .ok (.invokestatic 60, 3) := by decide +kernel
theorem dX7_next_26 : decode cX7_next 26 = .ok (.ifCond .ne 7, 3) := by decide +kernel
theorem dX7_next_29 : decode cX7_next 29 = .ok (.ldc2_w 89, 3) := by decide +kernel
theorem dX7_next_32 : decode cX7_next 32 = .ok (.lreturn, 1) := by decide +kernel
theorem dX7_next_33 : decode cX7_next 33 = .ok (.iconst 0, 1) := by decide +kernel
theorem dX7_next_34 : decode cX7_next 34 = .ok (.istore_n 3, 1) := by decide +kernel
theorem dX7_next_35 : decode cX7_next 35 = .ok (.iload_n 3, 1) := by decide +kernel
theorem dX7_next_36 : decode cX7_next 36 = .ok (.aload_n 0, 1) := by decide +kernel
theorem dX7_next_37 : decode cX7_next 37 = .ok (.getfield 66, 3) := by decide +kernel
theorem dX7_next_40 : decode cX7_next 40 = .ok (.if_icmp .ge 91, 3) := by decide +kernel
theorem dX7_next_43 : decode cX7_next 43 = .ok (.aload_n 0, 1) := by decide +kernel
theorem dX7_next_44 : decode cX7_next 44 = .ok (.getfield 7, 3) := by decide +kernel
theorem dX7_next_47 : decode cX7_next 47 = .ok (.iload_n 3, 1) := by decide +kernel
theorem dX7_next_48 : decode cX7_next 48 = .ok (.iaload, 1) := by decide +kernel
theorem dX7_next_49 : decode cX7_next 49 = .ok (.iload_n 1, 1) := by decide +kernel
theorem dX7_next_50 : decode cX7_next 50 = .ok (.if_icmp .ne 11, 3) := by decide +kernel
theorem dX7_next_53 : decode cX7_next 53 = .ok (.aload_n 0, 1) := by decide +kernel
theorem dX7_next_54 : decode cX7_next 54 = .ok (.iload_n 3, 1) := by decide +kernel
theorem dX7_next_55 : decode cX7_next 55 = .ok (.invokevirtual 91, 3) := by decide +kernel
theorem dX7_next_58 : decode cX7_next 58 = .ok (.goto 6, 3) := by decide +kernel
theorem dX7_next_61 : decode cX7_next 61 = .ok (.ldc2_w 69, 3) := by decide +kernel
theorem dX7_next_64 : decode cX7_next 64 = .ok (.lstore 4, 2) := by decide +kernel
theorem dX7_next_66 : decode cX7_next 66 = .ok (.lload 4, 2) := by decide +kernel
theorem dX7_next_68 : decode cX7_next 68 = .ok (.lconst 0, 1) := by decide +kernel
theorem dX7_next_69 : decode cX7_next 69 = .ok (.lcmp, 1) := by decide +kernel
theorem dX7_next_70 : decode cX7_next 70 = .ok (.ifCond .lt 55, 3) := by decide +kernel
theorem dX7_next_73 : decode cX7_next 73 = .ok (.aload_n 0, 1) := by decide +kernel
theorem dX7_next_74 : decode cX7_next 74 = .ok (.getfield 26, 3) := by decide +kernel
theorem dX7_next_77 : decode cX7_next 77 = .ok (.aload_n 0, 1) := by decide +kernel
theorem dX7_next_78 : decode cX7_next 78 = .ok (.getfield 74, 3) := by decide +kernel
theorem dX7_next_81 : decode cX7_next 81 = .ok (.iload_n 2, 1) := by decide +kernel
theorem dX7_next_82 : decode cX7_next 82 = .ok (.i2l, 1) := by decide +kernel
theorem dX7_next_83 : decode cX7_next 83 = .ok (.lconst 1, 1) := by decide +kernel
theorem dX7_next_84 : decode cX7_next 84 = .ok (.ladd, 1) := by decide +kernel
theorem dX7_next_85 : decode cX7_next 85 = .ok (.ldc2_w 77, 3) := by decide +kernel
theorem dX7_next_88 : decode cX7_next 88 = .ok (.lmul, 1) := by decide +kernel
theorem dX7_next_89 : decode cX7_next 89 = .ok (.lload 4, 2) := by decide +kernel
theorem dX7_next_91 : decode cX7_next 91 = .ok (.ladd, 1) := by decide +kernel
theorem dX7_next_92 : decode cX7_next 92 = .ok (.lastore, 1) := by decide +kernel
theorem dX7_next_93 : decode cX7_next 93 = .ok (.aload_n 0, 1) := by decide +kernel
theorem dX7_next_94 : decode cX7_next 94 = .ok (.getfield 29, 3) := by decide +kernel
theorem dX7_next_97 : decode cX7_next 97 = .ok (.aload_n 0, 1) := by decide +kernel
theorem dX7_next_98 : decode cX7_next 98 = .ok (.getfield 74, 3) := by decide +kernel
theorem dX7_next_101 : decode cX7_next 101 = .ok (.iconst 0, 1) := by decide +kernel
theorem dX7_next_102 : decode cX7_next 102 = .ok (.bastore, 1) := by decide +kernel
theorem dX7_next_103 : decode cX7_next 103 = .ok (.aload_n 0, 1) := by decide +kernel
theorem dX7_next_104 : decode cX7_next 104 = .ok (.dup, 1) := by decide +kernel
theorem dX7_next_105 : decode cX7_next 105 = .ok (.getfield 74, 3) := by decide +kernel
theorem dX7_next_108 : decode cX7_next 108 = .ok (.iconst 1, 1) := by decide +kernel
theorem dX7_next_109 : decode cX7_next 109 = .ok (.iadd, 1) := by decide +kernel
theorem dX7_next_110 : decode cX7_next 110 = .ok (.putfield 74, 3) := by decide +kernel
theorem dX7_next_113 : decode cX7_next 113 = .ok (.aload_n 0, 1) := by decide +kernel
theorem dX7_next_114 : decode cX7_next 114 = .ok (.getfield 26, 3) := by decide +kernel
theorem dX7_next_117 : decode cX7_next 117 = .ok (.aload_n 0, 1) := by decide +kernel
theorem dX7_next_118 : decode cX7_next 118 = .ok (.getfield 74, 3) := by decide +kernel
theorem dX7_next_121 : decode cX7_next 121 = .ok (.iconst 1, 1) := by decide +kernel
theorem dX7_next_122 : decode cX7_next 122 = .ok (.isub, 1) := by decide +kernel
theorem dX7_next_123 : decode cX7_next 123 = .ok (.laload, 1) := by decide +kernel
theorem dX7_next_124 : decode cX7_next 124 = .ok (.lreturn, 1) := by decide +kernel
theorem dX7_next_125 : decode cX7_next 125 = .ok (.iinc 3 1, 3) := by decide +kernel
theorem dX7_next_128 : decode cX7_next 128 = .ok (.goto (-93), 3) := by decide +kernel
theorem dX7_next_131 : decode cX7_next 131 = .ok (.lconst 0, 1) := by decide +kernel
theorem dX7_next_132 : decode cX7_next 132 = .ok (.lreturn, 1) := by decide +kernel
theorem dX7_isNumber_0 : decode cX7_isNumber 0 = .ok (.lload_n 0, 1) := by decide +kernel
theorem dX7_isNumber_1 : decode cX7_isNumber 1 = .ok (.ldc2_w 77, 3) := by decide +kernel
theorem dX7_isNumber_4 : decode cX7_isNumber 4 = .ok (.lcmp, 1) := by decide +kernel
theorem dX7_isNumber_5 : decode cX7_isNumber 5 = .ok (.ifCond .lt 15, 3) := by decide +kernel
theorem dX7_isNumber_8 : decode cX7_isNumber 8 = .ok (.lload_n 0, 1) := by decide +kernel
theorem dX7_isNumber_9 : decode cX7_isNumber 9 = .ok (.ldc2_w 95, 3) := by decide +kernel
theorem dX7_isNumber_12 : decode cX7_isNumber 12 = .ok (.lcmp, 1) := by decide +kernel
theorem dX7_isNumber_13 : decode cX7_isNumber 13 = .ok (.ifCond .ge 7, 3) := by decide +kernel
theorem dX7_isNumber_16 : decode cX7_isNumber 16 = .ok (.iconst 1, 1) := by decide +kernel
theorem dX7_isNumber_17 : decode cX7_isNumber 17 = .ok (.goto 4, 3) := by decide +kernel
theorem dX7_isNumber_20 : decode cX7_isNumber 20 = .ok (.iconst 0, 1) := by decide +kernel
theorem dX7_isNumber_21 : decode cX7_isNumber 21 = .ok (.ireturn, 1) := by decide +kernel
theorem dX7_sign_0 : decode cX7_sign 0 = .ok (.iload_n 0, 1) := by decide +kernel
theorem dX7_sign_1 : decode cX7_sign 1 = .ok (.bipush 10, 2) := by decide +kernel
theorem dX7_sign_3 : decode cX7_sign 3 = .ok (.if_icmp .ge 10, 3) := by decide +kernel
theorem dX7_sign_6 : decode cX7_sign 6 = .ok (.bipush 48, 2) := by decide +kernel
theorem dX7_sign_8 : decode cX7_sign 8 = .ok (.iload_n 0, 1) := by decide +kernel
theorem dX7_sign_9 : decode cX7_sign 9 = .ok (.iadd, 1) := by decide +kernel
theorem dX7_sign_10 : decode cX7_sign 10 = .ok (.goto 42, 3) := by decide +kernel
theorem dX7_sign_13 : decode cX7_sign 13 = .ok (.iload_n 0, 1) := by decide +kernel
theorem dX7_sign_14 : decode cX7_sign 14 = .ok (.bipush 18, 2) := by decide +kernel
theorem dX7_sign_16 : decode cX7_sign 16 = .ok (.if_icmp .ge 13, 3) := by decide +kernel
theorem dX7_sign_19 : decode cX7_sign 19 = .ok (.bipush 65, 2) := by decide +kernel
theorem dX7_sign_21 : decode cX7_sign 21 = .ok (.iload_n 0, 1) := by decide +kernel
theorem dX7_sign_22 : decode cX7_sign 22 = .ok (.iadd, 1) := by decide +kernel
theorem dX7_sign_23 : decode cX7_sign 23 = .ok (.bipush 10, 2) := by decide +kernel
theorem dX7_sign_25 : decode cX7_sign 25 = .ok (.isub, 1) := by decide +kernel
theorem dX7_sign_26 : decode cX7_sign 26 = .ok (.goto 26, 3) := by decide +kernel
theorem dX7_sign_29 : decode cX7_sign 29 = .ok (.iload_n 0, 1) := by decide +kernel
theorem dX7_sign_30 : decode cX7_sign 30 = .ok (.bipush 23, 2) := by decide +kernel
theorem dX7_sign_32 : decode cX7_sign 32 = .ok (.if_icmp .ge 13, 3) := by decide +kernel
theorem dX7_sign_35 : decode cX7_sign 35 = .ok (.bipush 74, 2) := by decide +kernel
theorem dX7_sign_37 : decode cX7_sign 37 = .ok (.iload_n 0, 1) := by decide +kernel
theorem dX7_sign_38 : decode cX7_sign 38 = .ok (.iadd, 1) := by decide +kernel
theorem dX7_sign_39 : decode cX7_sign 39 = .ok (.bipush 18, 2) := by decide +kernel
theorem dX7_sign_41 : decode cX7_sign 41 = .ok (.isub, 1) := by decide +kernel
theorem dX7_sign_42 : decode cX7_sign 42 = .ok (.goto 10, 3) := by decide +kernel
theorem dX7_sign_45 : decode cX7_sign 45 = .ok (.bipush 80, 2) := by decide +kernel
theorem dX7_sign_47 : decode cX7_sign 47 = .ok (.iload_n 0, 1) := by decide +kernel
theorem dX7_sign_48 : decode cX7_sign 48 = .ok (.iadd, 1) := by decide +kernel
theorem dX7_sign_49 : decode cX7_sign 49 = .ok (.bipush 23, 2) := by decide +kernel
theorem dX7_sign_51 : decode cX7_sign 51 = .ok (.isub, 1) := by decide +kernel
theorem dX7_sign_52 : decode cX7_sign 52 = .ok (.ireturn, 1) := by decide +kernel
theorem dX7_sum_0 : decode cX7_sum 0 = .ok (.iconst 0, 1) := by decide +kernel
theorem dX7_sum_1 : decode cX7_sum 1 = .ok (.istore_n 2, 1) := by decide +kernel
theorem dX7_sum_2 : decode cX7_sum 2 = .ok (.iconst 0, 1) := by decide +kernel
theorem dX7_sum_3 : decode cX7_sum 3 = .ok (.istore_n 3, 1) := by decide +kernel
theorem dX7_sum_4 : decode cX7_sum 4 = .ok (.iload_n 3, 1) := by decide +kernel
theorem dX7_sum_5 : decode cX7_sum 5 = .ok (.iload_n 1, 1) := by decide +kernel
theorem dX7_sum_6 : decode cX7_sum 6 = .ok (.if_icmp .ge 25, 3) := by decide +kernel
theorem dX7_sum_9 : decode cX7_sum 9 = .ok (.iload_n 2, 1) := by decide +kernel
theorem dX7_sum_10 : decode cX7_sum 10 = .ok (.aload_n 0, 1) := by decide +kernel
theorem dX7_sum_11 : decode cX7_sum 11 = .ok (.getfield 45, 3) := by decide +kernel
theorem dX7_sum_14 : decode cX7_sum 14 = .ok (.iload_n 3, 1) := by decide +kernel
theorem dX7_sum_15 : decode cX7_sum 15 = .ok (.iaload, 1) := by decide +kernel
theorem dX7_sum_16 : decode cX7_sum 16 = .ok (.aload_n 0, 1) := by decide +kernel
theorem dX7_sum_17 : decode cX7_sum 17 = .ok (.getfield 48, 3) := by decide +kernel
theorem dX7_sum_20 : decode cX7_sum 20 = .ok (.iload_n 3, 1) := by decide +kernel
theorem dX7_sum_21 : decode cX7_sum 21 = .ok (.iaload, 1) := by decide +kernel
theorem dX7_sum_22 : decode cX7_sum 22 = .ok (.imul, 1) := by decide +kernel
theorem dX7_sum_23 : decode cX7_sum 23 = .ok (.iadd, 1) := by decide +kernel
theorem dX7_sum_24 : decode cX7_sum 24 = .ok (.istore_n 2, 1) := by decide +kernel
theorem dX7_sum_25 : decode cX7_sum 25 = .ok (.iinc 3 1, 3) := by decide +kernel
theorem dX7_sum_28 : decode cX7_sum 28 = .ok (.goto (-24), 3) := by decide +kernel
theorem dX7_sum_31 : decode cX7_sum 31 = .ok (.iload_n 2, 1) := by decide +kernel
theorem dX7_sum_32 : decode cX7_sum 32 = .ok (.ireturn, 1) := by decide +kernel
set_option maxRecDepth 20000 in
theorem ggX7_check_X7_sum : GoodIn wsX7_check wsX7_sum := goodIn_r _ [5, 6, 7, 8, 9, 10, 11, 12, 13, 14, 15, 16, 17, 18, 19, 20, 21, 22, 23, 24, 25, 26] (by decide +kernel) (by decide +kernel)
set_option maxRecDepth 20000 in
theorem gX7_check_X7_sum : GoodIn wsX7_check (wsV RX7 97 RX7 yX7_sum wsX7_sum) := goodIn_app (goodIn_of _ (by decide +kernel)) ggX7_check_X7_sum
theorem dX7_check_0 : decode cX7_check 0 = .ok (.iconst 0, 1) := by decide +kernel
theorem dX7_check_1 : decode cX7_check 1 = .ok (.istore_n 1, 1) := by decide +kernel
theorem dX7_check_2 : decode cX7_check 2 = .ok (.aload_n 0, 1) := by decide +kernel
theorem dX7_check_3 : decode cX7_check 3 = .ok (.bipush 8, 2) := by decide +kernel
theorem dX7_check_5 : decode cX7_check 5 = .ok (.invokevirtual 97, 3) := by decide +kernel
theorem dX7_check_8 : decode cX7_check 8 = .ok (.iload_n 1, 1) := by decide +kernel
theorem dX7_check_9 : decode cX7_check 9 = .ok (.iadd, 1) := by decide +kernel
theorem dX7_check_10 : decode cX7_check 10 = .ok (.bipush 31, 2) := by decide +kernel
theorem dX7_check_12 : decode cX7_check 12 = .ok (.irem, 1) := by decide +kernel
theorem dX7_check_13 : decode cX7_check 13 = .ok (.ifCond .eq 9, 3) := by decide +kernel
theorem dX7_check_16 : decode cX7_check 16 = .ok (.iinc 1 1, 3) := by decide +kernel
theorem dX7_check_19 : decode cX7_check 19 = .ok (.goto (-17), 3) := by decide +kernel
theorem dX7_check_22 : decode cX7_check 22 = .ok (.iload_n 1, 1) := by decide +kernel
theorem dX7_check_23 : decode cX7_check 23 = .ok (.ireturn, 1) := by decide +kernel
set_option maxRecDepth 20000 in
theorem ggX7_letter_X7_isNumber : GoodIn wsX7_letter wsX7_isNumber := goodIn_r _ [8, 3, 9] (by decide +kernel) (by decide +kernel)
set_option maxRecDepth 20000 in
theorem gX7_letter_X7_isNumber : GoodIn wsX7_letter (va_wsS RX7 101 yX7_isNumber wsX7_isNumber) := goodIn_app (goodIn_of _ (by decide +kernel)) ggX7_letter_X7_isNumber
set_option maxRecDepth 20000 in
theorem ggX7_letter_X7_check : GoodIn wsX7_letter wsX7_check := goodIn_r _ [13, 14, 15, 16, 7, 17, 2, 18, 22, 23, 24, 25, 26, 27, 28, 29, 30, 31, 32, 33, 34, 35, 36, 37, 38, 39, 40] (by decide +kernel) (by decide +kernel)
set_option maxRecDepth 20000 in
theorem gX7_letter_X7_check : GoodIn wsX7_letter (wsV RX7 106 RX7 yX7_check wsX7_check) := goodIn_app (goodIn_of _ (by decide +kernel)) ggX7_letter_X7_check
set_option maxRecDepth 20000 in
theorem ggX7_letter_X7_sign : GoodIn wsX7_letter wsX7_sign := goodIn_r _ [21] (by decide +kernel) (by decide +kernel)
set_option maxRecDepth 20000 in
theorem gX7_letter_X7_sign : GoodIn wsX7_letter (va_wsS RX7 110 yX7_sign wsX7_sign) := goodIn_app (goodIn_of _ (by decide +kernel)) ggX7_letter_X7_sign
theorem dX7_letter_0 : decode cX7_letter 0 = .ok (.aload_n 0, 1) := by decide +kernel
theorem dX7_letter_1 : decode cX7_letter 1 = .ok (.iconst 0, 1) := by decide +kernel
theorem dX7_letter_2 : decode cX7_letter 2 = .ok (.putfield 55, 3) := by decide +kernel
theorem dX7_letter_5 : decode cX7_letter 5 = .ok (.lload_n 1, 1) := by decide +kernel
theorem dX7_letter_6 : decode cX7_letter 6 = .ok (.invokestatic 101, 3) := by decide +kernel
theorem dX7_letter_9 : decode cX7_letter 9 = .ok (.ifCond .ne 6, 3) := by decide +kernel
theorem dX7_letter_12 : decode cX7_letter 12 = .ok (.bipush (-101), 2) := by decide +kernel
theorem dX7_letter_14 : decode cX7_letter 14 = .ok (.ireturn, 1) := by decide +kernel
theorem dX7_letter_15 : decode cX7_letter 15 = .ok (.iload_n 3, 1) := by decide +kernel
theorem dX7_letter_16 : decode cX7_letter 16 = .ok (.ifCond .lt 9, 3) := by decide +kernel
theorem dX7_letter_19 : decode cX7_letter 19 = .ok (.iload_n 3, 1) := by decide +kernel
theorem dX7_letter_20 : decode cX7_letter 20 = .ok (.bipush 8, 2) := by decide +kernel
theorem dX7_letter_22 : decode cX7_letter 22 = .ok (.if_icmp .le 10, 3) := by decide +kernel
theorem dX7_letter_25 : decode cX7_letter 25 = .ok (.aload_n 0, 1) := by decide +kernel
theorem dX7_letter_26 : decode cX7_letter 26 = .ok (.iconst 1, 1) := by decide +kernel
theorem dX7_letter_27 : decode cX7_letter 27 = .ok (.putfield 55, 3) := by decide +kernel
theorem dX7_letter_30 : decode cX7_letter 30 = .ok (.iconst 0, 1) := by decide +kernel
theorem dX7_letter_31 : decode cX7_letter 31 = .ok (.ireturn, 1) := by decide +kernel
theorem dX7_letter_32 : decode cX7_letter 32 = .ok (.aload_n 0, 1) := by decide +kernel
theorem dX7_letter_33 : decode cX7_letter 33 = .ok (.getfield 45, 3) := by decide +kernel
theorem dX7_letter_36 : decode cX7_letter 36 = .ok (.iconst 0, 1) := by decide +kernel
theorem dX7_letter_37 : decode cX7_letter 37 = .ok (.lload_n 1, 1) := by decide +kernel
theorem dX7_letter_38 : decode cX7_letter 38 = .ok (.ldc2_w 77, 3) := by decide +kernel
theorem dX7_letter_41 : decode cX7_letter 41 = .ok (.ldiv, 1) := by decide +kernel
theorem dX7_letter_42 : decode cX7_letter 42 = .ok (.l2i, 1) := by decide +kernel
theorem dX7_letter_43 : decode cX7_letter 43 = .ok (.iconst 1, 1) := by decide +kernel
theorem dX7_letter_44 : decode cX7_letter 44 = .ok (.isub, 1) := by decide +kernel
theorem dX7_letter_45 : decode cX7_letter 45 = .ok (.iastore, 1) := by decide +kernel
theorem dX7_letter_46 : decode cX7_letter 46 = .ok (.lload_n 1, 1) := by decide +kernel
theorem dX7_letter_47 : decode cX7_letter 47 = .ok (.ldc2_w 77, 3) := by decide +kernel
theorem dX7_letter_50 : decode cX7_letter 50 = .ok (.lrem, 1) := by decide +kernel
theorem dX7_letter_51 : decode cX7_letter 51 = .ok (.lstore 4, 2) := by decide +kernel
theorem dX7_letter_53 : decode cX7_letter 53 = .ok (.bipush 7, 2) := by decide +kernel
theorem dX7_letter_55 : decode cX7_letter 55 = .ok (.istore 6, 2) := by decide +kernel
theorem dX7_letter_57 : decode cX7_letter 57 = .ok (.iload 6, 2) := by decide +kernel
theorem dX7_letter_59 : decode cX7_letter 59 = .ok (.ifCond .le 31, 3) := by decide +kernel
theorem dX7_letter_62 : decode cX7_letter 62 = .ok (.aload_n 0, 1) := by decide +kernel
theorem dX7_letter_63 : decode cX7_letter 63 = .ok (.getfield 45, 3) := by decide +kernel
theorem dX7_letter_66 : decode cX7_letter 66 = .ok (.iload 6, 2) := by decide +kernel
theorem dX7_letter_68 : decode cX7_letter 68 = .ok (.lload 4, 2) := by decide +kernel
theorem dX7_letter_70 : decode cX7_letter 70 = .ok (.ldc2_w 104, 3) := by decide +kernel
theorem dX7_letter_73 : decode cX7_letter 73 = .ok (.lrem, 1) := by decide +kernel
theorem dX7_letter_74 : decode cX7_letter 74 = .ok (.l2i, 1) := by decide +kernel
theorem dX7_letter_75 : decode cX7_letter 75 = .ok (.iastore, 1) := by decide +kernel
theorem dX7_letter_76 : decode cX7_letter 76 = .ok (.lload 4, 2) := by decide +kernel
theorem dX7_letter_78 : decode cX7_letter 78 = .ok (.ldc2_w 104, 3) := by decide +kernel
theorem dX7_letter_81 : decode cX7_letter 81 = .ok (.ldiv, 1) := by decide +kernel
theorem dX7_letter_82 : decode cX7_letter 82 = .ok (.lstore 4, 2) := by decide +kernel
theorem dX7_letter_84 : decode cX7_letter 84 = .ok (.iinc 6 (-1), 3) := by decide +kernel
theorem dX7_letter_87 : decode cX7_letter 87 = .ok (.goto (-30), 3) := by decide +kernel
theorem dX7_letter_90 : decode cX7_letter 90 = .ok (.aload_n 0, 1) := by decide +kernel
theorem dX7_letter_91 : decode cX7_letter 91 = .ok (.getfield 45, 3) := by decide +kernel
theorem dX7_letter_94 : decode cX7_letter 94 = .ok (.bipush 8, 2) := by decide +kernel
theorem dX7_letter_96 : decode cX7_letter 96 = .ok (.aload_n 0, 1) := by decide +kernel
theorem dX7_letter_97 : decode cX7_letter 97 = .ok (.invokevirtual 106, 3) := by decide +kernel
theorem dX7_letter_100 : decode cX7_letter 100 = .ok (.iastore, 1) := by decide +kernel
theorem dX7_letter_101 : decode cX7_letter 101 = .ok (.aload_n 0, 1) := by decide +kernel
theorem dX7_letter_102 : decode cX7_letter 102 = .ok (.getfield 45, 3) := by decide +kernel
theorem dX7_letter_105 : decode cX7_letter 105 = .ok (.iload_n 3, 1) := by decide +kernel
theorem dX7_letter_106 : decode cX7_letter 106 = .ok (.iaload, 1) := by decide +kernel
theorem dX7_letter_107 : decode cX7_letter 107 = .ok (.invokestatic 110, 3) := by decide +kernel
theorem dX7_letter_110 : decode cX7_letter 110 = .ok (.ireturn, 1) := by decide +kernel
theorem dX7_type_0 : decode cX7_type 0 = .ok (.aload_n 0, 1) := by decide +kernel
theorem dX7_type_1 : decode cX7_type 1 = .ok (.iconst 0, 1) := by decide +kernel
theorem dX7_type_2 : decode cX7_type 2 = .ok (.putfield 55, 3) := by decide +kernel
theorem dX7_type_5 : decode cX7_type 5 = .ok (.aload_n 0, 1) := by decide +kernel
theorem dX7_type_6 : decode cX7_type 6 = .ok (.getfield 51, 3) := by decide +kernel
theorem dX7_type_9 : decode cX7_type 9 = .ok (.bipush 60, 2) := by decide +kernel
theorem dX7_type_11 : decode cX7_type 11 = .ok (.if_icmp .ge 23, 3) := by decide +kernel
theorem dX7_type_14 : decode cX7_type 14 = .ok (.aload_n 0, 1) := by decide +kernel
theorem dX7_type_15 : decode cX7_type 15 = .ok (.getfield 33, 3) := by decide +kernel
theorem dX7_type_18 : decode cX7_type 18 = .ok (.aload_n 0, 1) := by decide +kernel
theorem dX7_type_19 : decode cX7_type 19 = .ok (.getfield 51, 3) := by decide +kernel
theorem dX7_type_22 : decode cX7_type 22 = .ok (.iload_n 1, 1) := by decide +kernel
theorem dX7_type_23 : decode cX7_type 23 = .ok (.iastore, 1) := by decide +kernel
theorem dX7_type_24 : decode cX7_type 24 = .ok (.aload_n 0, 1) := by decide +kernel
theorem dX7_type_25 : decode cX7_type 25 = .ok (.dup, 1) := by decide +kernel
theorem dX7_type_26 : decode cX7_type 26 = .ok (.getfield 51, 3) := by decide +kernel
theorem dX7_type_29 : decode cX7_type 29 = .ok (.iconst 1, 1) := by decide +kernel
theorem dX7_type_30 : decode cX7_type 30 = .ok (.iadd, 1) := by decide +kernel
theorem dX7_type_31 : decode cX7_type 31 = .ok (.putfield 51, 3) := by decide +kernel
theorem dX7_type_34 : decode cX7_type 34 = .ok (.return_, 1) := by decide +kernel
set_option maxRecDepth 20000 in
theorem ggX7_valueOf_X7_sign : GoodIn wsX7_valueOf wsX7_sign := goodIn_r _ [4] (by decide +kernel) (by decide +kernel)
set_option maxRecDepth 20000 in
theorem gX7_valueOf_X7_sign : GoodIn wsX7_valueOf (va_wsS RX7 110 yX7_sign wsX7_sign) := goodIn_app (goodIn_of _ (by decide +kernel)) ggX7_valueOf_X7_sign
theorem dX7_valueOf_0 : decode cX7_valueOf 0 = .ok (.iload_n 0, 1) := by decide +kernel
theorem dX7_valueOf_1 : decode cX7_valueOf 1 = .ok (.bipush 97, 2) := by decide +kernel
theorem dX7_valueOf_3 : decode cX7_valueOf 3 = .ok (.if_icmp .lt 19, 3) := by decide +kernel
theorem dX7_valueOf_6 : decode cX7_valueOf 6 = .ok (.iload_n 0, 1) := by decide +kernel
theorem dX7_valueOf_7 : decode cX7_valueOf 7 = .ok (.bipush 122, 2) := by decide +kernel
theorem dX7_valueOf_9 : decode cX7_valueOf 9 = .ok (.if_icmp .gt 13, 3) := by decide +kernel
theorem dX7_valueOf_12 : decode cX7_valueOf 12 = .ok (.iload_n 0, 1) := by decide +kernel
theorem dX7_valueOf_13 : decode cX7_valueOf 13 = .ok (.bipush 97, 2) := by decide +kernel
theorem dX7_valueOf_15 : decode cX7_valueOf 15 = .ok (.isub, 1) := by decide +kernel
theorem dX7_valueOf_16 : decode cX7_valueOf 16 = .ok (.bipush 65, 2) := by decide +kernel
theorem dX7_valueOf_18 : decode cX7_valueOf 18 = .ok (.iadd, 1) := by decide +kernel
theorem dX7_valueOf_19 : decode cX7_valueOf 19 = .ok (.goto 4, 3) := by decide +kernel
theorem dX7_valueOf_22 : decode cX7_valueOf 22 = .ok (.iload_n 0, 1) := by decide +kernel
theorem dX7_valueOf_23 : decode cX7_valueOf 23 = .ok (.istore_n 1, 1) := by decide +kernel
theorem dX7_valueOf_24 : decode cX7_valueOf 24 = .ok (.iconst 0, 1) := by decide +kernel
theorem dX7_valueOf_25 : decode cX7_valueOf 25 = .ok (.istore_n 2, 1) := by decide +kernel
theorem dX7_valueOf_26 : decode cX7_valueOf 26 = .ok (.iload_n 2, 1) := by decide +kernel
theorem dX7_valueOf_27 : decode cX7_valueOf 27 = .ok (.bipush 31, 2) := by decide +kernel
theorem dX7_valueOf_29 : decode cX7_valueOf 29 = .ok (.if_icmp .ge 19, 3) := by decide +kernel
theorem dX7_valueOf_32 : decode cX7_valueOf 32 = .ok (.iload_n 2, 1) := by decide +kernel
theorem dX7_valueOf_33 : decode cX7_valueOf 33 = .ok (.invokestatic 110, 3) := by decide +kernel
theorem dX7_valueOf_36 : decode cX7_valueOf 36 = .ok (.iload_n 1, 1) := by decide +kernel
theorem dX7_valueOf_37 : decode cX7_valueOf 37 = .ok (.if_icmp .ne 5, 3) := by decide +kernel
theorem dX7_valueOf_40 : decode cX7_valueOf 40 = .ok (.iload_n 2, 1) := by decide +kernel
theorem dX7_valueOf_41 : decode cX7_valueOf 41 = .ok (.ireturn, 1) := by decide +kernel
theorem dX7_valueOf_42 : decode cX7_valueOf 42 = .ok (.iinc 2 1, 3) := by decide +kernel
theorem dX7_valueOf_45 : decode cX7_valueOf 45 = .ok (.goto (-19), 3) := by decide +kernel
theorem dX7_valueOf_48 : decode cX7_valueOf 48 = .ok (.iconst (-1), 1) := by decide +kernel
theorem dX7_valueOf_49 : decode cX7_valueOf 49 = .ok (.ireturn, 1) := by decide +kernel
set_option maxRecDepth 20000 in
theorem ggX7_read_X7_valueOf : GoodIn wsX7_read wsX7_valueOf := goodIn_r _ [11, 12, 13, 10, 14] (by decide +kernel) (by decide +kernel)
set_option maxRecDepth 20000 in
theorem gX7_read_X7_valueOf : GoodIn wsX7_read (va_wsS RX7 113 yX7_valueOf wsX7_valueOf) := goodIn_app (goodIn_of _ (by decide +kernel)) ggX7_read_X7_valueOf
set_option maxRecDepth 20000 in
theorem ggX7_read_X7_check : GoodIn wsX7_read wsX7_check := goodIn_r _ [18, 19, 20, 21, 10, 22, 5, 23, 24, 25, 26, 27, 28, 29, 30, 31, 32, 33, 34, 35, 36, 37, 38, 39, 40, 41, 42] (by decide +kernel) (by decide +kernel)
set_option maxRecDepth 20000 in
theorem gX7_read_X7_check : GoodIn wsX7_read (wsV RX7 106 RX7 yX7_check wsX7_check) := goodIn_app (goodIn_of _ (by decide +kernel)) ggX7_read_X7_check
theorem dX7_read_0 : decode cX7_read 0 = .ok (.aload_n 0, 1) := by decide +kernel
theorem dX7_read_1 : decode cX7_read 1 = .ok (.iconst 0, 1) := by decide +kernel
theorem dX7_read_2 : decode cX7_read 2 = .ok (.putfield 55, 3) := by decide +kernel
theorem dX7_read_5 : decode cX7_read 5 = .ok (.aload_n 0, 1) := by decide +kernel
theorem dX7_read_6 : decode cX7_read 6 = .ok (.getfield 51, 3) := by decide +kernel
theorem dX7_read_9 : decode cX7_read 9 = .ok (.istore_n 1, 1) := by decide +kernel
theorem dX7_read_10 : decode cX7_read 10 = .ok (.aload_n 0, 1) := by decide +kernel
theorem dX7_read_11 : decode cX7_read 11 = .ok (.iconst 0, 1) := by decide +kernel
theorem dX7_read_12 : decode cX7_read 12 = .ok (.putfield 51, 3) := by decide +kernel
theorem dX7_read_15 : decode cX7_read 15 = .ok (.iconst 0, 1) := by decide +kernel
theorem dX7_read_16 : decode cX7_read 16 = .ok (.istore_n 2, 1) := by decide +kernel
theorem dX7_read_17 : decode cX7_read 17 = .ok (.iconst 0, 1) := by decide +kernel
theorem dX7_read_18 : decode cX7_read 18 = .ok (.istore_n 3, 1) := by decide +kernel
theorem dX7_read_19 : decode cX7_read 19 = .ok (.iload_n 3, 1) := by decide +kernel
theorem dX7_read_20 : decode cX7_read 20 = .ok (.iload_n 1, 1) := by decide +kernel
theorem dX7_read_21 : decode cX7_read 21 = .ok (.if_icmp .ge 98, 3) := by decide +kernel
theorem dX7_read_24 : decode cX7_read 24 = .ok (.aload_n 0, 1) := by decide +kernel
theorem dX7_read_25 : decode cX7_read 25 = .ok (.getfield 33, 3) := by decide +kernel
theorem dX7_read_28 : decode cX7_read 28 = .ok (.iload_n 3, 1) := by decide +kernel
theorem dX7_read_29 : decode cX7_read 29 = .ok (.iaload, 1) := by decide +kernel
theorem dX7_read_30 : decode cX7_read 30 = .ok (.bipush 32, 2) := by decide +kernel
theorem dX7_read_32 : decode cX7_read 32 = .ok (.if_icmp .eq 81, 3) := by decide +kernel
theorem dX7_read_35 : decode cX7_read 35 = .ok (.aload_n 0, 1) := by decide +kernel
theorem dX7_read_36 : decode cX7_read 36 = .ok (.getfield 33, 3) := by decide +kernel
theorem dX7_read_39 : decode cX7_read 39 = .ok (.iload_n 3, 1) := by decide +kernel
theorem dX7_read_40 : decode cX7_read 40 = .ok (.iaload, 1) := by decide +kernel
theorem dX7_read_41 : decode cX7_read 41 = .ok (.invokestatic 113, 3) := by decide +kernel
theorem dX7_read_44 : decode cX7_read 44 = .ok (.istore 4, 2) := by decide +kernel
theorem dX7_read_46 : decode cX7_read 46 = .ok (.iload_n 2, 1) := by decide +kernel
theorem dX7_read_47 : decode cX7_read 47 = .ok (.bipush 9, 2) := by decide +kernel
theorem dX7_read_49 : decode cX7_read 49 = .ok (.if_icmp .ge 38, 3) := by decide +kernel
theorem dX7_read_52 : decode cX7_read 52 = .ok (.iload 4, 2) := by decide +kernel
theorem dX7_read_54 : decode cX7_read 54 = .ok (.ifCond .lt 33, 3) := by decide +kernel
theorem dX7_read_57 : decode cX7_read 57 = .ok (.iload_n 2, 1) := by decide +kernel
theorem dX7_read_58 : decode cX7_read 58 = .ok (.ifCond .gt 10, 3) := by decide +kernel
theorem dX7_read_61 : decode cX7_read 61 = .ok (.iload 4, 2) := by decide +kernel
theorem dX7_read_63 : decode cX7_read 63 = .ok (.bipush 10, 2) := by decide +kernel
theorem dX7_read_65 : decode cX7_read 65 = .ok (.if_icmp .ge 22, 3) := by decide +kernel
theorem dX7_read_68 : decode cX7_read 68 = .ok (.iload_n 2, 1) := by decide +kernel
theorem dX7_read_69 : decode cX7_read 69 = .ok (.bipush 8, 2) := by decide +kernel
theorem dX7_read_71 : decode cX7_read 71 = .ok (.if_icmp .lt 12, 3) := by decide +kernel
theorem dX7_read_74 : decode cX7_read 74 = .ok (.iload 4, 2) := by decide +kernel
theorem dX7_read_76 : decode cX7_read 76 = .ok (.aload_n 0, 1) := by decide +kernel
theorem dX7_read_77 : decode cX7_read 77 = .ok (.invokevirtual 106, 3) := by decide +kernel
theorem dX7_read_80 : decode cX7_read 80 = .ok (.if_icmp .ne 7, 3) := by decide +kernel
theorem dX7_read_83 : decode cX7_read 83 = .ok (.iconst 1, 1) := by decide +kernel
theorem dX7_read_84 : decode cX7_read 84 = .ok (.goto 4, 3) := by decide +kernel
theorem dX7_read_87 : decode cX7_read 87 = .ok (.iconst 0, 1) := by decide +kernel
theorem dX7_read_88 : decode cX7_read 88 = .ok (.istore 5, 2) := by decide +kernel
theorem dX7_read_90 : decode cX7_read 90 = .ok (.iload 5, 2) := by decide +kernel
theorem dX7_read_92 : decode cX7_read 92 = .ok (.ifCond .ne 10, 3) := by decide +kernel
theorem dX7_read_95 : decode cX7_read 95 = .ok (.ldc2_w 69, 3) := by decide +kernel
theorem dX7_read_98 : decode cX7_read 98 = .ok (.iload_n 3, 1) := by decide +kernel
theorem dX7_read_99 : decode cX7_read 99 = .ok (.i2l, 1) := by decide +kernel
theorem dX7_read_100 : decode cX7_read 100 = .ok (.lsub, 1) := by decide +kernel
theorem dX7_read_101 : decode cX7_read 101 = .ok (.lreturn, 1) := by decide +kernel
theorem dX7_read_102 : decode cX7_read 102 = .ok (.aload_n 0, 1) := by decide +kernel
theorem dX7_read_103 : decode cX7_read 103 = .ok (.getfield 45, 3) := by decide +kernel
theorem dX7_read_106 : decode cX7_read 106 = .ok (.iload_n 2, 1) := by decide +kernel
theorem dX7_read_107 : decode cX7_read 107 = .ok (.iload 4, 2) := by decide +kernel
theorem dX7_read_109 : decode cX7_read 109 = .ok (.iastore, 1) := by decide +kernel
theorem dX7_read_110 : decode cX7_read 110 = .ok (.iinc 2 1, 3) := by decide +kernel
theorem dX7_read_113 : decode cX7_read 113 = .ok (.iinc 3 1, 3) := by decide +kernel
theorem dX7_read_116 : decode cX7_read 116 = .ok (.goto (-97), 3) := by decide +kernel
theorem dX7_read_119 : decode cX7_read 119 = .ok (.iload_n 2, 1) := by decide +kernel
theorem dX7_read_120 : decode cX7_read 120 = .ok (.bipush 9, 2) := by decide +kernel
theorem dX7_read_122 : decode cX7_read 122 = .ok (.if_icmp .ge 10, 3) := by decide +kernel
theorem dX7_read_125 : decode cX7_read 125 = .ok (.ldc2_w 69, 3) := by decide +kernel
theorem dX7_read_128 : decode cX7_read 128 = .ok (.iload_n 1, 1) := by decide +kernel
theorem dX7_read_129 : decode cX7_read 129 = .ok (.i2l, 1) := by decide +kernel
theorem dX7_read_130 : decode cX7_read 130 = .ok (.lsub, 1) := by decide +kernel
theorem dX7_read_131 : decode cX7_read 131 = .ok (.lreturn, 1) := by decide +kernel
theorem dX7_read_132 : decode cX7_read 132 = .ok (.lconst 0, 1) := by decide +kernel
theorem dX7_read_133 : decode cX7_read 133 = .ok (.lstore_n 3, 1) := by decide +kernel
theorem dX7_read_134 : decode cX7_read 134 = .ok (.iconst 1, 1) := by decide +kernel
theorem dX7_read_135 : decode cX7_read 135 = .ok (.istore 5, 2) := by decide +kernel
theorem dX7_read_137 : decode cX7_read 137 = .ok (.iload 5, 2) := by decide +kernel
theorem dX7_read_139 : decode cX7_read 139 = .ok (.bipush 8, 2) := by decide +kernel
theorem dX7_read_141 : decode cX7_read 141 = .ok (.if_icmp .ge 24, 3) := by decide +kernel
theorem dX7_read_144 : decode cX7_read 144 = .ok (.ldc2_w 104, 3) := by decide +kernel
theorem dX7_read_147 : decode cX7_read 147 = .ok (.lload_n 3, 1) := by decide +kernel
theorem dX7_read_148 : decode cX7_read 148 = .ok (.lmul, 1) := by decide +kernel
theorem dX7_read_149 : decode cX7_read 149 = .ok (.aload_n 0, 1) := by decide +kernel
theorem dX7_read_150 : decode cX7_read 150 = .ok (.getfield 45, 3) := by decide +kernel
theorem dX7_read_153 : decode cX7_read 153 = .ok (.iload 5, 2) := by decide +kernel
theorem dX7_read_155 : decode cX7_read 155 = .ok (.iaload, 1) := by decide +kernel
theorem dX7_read_156 : decode cX7_read 156 = .ok (.i2l, 1) := by decide +kernel
theorem dX7_read_157 : decode cX7_read 157 = .ok (.ladd, 1) := by decide +kernel
theorem dX7_read_158 : decode cX7_read 158 = .ok (.lstore_n 3, 1) := by decide +kernel
theorem dX7_read_159 : decode cX7_read 159 = .ok (.iinc 5 1, 3) := by decide +kernel
theorem dX7_read_162 : decode cX7_read 162 = .ok (.goto (-25), 3) := by decide +kernel
theorem dX7_read_165 : decode cX7_read 165 = .ok (.aload_n 0, 1) := by decide +kernel
theorem dX7_read_166 : decode cX7_read 166 = .ok (.getfield 45, 3) := by decide +kernel
theorem dX7_read_169 : decode cX7_read 169 = .ok (.iconst 0, 1) := by decide +kernel
theorem dX7_read_170 : decode cX7_read 170 = .ok (.iaload, 1) := by decide +kernel
theorem dX7_read_171 : decode cX7_read 171 = .ok (.i2l, 1) := by decide +kernel
theorem dX7_read_172 : decode cX7_read 172 = .ok (.lconst 1, 1) := by decide +kernel
theorem dX7_read_173 : decode cX7_read 173 = .ok (.ladd, 1) := by decide +kernel
theorem dX7_read_174 : decode cX7_read 174 = .ok (.ldc2_w 77, 3) := by decide +kernel
theorem dX7_read_177 : decode cX7_read 177 = .ok (.lmul, 1) := by decide +kernel
theorem dX7_read_178 : decode cX7_read 178 = .ok (.lload_n 3, 1) := by decide +kernel
theorem dX7_read_179 : decode cX7_read 179 = .ok (.ladd, 1) := by decide +kernel
theorem dX7_read_180 : decode cX7_read 180 = .ok (.lreturn, 1) := by decide +kernel
set_option maxRecDepth 20000 in
theorem ggX7_bar_X7_isIn : GoodIn wsX7_bar wsX7_isIn := goodIn_r _ [12] (by decide +kernel) (by decide +kernel)
set_option maxRecDepth 20000 in
theorem gX7_bar_X7_isIn : GoodIn wsX7_bar (va_wsS RX7 60 yX7_isIn wsX7_isIn) := goodIn_app (goodIn_of _ (by decide +kernel)) ggX7_bar_X7_isIn
theorem dX7_bar_0 : decode cX7_bar 0 = .ok (.aload_n 0, 1) := by decide +kernel
theorem dX7_bar_1 : decode cX7_bar 1 = .ok (.iconst 0, 1) := by decide +kernel
theorem dX7_bar_2 : decode cX7_bar 2 = .ok (.putfield 55, 3) := by decide +kernel
theorem dX7_bar_5 : decode cX7_bar 5 = .ok (.lload_n 1, 1) := by decide +kernel
theorem dX7_bar_6 : decode cX7_bar 6 = .ok (.lconst 0, 1) := by decide +kernel
theorem dX7_bar_7 : decode cX7_bar 7 = .ok (.lcmp, 1) := by decide +kernel
theorem dX7_bar_8 : decode cX7_bar 8 = .ok (.ifCond .lt 17, 3) := by decide +kernel
theorem dX7_bar_11 : decode cX7_bar 11 = .ok (.lload_n 1, 1) := by decide +kernel
theorem dX7_bar_12 : decode cX7_bar 12 = .ok (.lload_n 3, 1) := by decide +kernel
theorem dX7_bar_13 : decode cX7_bar 13 = .ok (.lcmp, 1) := by decide +kernel
theorem dX7_bar_14 : decode cX7_bar 14 = .ok (.ifCond .gt 11, 3) := by decide +kernel
theorem dX7_bar_17 : decode cX7_bar 17 = .ok (.lload_n 3, 1) := by decide +kernel
theorem dX7_bar_18 : decode cX7_bar 18 = .ok (.ldc2_w 77, 3) := by decide +kernel
theorem dX7_bar_21 : decode cX7_bar 21 = .ok (.lcmp, 1) := by decide +kernel
theorem dX7_bar_22 : decode cX7_bar 22 = .ok (.ifCond .lt 6, 3) := by decide +kernel
theorem dX7_bar_25 : decode cX7_bar 25 = .ok (.bipush (-102), 2) := by decide +kernel
theorem dX7_bar_27 : decode cX7_bar 27 = .ok (.ireturn, 1) := by decide +kernel
theorem dX7_bar_28 : decode cX7_bar 28 = .ok (.aload_n 0, 1) := by decide +kernel
theorem dX7_bar_29 : decode cX7_bar 29 = .ok (.getfield 71, 3) := by decide +kernel
theorem dX7_bar_32 : decode cX7_bar 32 = .ok (.bipush 50, 2) := by decide +kernel
theorem dX7_bar_34 : decode cX7_bar 34 = .ok (.if_icmp .ne 6, 3) := by decide +kernel
theorem dX7_bar_37 : decode cX7_bar 37 = .ok (.bipush (-104), 2) := by decide +kernel
theorem dX7_bar_39 : decode cX7_bar 39 = .ok (.ireturn, 1) := by decide +kernel
theorem dX7_bar_40 : decode cX7_bar 40 = .ok (.aload_n 0, 1) := by decide +kernel
theorem dX7_bar_41 : decode cX7_bar 41 = .ok (.getfield 20, 3) := by decide +kernel
theorem dX7_bar_44 : decode cX7_bar 44 = .ok (.aload_n 0, 1) := by decide +kernel
theorem dX7_bar_45 : decode cX7_bar 45 = .ok (.getfield 71, 3) := by decide +kernel
theorem dX7_bar_48 : decode cX7_bar 48 = .ok (.lload_n 1, 1) := by decide +kernel
theorem dX7_bar_49 : decode cX7_bar 49 = .ok (.lastore, 1) := by decide +kernel
theorem dX7_bar_50 : decode cX7_bar 50 = .ok (.aload_n 0, 1) := by decide +kernel
theorem dX7_bar_51 : decode cX7_bar 51 = .ok (.getfield 23, 3) := by decide +kernel
theorem dX7_bar_54 : decode cX7_bar 54 = .ok (.aload_n 0, 1) := by decide +kernel
theorem dX7_bar_55 : decode cX7_bar 55 = .ok (.getfield 71, 3) := by decide +kernel
theorem dX7_bar_58 : decode cX7_bar 58 = .ok (.lload_n 3, 1) := by decide +kernel
theorem dX7_bar_59 : decode cX7_bar 59 = .ok (.lastore, 1) := by decide +kernel
theorem dX7_bar_60 : decode cX7_bar 60 = .ok (.aload_n 0, 1) := by decide +kernel
theorem dX7_bar_61 : decode cX7_bar 61 = .ok (.dup, 1) := by decide +kernel
theorem dX7_bar_62 : decode cX7_bar 62 = .ok (.getfield 71, 3) := by decide +kernel
theorem dX7_bar_65 : decode cX7_bar 65 = .ok (.iconst 1, 1) := by decide +kernel
theorem dX7_bar_66 : decode cX7_bar 66 = .ok (.iadd, 1) := by decide +kernel
theorem dX7_bar_67 : decode cX7_bar 67 = .ok (.putfield 71, 3) := by decide +kernel
theorem dX7_bar_70 : decode cX7_bar 70 = .ok (.iconst 0, 1) := by decide +kernel
theorem dX7_bar_71 : decode cX7_bar 71 = .ok (.istore 5, 2) := by decide +kernel
theorem dX7_bar_73 : decode cX7_bar 73 = .ok (.iconst 0, 1) := by decide +kernel
theorem dX7_bar_74 : decode cX7_bar 74 = .ok (.istore 6, 2) := by decide +kernel
theorem dX7_bar_76 : decode cX7_bar 76 = .ok (.iload 6, 2) := by decide +kernel
theorem dX7_bar_78 : decode cX7_bar 78 = .ok (.aload_n 0, 1) := by decide +kernel
theorem dX7_bar_79 : decode cX7_bar 79 = .ok (.getfield 74, 3) := by decide +kernel
theorem dX7_bar_82 : decode cX7_bar 82 = .ok (.if_icmp .ge 49, 3) := by decide +kernel
theorem dX7_bar_85 : decode cX7_bar 85 = .ok (.aload_n 0, 1) := by decide +kernel
theorem dX7_bar_86 : decode cX7_bar 86 = .ok (.getfield 29, 3) := by decide +kernel
theorem dX7_bar_89 : decode cX7_bar 89 = .ok (.iload 6, 2) := by decide +kernel
theorem dX7_bar_91 : decode cX7_bar 91 = .ok (.baload, 1) := by decide +kernel
theorem dX7_bar_92 : decode cX7_bar 92 = .ok (.ifCond .ne 33, 3) := by decide +kernel
theorem dX7_bar_95 : decode cX7_bar 95 = .ok (.aload_n 0, 1) := by decide +kernel
theorem dX7_bar_96 : decode cX7_bar 96 = .ok (.getfield 26, 3) := by decide +kernel
theorem dX7_bar_99 : decode cX7_bar 99 = .ok (.iload 6, 2) := by decide +kernel
theorem dX7_bar_101 : decode cX7_bar 101 = .ok (.laload, 1) := by decide +kernel
theorem dX7_bar_102 : decode cX7_bar 102 = .ok (.ldc2_w 77, 3) := by decide +kernel
theorem dX7_bar_105 : decode cX7_bar 105 = .ok (.lrem, 1) := by decide +kernel
theorem dX7_bar_106 : decode cX7_bar 106 = .ok (.lload_n 1, 1) := by decide +kernel
theorem dX7_bar_107 : decode cX7_bar 107 = .ok (.lload_n 3, 1) := by decide +kernel
theorem dX7_bar_108 : decode cX7_bar 108 = .ok (.invokestatic 60, 3) := by decide +kernel
theorem dX7_bar_111 : decode cX7_bar 111 = .ok (.ifCond .eq 14, 3) := by decide +kernel
theorem dX7_bar_114 : decode cX7_bar 114 = .ok (.aload_n 0, 1) := by decide +kernel
theorem dX7_bar_115 : decode cX7_bar 115 = .ok (.getfield 29, 3) := by decide +kernel
theorem dX7_bar_118 : decode cX7_bar 118 = .ok (.iload 6, 2) := by decide +kernel
theorem dX7_bar_120 : decode cX7_bar 120 = .ok (.iconst 1, 1) := by decide +kernel
theorem dX7_bar_121 : decode cX7_bar 121 = .ok (.bastore, 1) := by decide +kernel
theorem dX7_bar_122 : decode cX7_bar 122 = .ok (.iinc 5 1, 3) := by decide +kernel
theorem dX7_bar_125 : decode cX7_bar 125 = .ok (.iinc 6 1, 3) := by decide +kernel
theorem dX7_bar_128 : decode cX7_bar 128 = .ok (.goto (-52), 3) := by decide +kernel
theorem dX7_bar_131 : decode cX7_bar 131 = .ok (.iload 5, 2) := by decide +kernel
theorem dX7_bar_133 : decode cX7_bar 133 = .ok (.ireturn, 1) := by decide +kernel
theorem dX7_find_0 : decode cX7_find 0 = .ok (.iconst 0, 1) := by decide +kernel
theorem dX7_find_1 : decode cX7_find 1 = .ok (.istore_n 3, 1) := by decide +kernel
theorem dX7_find_2 : decode cX7_find 2 = .ok (.iload_n 3, 1) := by decide +kernel
theorem dX7_find_3 : decode cX7_find 3 = .ok (.aload_n 0, 1) := by decide +kernel
theorem dX7_find_4 : decode cX7_find 4 = .ok (.getfield 74, 3) := by decide +kernel
theorem dX7_find_7 : decode cX7_find 7 = .ok (.if_icmp .ge 31, 3) := by decide +kernel
theorem dX7_find_10 : decode cX7_find 10 = .ok (.aload_n 0, 1) := by decide +kernel
theorem dX7_find_11 : decode cX7_find 11 = .ok (.getfield 26, 3) := by decide +kernel
theorem dX7_find_14 : decode cX7_find 14 = .ok (.iload_n 3, 1) := by decide +kernel
theorem dX7_find_15 : decode cX7_find 15 = .ok (.laload, 1) := by decide +kernel
theorem dX7_find_16 : decode cX7_find 16 = .ok (.lload_n 1, 1) := by decide +kernel
theorem dX7_find_17 : decode cX7_find 17 = .ok (.lcmp, 1) := by decide +kernel
theorem dX7_find_18 : decode cX7_find 18 = .ok (.ifCond .ne 14, 3) := by decide +kernel
theorem dX7_find_21 : decode cX7_find 21 = .ok (.aload_n 0, 1) := by decide +kernel
theorem dX7_find_22 : decode cX7_find 22 = .ok (.getfield 29, 3) := by decide +kernel
theorem dX7_find_25 : decode cX7_find 25 = .ok (.iload_n 3, 1) := by decide +kernel
theorem dX7_find_26 : decode cX7_find 26 = .ok (.baload, 1) := by decide +kernel
theorem dX7_find_27 : decode cX7_find 27 = .ok (.ifCond .ne 5, 3) := by decide +kernel
theorem dX7_find_30 : decode cX7_find 30 = .ok (.iload_n 3, 1) := by decide +kernel
theorem dX7_find_31 : decode cX7_find 31 = .ok (.ireturn, 1) := by decide +kernel
theorem dX7_find_32 : decode cX7_find 32 = .ok (.iinc 3 1, 3) := by decide +kernel
theorem dX7_find_35 : decode cX7_find 35 = .ok (.goto (-33), 3) := by decide +kernel
theorem dX7_find_38 : decode cX7_find 38 = .ok (.iconst (-1), 1) := by decide +kernel
theorem dX7_find_39 : decode cX7_find 39 = .ok (.ireturn, 1) := by decide +kernel
set_option maxRecDepth 20000 in
theorem ggX7_given_X7_find : GoodIn wsX7_given wsX7_find := goodIn_r _ [6, 7, 8, 9, 10, 11, 12, 13, 14, 15, 16, 17, 18, 19, 20, 21, 22, 23, 24, 25, 26, 27, 28] (by decide +kernel) (by decide +kernel)
set_option maxRecDepth 20000 in
theorem gX7_given_X7_find : GoodIn wsX7_given (wsV RX7 116 RX7 yX7_find wsX7_find) := goodIn_app (goodIn_of _ (by decide +kernel)) ggX7_given_X7_find
theorem dX7_given_0 : decode cX7_given 0 = .ok (.aload_n 0, 1) := by decide +kernel
theorem dX7_given_1 : decode cX7_given 1 = .ok (.iconst 0, 1) := by decide +kernel
theorem dX7_given_2 : decode cX7_given 2 = .ok (.putfield 55, 3) := by decide +kernel
theorem dX7_given_5 : decode cX7_given 5 = .ok (.aload_n 0, 1) := by decide +kernel
theorem dX7_given_6 : decode cX7_given 6 = .ok (.lload_n 1, 1) := by decide +kernel
theorem dX7_given_7 : decode cX7_given 7 = .ok (.invokevirtual 116, 3) := by decide +kernel
theorem dX7_given_10 : decode cX7_given 10 = .ok (.ifCond .lt 7, 3) := by decide +kernel
theorem dX7_given_13 : decode cX7_given 13 = .ok (.iconst 1, 1) := by decide +kernel
theorem dX7_given_14 : decode cX7_given 14 = .ok (.goto 4, 3) := by decide +kernel
theorem dX7_given_17 : decode cX7_given 17 = .ok (.iconst 0, 1) := by decide +kernel
theorem dX7_given_18 : decode cX7_given 18 = .ok (.ireturn, 1) := by decide +kernel
set_option maxRecDepth 20000 in
theorem ggX7_old_X7_isIn : GoodIn wsX7_old wsX7_isIn := goodIn_r _ [11] (by decide +kernel) (by decide +kernel)
set_option maxRecDepth 20000 in
theorem gX7_old_X7_isIn : GoodIn wsX7_old (va_wsS RX7 60 yX7_isIn wsX7_isIn) := goodIn_app (goodIn_of _ (by decide +kernel)) ggX7_old_X7_isIn
set_option maxRecDepth 20000 in
theorem ggX7_old_X7_isNumber : GoodIn wsX7_old wsX7_isNumber := goodIn_r _ [14, 4, 15] (by decide +kernel) (by decide +kernel)
set_option maxRecDepth 20000 in
theorem gX7_old_X7_isNumber : GoodIn wsX7_old (va_wsS RX7 101 yX7_isNumber wsX7_isNumber) := goodIn_app (goodIn_of _ (by decide +kernel)) ggX7_old_X7_isNumber
theorem dX7_old_0 : decode cX7_old 0 = .ok (.aload_n 0, 1) := by decide +kernel
theorem dX7_old_1 : decode cX7_old 1 = .ok (.iconst 0, 1) := by decide +kernel
theorem dX7_old_2 : decode cX7_old 2 = .ok (.putfield 55, 3) := by decide +kernel
theorem dX7_old_5 : decode cX7_old 5 = .ok (.lload_n 1, 1) := by decide +kernel
theorem dX7_old_6 : decode cX7_old 6 = .ok (.lconst 0, 1) := by decide +kernel
theorem dX7_old_7 : decode cX7_old 7 = .ok (.ldc2_w 120, 3) := by decide +kernel
theorem dX7_old_10 : decode cX7_old 10 = .ok (.invokestatic 60, 3) := by decide +kernel
theorem dX7_old_13 : decode cX7_old 13 = .ok (.ifCond .eq 25, 3) := by decide +kernel
theorem dX7_old_16 : decode cX7_old 16 = .ok (.lload_n 1, 1) := by decide +kernel
theorem dX7_old_17 : decode cX7_old 17 = .ok (.ldc2_w 122, 3) := by decide +kernel
theorem dX7_old_20 : decode cX7_old 20 = .ok (.ldiv, 1) := by decide +kernel
theorem dX7_old_21 : decode cX7_old 21 = .ok (.lconst 1, 1) := by decide +kernel
theorem dX7_old_22 : decode cX7_old 22 = .ok (.ladd, 1) := by decide +kernel
theorem dX7_old_23 : decode cX7_old 23 = .ok (.ldc2_w 77, 3) := by decide +kernel
theorem dX7_old_26 : decode cX7_old 26 = .ok (.lmul, 1) := by decide +kernel
theorem dX7_old_27 : decode cX7_old 27 = .ok (.ldc2_w 64, 3) := by decide +kernel
theorem dX7_old_30 : decode cX7_old 30 = .ok (.ladd, 1) := by decide +kernel
theorem dX7_old_31 : decode cX7_old 31 = .ok (.lload_n 1, 1) := by decide +kernel
theorem dX7_old_32 : decode cX7_old 32 = .ok (.ldc2_w 122, 3) := by decide +kernel
theorem dX7_old_35 : decode cX7_old 35 = .ok (.lrem, 1) := by decide +kernel
theorem dX7_old_36 : decode cX7_old 36 = .ok (.ladd, 1) := by decide +kernel
theorem dX7_old_37 : decode cX7_old 37 = .ok (.lreturn, 1) := by decide +kernel
theorem dX7_old_38 : decode cX7_old 38 = .ok (.lload_n 1, 1) := by decide +kernel
theorem dX7_old_39 : decode cX7_old 39 = .ok (.ldc2_w 77, 3) := by decide +kernel
theorem dX7_old_42 : decode cX7_old 42 = .ok (.lrem, 1) := by decide +kernel
theorem dX7_old_43 : decode cX7_old 43 = .ok (.ldc2_w 64, 3) := by decide +kernel
theorem dX7_old_46 : decode cX7_old 46 = .ok (.lsub, 1) := by decide +kernel
theorem dX7_old_47 : decode cX7_old 47 = .ok (.lstore_n 3, 1) := by decide +kernel
theorem dX7_old_48 : decode cX7_old 48 = .ok (.lload_n 1, 1) := by decide +kernel
theorem dX7_old_49 : decode cX7_old 49 = .ok (.invokestatic 101, 3) := by decide +kernel
theorem dX7_old_52 : decode cX7_old 52 = .ok (.ifCond .eq 30, 3) := by decide +kernel
theorem dX7_old_55 : decode cX7_old 55 = .ok (.lload_n 3, 1) := by decide +kernel
theorem dX7_old_56 : decode cX7_old 56 = .ok (.lconst 0, 1) := by decide +kernel
theorem dX7_old_57 : decode cX7_old 57 = .ok (.ldc2_w 124, 3) := by decide +kernel
theorem dX7_old_60 : decode cX7_old 60 = .ok (.invokestatic 60, 3) := by decide +kernel
theorem dX7_old_63 : decode cX7_old 63 = .ok (.ifCond .eq 19, 3) := by decide +kernel
theorem dX7_old_66 : decode cX7_old 66 = .ok (.lload_n 1, 1) := by decide +kernel
theorem dX7_old_67 : decode cX7_old 67 = .ok (.ldc2_w 77, 3) := by decide +kernel
theorem dX7_old_70 : decode cX7_old 70 = .ok (.ldiv, 1) := by decide +kernel
theorem dX7_old_71 : decode cX7_old 71 = .ok (.lconst 1, 1) := by decide +kernel
theorem dX7_old_72 : decode cX7_old 72 = .ok (.lsub, 1) := by decide +kernel
theorem dX7_old_73 : decode cX7_old 73 = .ok (.ldc2_w 122, 3) := by decide +kernel
theorem dX7_old_76 : decode cX7_old 76 = .ok (.lmul, 1) := by decide +kernel
theorem dX7_old_77 : decode cX7_old 77 = .ok (.lload_n 3, 1) := by decide +kernel
theorem dX7_old_78 : decode cX7_old 78 = .ok (.ladd, 1) := by decide +kernel
theorem dX7_old_79 : decode cX7_old 79 = .ok (.goto 6, 3) := by decide +kernel
theorem dX7_old_82 : decode cX7_old 82 = .ok (.ldc2_w 89, 3) := by decide +kernel
theorem dX7_old_85 : decode cX7_old 85 = .ok (.lreturn, 1) := by decide +kernel
set_option maxRecDepth 20000 in
theorem ggX7_map_X7_find : GoodIn wsX7_map wsX7_find := goodIn_r _ [11, 12, 13, 14, 18, 19, 20, 21, 22, 23, 24, 25, 26, 27, 28, 29, 30, 31, 32, 33, 34, 35, 36] (by decide +kernel) (by decide +kernel)
set_option maxRecDepth 20000 in
theorem gX7_map_X7_find : GoodIn wsX7_map (wsV RX7 116 RX7 yX7_find wsX7_find) := goodIn_app (goodIn_of _ (by decide +kernel)) ggX7_map_X7_find
set_option maxRecDepth 20000 in
theorem ggX7_map_X7_isIn : GoodIn wsX7_map wsX7_isIn := goodIn_r _ [17] (by decide +kernel) (by decide +kernel)
set_option maxRecDepth 20000 in
theorem gX7_map_X7_isIn : GoodIn wsX7_map (va_wsS RX7 60 yX7_isIn wsX7_isIn) := goodIn_app (goodIn_of _ (by decide +kernel)) ggX7_map_X7_isIn
theorem dX7_map_0 : decode cX7_map 0 = .ok (.aload_n 0, 1) := by decide +kernel
theorem dX7_map_1 : decode cX7_map 1 = .ok (.iconst 0, 1) := by decide +kernel
theorem dX7_map_2 : decode cX7_map 2 = .ok (.putfield 55, 3) := by decide +kernel
theorem dX7_map_5 : decode cX7_map 5 = .ok (.aload_n 0, 1) := by decide +kernel
theorem dX7_map_6 : decode cX7_map 6 = .ok (.lload 4, 2) := by decide +kernel
theorem dX7_map_8 : decode cX7_map 8 = .ok (.invokevirtual 116, 3) := by decide +kernel
theorem dX7_map_11 : decode cX7_map 11 = .ok (.ifCond .ge 6, 3) := by decide +kernel
theorem dX7_map_14 : decode cX7_map 14 = .ok (.bipush (-101), 2) := by decide +kernel
theorem dX7_map_16 : decode cX7_map 16 = .ok (.ireturn, 1) := by decide +kernel
theorem dX7_map_17 : decode cX7_map 17 = .ok (.iload_n 1, 1) := by decide +kernel
theorem dX7_map_18 : decode cX7_map 18 = .ok (.i2l, 1) := by decide +kernel
theorem dX7_map_19 : decode cX7_map 19 = .ok (.lconst 0, 1) := by decide +kernel
theorem dX7_map_20 : decode cX7_map 20 = .ok (.ldc2_w 58, 3) := by decide +kernel
theorem dX7_map_23 : decode cX7_map 23 = .ok (.invokestatic 60, 3) := by decide +kernel
theorem dX7_map_26 : decode cX7_map 26 = .ok (.ifCond .eq 9, 3) := by decide +kernel
theorem dX7_map_29 : decode cX7_map 29 = .ok (.lload_n 2, 1) := by decide +kernel
theorem dX7_map_30 : decode cX7_map 30 = .ok (.lconst 0, 1) := by decide +kernel
theorem dX7_map_31 : decode cX7_map 31 = .ok (.lcmp, 1) := by decide +kernel
theorem dX7_map_32 : decode cX7_map 32 = .ok (.ifCond .ge 6, 3) := by decide +kernel
theorem dX7_map_35 : decode cX7_map 35 = .ok (.bipush (-102), 2) := by decide +kernel
theorem dX7_map_37 : decode cX7_map 37 = .ok (.ireturn, 1) := by decide +kernel
theorem dX7_map_38 : decode cX7_map 38 = .ok (.iconst (-1), 1) := by decide +kernel
theorem dX7_map_39 : decode cX7_map 39 = .ok (.istore 6, 2) := by decide +kernel
theorem dX7_map_41 : decode cX7_map 41 = .ok (.iconst (-1), 1) := by decide +kernel
theorem dX7_map_42 : decode cX7_map 42 = .ok (.istore 7, 2) := by decide +kernel
theorem dX7_map_44 : decode cX7_map 44 = .ok (.iconst 0, 1) := by decide +kernel
theorem dX7_map_45 : decode cX7_map 45 = .ok (.istore 8, 2) := by decide +kernel
theorem dX7_map_47 : decode cX7_map 47 = .ok (.iload 8, 2) := by decide +kernel
theorem dX7_map_49 : decode cX7_map 49 = .ok (.aload_n 0, 1) := by decide +kernel
theorem dX7_map_50 : decode cX7_map 50 = .ok (.getfield 126, 3) := by decide +kernel
theorem dX7_map_53 : decode cX7_map 53 = .ok (.if_icmp .ge 63, 3) := by decide +kernel
theorem dX7_map_56 : decode cX7_map 56 = .ok (.aload_n 0, 1) := by decide +kernel
theorem dX7_map_57 : decode cX7_map 57 = .ok (.getfield 36, 3) := by decide +kernel
theorem dX7_map_60 : decode cX7_map 60 = .ok (.iload 8, 2) := by decide +kernel
theorem dX7_map_62 : decode cX7_map 62 = .ok (.iaload, 1) := by decide +kernel
theorem dX7_map_63 : decode cX7_map 63 = .ok (.iload_n 1, 1) := by decide +kernel
theorem dX7_map_64 : decode cX7_map 64 = .ok (.if_icmp .ne 46, 3) := by decide +kernel
theorem dX7_map_67 : decode cX7_map 67 = .ok (.aload_n 0, 1) := by decide +kernel
theorem dX7_map_68 : decode cX7_map 68 = .ok (.getfield 39, 3) := by decide +kernel
theorem dX7_map_71 : decode cX7_map 71 = .ok (.iload 8, 2) := by decide +kernel
theorem dX7_map_73 : decode cX7_map 73 = .ok (.laload, 1) := by decide +kernel
theorem dX7_map_74 : decode cX7_map 74 = .ok (.lload_n 2, 1) := by decide +kernel
theorem dX7_map_75 : decode cX7_map 75 = .ok (.lcmp, 1) := by decide +kernel
theorem dX7_map_76 : decode cX7_map 76 = .ok (.ifCond .ne 8, 3) := by decide +kernel
theorem dX7_map_79 : decode cX7_map 79 = .ok (.iload 8, 2) := by decide +kernel
theorem dX7_map_81 : decode cX7_map 81 = .ok (.goto 5, 3) := by decide +kernel
theorem dX7_map_84 : decode cX7_map 84 = .ok (.iload 6, 2) := by decide +kernel
theorem dX7_map_86 : decode cX7_map 86 = .ok (.istore 6, 2) := by decide +kernel
theorem dX7_map_88 : decode cX7_map 88 = .ok (.aload_n 0, 1) := by decide +kernel
theorem dX7_map_89 : decode cX7_map 89 = .ok (.getfield 42, 3) := by decide +kernel
theorem dX7_map_92 : decode cX7_map 92 = .ok (.iload 8, 2) := by decide +kernel
theorem dX7_map_94 : decode cX7_map 94 = .ok (.laload, 1) := by decide +kernel
theorem dX7_map_95 : decode cX7_map 95 = .ok (.lload 4, 2) := by decide +kernel
theorem dX7_map_97 : decode cX7_map 97 = .ok (.lcmp, 1) := by decide +kernel
theorem dX7_map_98 : decode cX7_map 98 = .ok (.ifCond .ne 8, 3) := by decide +kernel
theorem dX7_map_101 : decode cX7_map 101 = .ok (.iload 8, 2) := by decide +kernel
theorem dX7_map_103 : decode cX7_map 103 = .ok (.goto 5, 3) := by decide +kernel
theorem dX7_map_106 : decode cX7_map 106 = .ok (.iload 7, 2) := by decide +kernel
theorem dX7_map_108 : decode cX7_map 108 = .ok (.istore 7, 2) := by decide +kernel
theorem dX7_map_110 : decode cX7_map 110 = .ok (.iinc 8 1, 3) := by decide +kernel
theorem dX7_map_113 : decode cX7_map 113 = .ok (.goto (-66), 3) := by decide +kernel
theorem dX7_map_116 : decode cX7_map 116 = .ok (.iload 6, 2) := by decide +kernel
theorem dX7_map_118 : decode cX7_map 118 = .ok (.ifCond .lt 23, 3) := by decide +kernel
theorem dX7_map_121 : decode cX7_map 121 = .ok (.aload_n 0, 1) := by decide +kernel
theorem dX7_map_122 : decode cX7_map 122 = .ok (.getfield 42, 3) := by decide +kernel
theorem dX7_map_125 : decode cX7_map 125 = .ok (.iload 6, 2) := by decide +kernel
theorem dX7_map_127 : decode cX7_map 127 = .ok (.laload, 1) := by decide +kernel
theorem dX7_map_128 : decode cX7_map 128 = .ok (.lload 4, 2) := by decide +kernel
theorem dX7_map_130 : decode cX7_map 130 = .ok (.lcmp, 1) := by decide +kernel
theorem dX7_map_131 : decode cX7_map 131 = .ok (.ifCond .ne 7, 3) := by decide +kernel
theorem dX7_map_134 : decode cX7_map 134 = .ok (.iconst 0, 1) := by decide +kernel
theorem dX7_map_135 : decode cX7_map 135 = .ok (.goto 5, 3) := by decide +kernel
theorem dX7_map_138 : decode cX7_map 138 = .ok (.bipush (-103), 2) := by decide +kernel
theorem dX7_map_140 : decode cX7_map 140 = .ok (.ireturn, 1) := by decide +kernel
theorem dX7_map_141 : decode cX7_map 141 = .ok (.iload 7, 2) := by decide +kernel
theorem dX7_map_143 : decode cX7_map 143 = .ok (.ifCond .lt 13, 3) := by decide +kernel
theorem dX7_map_146 : decode cX7_map 146 = .ok (.aload_n 0, 1) := by decide +kernel
theorem dX7_map_147 : decode cX7_map 147 = .ok (.getfield 39, 3) := by decide +kernel
theorem dX7_map_150 : decode cX7_map 150 = .ok (.iload 7, 2) := by decide +kernel
theorem dX7_map_152 : decode cX7_map 152 = .ok (.lload_n 2, 1) := by decide +kernel
theorem dX7_map_153 : decode cX7_map 153 = .ok (.lastore, 1) := by decide +kernel
theorem dX7_map_154 : decode cX7_map 154 = .ok (.iconst 2, 1) := by decide +kernel
theorem dX7_map_155 : decode cX7_map 155 = .ok (.ireturn, 1) := by decide +kernel
theorem dX7_map_156 : decode cX7_map 156 = .ok (.aload_n 0, 1) := by decide +kernel
theorem dX7_map_157 : decode cX7_map 157 = .ok (.getfield 126, 3) := by decide +kernel
theorem dX7_map_160 : decode cX7_map 160 = .ok (.sipush 300, 3) := by decide +kernel
theorem dX7_map_163 : decode cX7_map 163 = .ok (.if_icmp .ne 6, 3) := by decide +kernel
theorem dX7_map_166 : decode cX7_map 166 = .ok (.bipush (-104), 2) := by decide +kernel
theorem dX7_map_168 : decode cX7_map 168 = .ok (.ireturn, 1) := by decide +kernel
theorem dX7_map_169 : decode cX7_map 169 = .ok (.aload_n 0, 1) := by decide +kernel
theorem dX7_map_170 : decode cX7_map 170 = .ok (.getfield 36, 3) := by decide +kernel
theorem dX7_map_173 : decode cX7_map 173 = .ok (.aload_n 0, 1) := by decide +kernel
theorem dX7_map_174 : decode cX7_map 174 = .ok (.getfield 126, 3) := by decide +kernel
theorem dX7_map_177 : decode cX7_map 177 = .ok (.iload_n 1, 1) := by decide +kernel
theorem dX7_map_178 : decode cX7_map 178 = .ok (.iastore, 1) := by decide +kernel
theorem dX7_map_179 : decode cX7_map 179 = .ok (.aload_n 0, 1) := by decide +kernel
theorem dX7_map_180 : decode cX7_map 180 = .ok (.getfield 39, 3) := by decide +kernel
theorem dX7_map_183 : decode cX7_map 183 = .ok (.aload_n 0, 1) := by decide +kernel
theorem dX7_map_184 : decode cX7_map 184 = .ok (.getfield 126, 3) := by decide +kernel
theorem dX7_map_187 : decode cX7_map 187 = .ok (.lload_n 2, 1) := by decide +kernel
theorem dX7_map_188 : decode cX7_map 188 = .ok (.lastore, 1) := by decide +kernel
theorem dX7_map_189 : decode cX7_map 189 = .ok (.aload_n 0, 1) := by decide +kernel
theorem dX7_map_190 : decode cX7_map 190 = .ok (.getfield 42, 3) := by decide +kernel
theorem dX7_map_193 : decode cX7_map 193 = .ok (.aload_n 0, 1) := by decide +kernel
theorem dX7_map_194 : decode cX7_map 194 = .ok (.getfield 126, 3) := by decide +kernel
theorem dX7_map_197 : decode cX7_map 197 = .ok (.lload 4, 2) := by decide +kernel
theorem dX7_map_199 : decode cX7_map 199 = .ok (.lastore, 1) := by decide +kernel
theorem dX7_map_200 : decode cX7_map 200 = .ok (.aload_n 0, 1) := by decide +kernel
theorem dX7_map_201 : decode cX7_map 201 = .ok (.dup, 1) := by decide +kernel
theorem dX7_map_202 : decode cX7_map 202 = .ok (.getfield 126, 3) := by decide +kernel
theorem dX7_map_205 : decode cX7_map 205 = .ok (.iconst 1, 1) := by decide +kernel
theorem dX7_map_206 : decode cX7_map 206 = .ok (.iadd, 1) := by decide +kernel
theorem dX7_map_207 : decode cX7_map 207 = .ok (.putfield 126, 3) := by decide +kernel
theorem dX7_map_210 : decode cX7_map 210 = .ok (.iconst 1, 1) := by decide +kernel
theorem dX7_map_211 : decode cX7_map 211 = .ok (.ireturn, 1) := by decide +kernel
theorem dX7_named_0 : decode cX7_named 0 = .ok (.aload_n 0, 1) := by decide +kernel
theorem dX7_named_1 : decode cX7_named 1 = .ok (.iconst 0, 1) := by decide +kernel
theorem dX7_named_2 : decode cX7_named 2 = .ok (.putfield 55, 3) := by decide +kernel
theorem dX7_named_5 : decode cX7_named 5 = .ok (.iconst 0, 1) := by decide +kernel
theorem dX7_named_6 : decode cX7_named 6 = .ok (.istore 4, 2) := by decide +kernel
theorem dX7_named_8 : decode cX7_named 8 = .ok (.iload 4, 2) := by decide +kernel
theorem dX7_named_10 : decode cX7_named 10 = .ok (.aload_n 0, 1) := by decide +kernel
theorem dX7_named_11 : decode cX7_named 11 = .ok (.getfield 126, 3) := by decide +kernel
theorem dX7_named_14 : decode cX7_named 14 = .ok (.if_icmp .ge 40, 3) := by decide +kernel
theorem dX7_named_17 : decode cX7_named 17 = .ok (.aload_n 0, 1) := by decide +kernel
theorem dX7_named_18 : decode cX7_named 18 = .ok (.getfield 36, 3) := by decide +kernel
theorem dX7_named_21 : decode cX7_named 21 = .ok (.iload 4, 2) := by decide +kernel
theorem dX7_named_23 : decode cX7_named 23 = .ok (.iaload, 1) := by decide +kernel
theorem dX7_named_24 : decode cX7_named 24 = .ok (.iload_n 1, 1) := by decide +kernel
theorem dX7_named_25 : decode cX7_named 25 = .ok (.if_icmp .ne 23, 3) := by decide +kernel
theorem dX7_named_28 : decode cX7_named 28 = .ok (.aload_n 0, 1) := by decide +kernel
theorem dX7_named_29 : decode cX7_named 29 = .ok (.getfield 39, 3) := by decide +kernel
theorem dX7_named_32 : decode cX7_named 32 = .ok (.iload 4, 2) := by decide +kernel
theorem dX7_named_34 : decode cX7_named 34 = .ok (.laload, 1) := by decide +kernel
theorem dX7_named_35 : decode cX7_named 35 = .ok (.lload_n 2, 1) := by decide +kernel
theorem dX7_named_36 : decode cX7_named 36 = .ok (.lcmp, 1) := by decide +kernel
theorem dX7_named_37 : decode cX7_named 37 = .ok (.ifCond .ne 11, 3) := by decide +kernel
theorem dX7_named_40 : decode cX7_named 40 = .ok (.aload_n 0, 1) := by decide +kernel
theorem dX7_named_41 : decode cX7_named 41 = .ok (.getfield 42, 3) := by decide +kernel
theorem dX7_named_44 : decode cX7_named 44 = .ok (.iload 4, 2) := by decide +kernel
theorem dX7_named_46 : decode cX7_named 46 = .ok (.laload, 1) := by decide +kernel
theorem dX7_named_47 : decode cX7_named 47 = .ok (.lreturn, 1) := by decide +kernel
theorem dX7_named_48 : decode cX7_named 48 = .ok (.iinc 4 1, 3) := by decide +kernel
theorem dX7_named_51 : decode cX7_named 51 = .ok (.goto (-43), 3) := by decide +kernel
theorem dX7_named_54 : decode cX7_named 54 = .ok (.ldc2_w 129, 3) := by decide +kernel
theorem dX7_named_57 : decode cX7_named 57 = .ok (.lreturn, 1) := by decide +kernel
theorem dJx00060_init_a7421_0 : decode cJx00060_init_a7421 0 = .ok (.aload_n 0, 1) := by decide +kernel
theorem dJx00060_init_a7421_1 : decode cJx00060_init_a7421 1 = .ok (.aload_n 1, 1) := by decide +kernel
theorem dJx00060_init_a7421_2 : decode cJx00060_init_a7421 2 = .ok (.invokespecial 7, 3) := by decide +kernel
theorem dJx00060_init_a7421_5 : decode cJx00060_init_a7421 5 = .ok (.return_, 1) := by decide +kernel
set_option maxRecDepth 20000 in
theorem ggJ0_charAt_5068e_J0_isLatin1_aae02 : GoodIn wsJ0_charAt_5068e wsJ0_isLatin1_aae02 := goodIn_r _ [6, 7, 8] (by decide +kernel) (by decide +kernel)
set_option maxRecDepth 20000 in
theorem gJ0_charAt_5068e_J0_isLatin1_aae02 : GoodIn wsJ0_charAt_5068e (wsV RJ0 492 RJ0 yJ0_isLatin1_aae02 wsJ0_isLatin1_aae02) := goodIn_app (goodIn_of _ (by decide +kernel)) ggJ0_charAt_5068e_J0_isLatin1_aae02
set_option maxRecDepth 20000 in
theorem ggJ0_charAt_5068e_J1_charAt_3b067 : GoodIn wsJ0_charAt_5068e wsJ1_charAt_3b067 := goodIn_r _ [12, 13, 14, 5, 15, 16, 17, 18, 19, 20] (by decide +kernel) (by decide +kernel)
set_option maxRecDepth 20000 in
theorem gJ0_charAt_5068e_J1_charAt_3b067 : GoodIn wsJ0_charAt_5068e (va_wsS RJ0 495 yJ1_charAt_3b067 wsJ1_charAt_3b067) := goodIn_app (goodIn_of _ (by decide +kernel)) ggJ0_charAt_5068e_J1_charAt_3b067
set_option maxRecDepth 20000 in
theorem ggJ0_charAt_5068e_J2_charAt_3b067 : GoodIn wsJ0_charAt_5068e wsJ2_charAt_3b067 := goodIn_r _ [24, 25, 26, 23, 27, 28, 29, 30, 31, 14, 5, 15, 16, 17, 18, 19, 20, 32, 33, 34, 35, 36, 37] (by decide +kernel) (by decide +kernel)
set_option maxRecDepth 20000 in
theorem gJ0_charAt_5068e_J2_charAt_3b067 : GoodIn wsJ0_charAt_5068e (va_wsS RJ0 498 yJ2_charAt_3b067 wsJ2_charAt_3b067) := goodIn_app (goodIn_of _ (by decide +kernel)) ggJ0_charAt_5068e_J2_charAt_3b067
theorem dJ0_charAt_5068e_0 : decode cJ0_charAt_5068e 0 = .ok (.aload_n 0, 1) := by decide +kernel
theorem dJ0_charAt_5068e_1 : decode cJ0_charAt_5068e 1 = .ok (.invokevirtual 492, 3) := by decide +kernel
theorem dJ0_charAt_5068e_4 : decode cJ0_charAt_5068e 4 = .ok (.ifCond .eq 12, 3) := by decide +kernel
theorem dJ0_charAt_5068e_7 : decode cJ0_charAt_5068e 7 = .ok (.aload_n 0, 1) := by decide +kernel
theorem dJ0_charAt_5068e_8 : decode cJ0_charAt_5068e 8 = .ok (.getfield 9, 3) := by decide +kernel
theorem dJ0_charAt_5068e_11 : decode cJ0_charAt_5068e 11 = .ok (.iload_n 1, 1) := by decide +kernel
theorem dJ0_charAt_5068e_12 : decode cJ0_charAt_5068e 12 = .ok (.invokestatic 495, 3) := by decide +kernel
theorem dJ0_charAt_5068e_15 : decode cJ0_charAt_5068e 15 = .ok (.ireturn, 1) := by decide +kernel
theorem dJ0_charAt_5068e_16 : decode cJ0_charAt_5068e 16 = .ok (.aload_n 0, 1) := by decide +kernel
theorem dJ0_charAt_5068e_17 : decode cJ0_charAt_5068e 17 = .ok (.getfield 9, 3) := by decide +kernel
theorem dJ0_charAt_5068e_20 : decode cJ0_charAt_5068e 20 = .ok (.iload_n 1, 1) := by decide +kernel
theorem dJ0_charAt_5068e_21 : decode cJ0_charAt_5068e 21 = .ok (.invokestatic 498, 3) := by decide +kernel
theorem dJ0_charAt_5068e_24 : decode cJ0_charAt_5068e 24 = .ok (.ireturn, 1) := by decide +kernel
theorem dJ0_isLatin1_aae02_0 : decode cJ0_isLatin1_aae02 0 = .ok (.getstatic 38, 3) := by decide +kernel
theorem dJ0_isLatin1_aae02_3 : decode cJ0_isLatin1_aae02 3 = .ok (.ifCond .eq 14, 3) := by decide +kernel
theorem dJ0_isLatin1_aae02_6 : decode cJ0_isLatin1_aae02 6 = .ok (.aload_n 0, 1) := by decide +kernel
theorem dJ0_isLatin1_aae02_7 : decode cJ0_isLatin1_aae02 7 = .ok (.getfield 15, 3) := by decide +kernel
theorem dJ0_isLatin1_aae02_10 : decode cJ0_isLatin1_aae02 10 = .ok (.ifCond .ne 7, 3) := by decide +kernel
theorem dJ0_isLatin1_aae02_13 : decode cJ0_isLatin1_aae02 13 = .ok (.iconst 1, 1) := by decide +kernel
theorem dJ0_isLatin1_aae02_14 : decode cJ0_isLatin1_aae02 14 = .ok (.goto 4, 3) := by decide +kernel
theorem dJ0_isLatin1_aae02_17 : decode cJ0_isLatin1_aae02 17 = .ok (.iconst 0, 1) := by decide +kernel
theorem dJ0_isLatin1_aae02_18 : decode cJ0_isLatin1_aae02 18 = .ok (.ireturn, 1) := by decide +kernel
set_option maxRecDepth 20000 in
theorem ggJ0_checkIndex_df160_J3_checkIndex_8e157 : GoodIn wsJ0_checkIndex_df160 wsJ3_checkIndex_8e157 := goodIn_r _ [5] (by decide +kernel) (by decide +kernel)
set_option maxRecDepth 20000 in
theorem gJ0_checkIndex_df160_J3_checkIndex_8e157 : GoodIn wsJ0_checkIndex_df160 (va_wsS RJ0 1059 yJ3_checkIndex_8e157 wsJ3_checkIndex_8e157) := goodIn_app (goodIn_of _ (by decide +kernel)) ggJ0_checkIndex_df160_J3_checkIndex_8e157
theorem dJ0_checkIndex_df160_0 : decode cJ0_checkIndex_df160 0 = .ok (.iload_n 0, 1) := by decide +kernel
theorem dJ0_checkIndex_df160_1 : decode cJ0_checkIndex_df160 1 = .ok (.iload_n 1, 1) := by decide +kernel
theorem dJ0_checkIndex_df160_2 : decode cJ0_checkIndex_df160 2 = .ok (.getstatic 1053, 3) := by decide +kernel
theorem dJ0_checkIndex_df160_5 : decode cJ0_checkIndex_df160 5 = .ok (.invokestatic 1059, 3) := by decide +kernel
theorem dJ0_checkIndex_df160_8 : decode cJ0_checkIndex_df160 8 = .ok (.pop, 1) := by decide +kernel
theorem dJ0_checkIndex_df160_9 : decode cJ0_checkIndex_df160 9 = .ok (.return_, 1) := by decide +kernel
set_option maxRecDepth 20000 in
theorem ggJ1_charAt_3b067_J0_checkIndex_df160 : GoodIn wsJ1_charAt_3b067 wsJ0_checkIndex_df160 := goodIn_r _ [4, 5, 6, 7, 8, 9] (by decide +kernel) (by decide +kernel)
set_option maxRecDepth 20000 in
theorem gJ1_charAt_3b067_J0_checkIndex_df160 : GoodIn wsJ1_charAt_3b067 (va_wsS RJ1 9 yJ0_checkIndex_df160 wsJ0_checkIndex_df160) := goodIn_app (goodIn_of _ (by decide +kernel)) ggJ1_charAt_3b067_J0_checkIndex_df160
theorem dJ1_charAt_3b067_0 : decode cJ1_charAt_3b067 0 = .ok (.iload_n 1, 1) := by decide +kernel
theorem dJ1_charAt_3b067_1 : decode cJ1_charAt_3b067 1 = .ok (.aload_n 0, 1) := by decide +kernel
theorem dJ1_charAt_3b067_2 : decode cJ1_charAt_3b067 2 = .ok (.arraylength, 1) := by decide +kernel
theorem dJ1_charAt_3b067_3 : decode cJ1_charAt_3b067 3 = .ok (.invokestatic 9, 3) := by decide +kernel
theorem dJ1_charAt_3b067_6 : decode cJ1_charAt_3b067 6 = .ok (.aload_n 0, 1) := by decide +kernel
theorem dJ1_charAt_3b067_7 : decode cJ1_charAt_3b067 7 = .ok (.iload_n 1, 1) := by decide +kernel
theorem dJ1_charAt_3b067_8 : decode cJ1_charAt_3b067 8 = .ok (.baload, 1) := by decide +kernel
theorem dJ1_charAt_3b067_9 : decode cJ1_charAt_3b067 9 = .ok (.sipush 255, 3) := by decide +kernel
theorem dJ1_charAt_3b067_12 : decode cJ1_charAt_3b067 12 = .ok (.iand, 1) := by decide +kernel
theorem dJ1_charAt_3b067_13 : decode cJ1_charAt_3b067 13 = .ok (.i2c, 1) := by decide +kernel
theorem dJ1_charAt_3b067_14 : decode cJ1_charAt_3b067 14 = .ok (.ireturn, 1) := by decide +kernel
set_option maxRecDepth 20000 in
theorem ggJ2_getChar_3b067_J2_length_9d52b : GoodIn wsJ2_getChar_3b067 wsJ2_length_9d52b := goodIn_r _ [7] (by decide +kernel) (by decide +kernel)
set_option maxRecDepth 20000 in
theorem gJ2_getChar_3b067_J2_length_9d52b : GoodIn wsJ2_getChar_3b067 (va_wsS RJ2 48 yJ2_length_9d52b wsJ2_length_9d52b) := goodIn_app (goodIn_of _ (by decide +kernel)) ggJ2_getChar_3b067_J2_length_9d52b
theorem dJ2_getChar_3b067_0 : decode cJ2_getChar_3b067 0 = .ok (.getstatic 44, 3) := by decide +kernel
theorem dJ2_getChar_3b067_3 : decode cJ2_getChar_3b067 3 = .ok (.ifCond .ne 25, 3) := by decide +kernel
theorem dJ2_getChar_3b067_6 : decode cJ2_getChar_3b067 6 = .ok (.iload_n 1, 1) := by decide +kernel
theorem dJ2_getChar_3b067_7 : decode cJ2_getChar_3b067 7 = .ok (.ifCond .lt 11, 3) := by decide +kernel
theorem dJ2_getChar_3b067_10 : decode cJ2_getChar_3b067 10 = .ok (.iload_n 1, 1) := by decide +kernel
theorem dJ2_getChar_3b067_11 : decode cJ2_getChar_3b067 11 = .ok (.aload_n 0, 1) := by decide +kernel
theorem dJ2_getChar_3b067_12 : decode cJ2_getChar_3b067 12 = .ok (.invokestatic 48, 3) := by decide +kernel
theorem dJ2_getChar_3b067_15 : decode cJ2_getChar_3b067 15 = .ok (.if_icmp .lt 13, 3) := by decide +kernel
theorem dJ2_getChar_3b067_18 : decode cJ2_getChar_3b067 18 = .ok (.new 52, 3) := by decide +kernel
theorem dJ2_getChar_3b067_21 : decode cJ2_getChar_3b067 21 = .ok (.dup, 1) := by decide +kernel
theorem dJ2_getChar_3b067_22 : decode cJ2_getChar_3b067 22 = .ok (.ldc 54, 2) := by decide +kernel
theorem dJ2_getChar_3b067_24 : decode cJ2_getChar_3b067 24 = .ok (.invokespecial 56, 3) := by decide +kernel
theorem dJ2_getChar_3b067_27 : decode cJ2_getChar_3b067 27 = .ok (.athrow, 1) := by decide +kernel
theorem dJ2_getChar_3b067_28 : decode cJ2_getChar_3b067 28 = .ok (.iload_n 1, 1) := by decide +kernel
theorem dJ2_getChar_3b067_29 : decode cJ2_getChar_3b067 29 = .ok (.iconst 1, 1) := by decide +kernel
theorem dJ2_getChar_3b067_30 : decode cJ2_getChar_3b067 30 = .ok (.ishl, 1) := by decide +kernel
theorem dJ2_getChar_3b067_31 : decode cJ2_getChar_3b067 31 = .ok (.istore_n 1, 1) := by decide +kernel
theorem dJ2_getChar_3b067_32 : decode cJ2_getChar_3b067 32 = .ok (.aload_n 0, 1) := by decide +kernel
theorem dJ2_getChar_3b067_33 : decode cJ2_getChar_3b067 33 = .ok (.iload_n 1, 1) := by decide +kernel
theorem dJ2_getChar_3b067_34 : decode cJ2_getChar_3b067 34 = .ok (.iinc 1 1, 3) := by decide +kernel
theorem dJ2_getChar_3b067_37 : decode cJ2_getChar_3b067 37 = .ok (.baload, 1) := by decide +kernel
theorem dJ2_getChar_3b067_38 : decode cJ2_getChar_3b067 38 = .ok (.sipush 255, 3) := by decide +kernel
theorem dJ2_getChar_3b067_41 : decode cJ2_getChar_3b067 41 = .ok (.iand, 1) := by decide +kernel
theorem dJ2_getChar_3b067_42 : decode cJ2_getChar_3b067 42 = .ok (.getstatic 59, 3) := by decide +kernel
theorem dJ2_getChar_3b067_45 : decode cJ2_getChar_3b067 45 = .ok (.ishl, 1) := by decide +kernel
theorem dJ2_getChar_3b067_46 : decode cJ2_getChar_3b067 46 = .ok (.aload_n 0, 1) := by decide +kernel
theorem dJ2_getChar_3b067_47 : decode cJ2_getChar_3b067 47 = .ok (.iload_n 1, 1) := by decide +kernel
theorem dJ2_getChar_3b067_48 : decode cJ2_getChar_3b067 48 = .ok (.baload, 1) := by decide +kernel
theorem dJ2_getChar_3b067_49 : decode cJ2_getChar_3b067 49 = .ok (.sipush 255, 3) := by decide +kernel
theorem dJ2_getChar_3b067_52 : decode cJ2_getChar_3b067 52 = .ok (.iand, 1) := by decide +kernel
theorem dJ2_getChar_3b067_53 : decode cJ2_getChar_3b067 53 = .ok (.getstatic 63, 3) := by decide +kernel
theorem dJ2_getChar_3b067_56 : decode cJ2_getChar_3b067 56 = .ok (.ishl, 1) := by decide +kernel
theorem dJ2_getChar_3b067_57 : decode cJ2_getChar_3b067 57 = .ok (.ior, 1) := by decide +kernel
theorem dJ2_getChar_3b067_58 : decode cJ2_getChar_3b067 58 = .ok (.i2c, 1) := by decide +kernel
theorem dJ2_getChar_3b067_59 : decode cJ2_getChar_3b067 59 = .ok (.ireturn, 1) := by decide +kernel
theorem dJ2_length_9d52b_0 : decode cJ2_length_9d52b 0 = .ok (.aload_n 0, 1) := by decide +kernel
theorem dJ2_length_9d52b_1 : decode cJ2_length_9d52b 1 = .ok (.arraylength, 1) := by decide +kernel
theorem dJ2_length_9d52b_2 : decode cJ2_length_9d52b 2 = .ok (.iconst 1, 1) := by decide +kernel
theorem dJ2_length_9d52b_3 : decode cJ2_length_9d52b 3 = .ok (.ishr, 1) := by decide +kernel
theorem dJ2_length_9d52b_4 : decode cJ2_length_9d52b 4 = .ok (.ireturn, 1) := by decide +kernel
set_option maxRecDepth 20000 in
theorem ggJ2_charAt_3b067_J2_checkIndex_2214a : GoodIn wsJ2_charAt_3b067 wsJ2_checkIndex_2214a := goodIn_r _ [4, 5, 6, 3, 7, 8, 9, 10, 11, 12, 13, 14, 15, 16] (by decide +kernel) (by decide +kernel)
set_option maxRecDepth 20000 in
theorem gJ2_charAt_3b067_J2_checkIndex_2214a : GoodIn wsJ2_charAt_3b067 (va_wsS RJ2 67 yJ2_checkIndex_2214a wsJ2_checkIndex_2214a) := goodIn_app (goodIn_of _ (by decide +kernel)) ggJ2_charAt_3b067_J2_checkIndex_2214a
set_option maxRecDepth 20000 in
theorem ggJ2_charAt_3b067_J2_getChar_3b067 : GoodIn wsJ2_charAt_3b067 wsJ2_getChar_3b067 := goodIn_r _ [19, 20, 21, 22, 5, 6, 3, 7] (by decide +kernel) (by decide +kernel)
set_option maxRecDepth 20000 in
theorem gJ2_charAt_3b067_J2_getChar_3b067 : GoodIn wsJ2_charAt_3b067 (va_wsS RJ2 71 yJ2_getChar_3b067 wsJ2_getChar_3b067) := goodIn_app (goodIn_of _ (by decide +kernel)) ggJ2_charAt_3b067_J2_getChar_3b067
theorem dJ2_charAt_3b067_0 : decode cJ2_charAt_3b067 0 = .ok (.iload_n 1, 1) := by decide +kernel
theorem dJ2_charAt_3b067_1 : decode cJ2_charAt_3b067 1 = .ok (.aload_n 0, 1) := by decide +kernel
theorem dJ2_charAt_3b067_2 : decode cJ2_charAt_3b067 2 = .ok (.invokestatic 67, 3) := by decide +kernel
theorem dJ2_charAt_3b067_5 : decode cJ2_charAt_3b067 5 = .ok (.aload_n 0, 1) := by decide +kernel
theorem dJ2_charAt_3b067_6 : decode cJ2_charAt_3b067 6 = .ok (.iload_n 1, 1) := by decide +kernel
theorem dJ2_charAt_3b067_7 : decode cJ2_charAt_3b067 7 = .ok (.invokestatic 71, 3) := by decide +kernel
theorem dJ2_charAt_3b067_10 : decode cJ2_charAt_3b067 10 = .ok (.ireturn, 1) := by decide +kernel
set_option maxRecDepth 20000 in
theorem ggJ2_checkIndex_2214a_J2_length_9d52b : GoodIn wsJ2_checkIndex_2214a wsJ2_length_9d52b := goodIn_r _ [4] (by decide +kernel) (by decide +kernel)
set_option maxRecDepth 20000 in
theorem gJ2_checkIndex_2214a_J2_length_9d52b : GoodIn wsJ2_checkIndex_2214a (va_wsS RJ2 48 yJ2_length_9d52b wsJ2_length_9d52b) := goodIn_app (goodIn_of _ (by decide +kernel)) ggJ2_checkIndex_2214a_J2_length_9d52b
set_option maxRecDepth 20000 in
theorem ggJ2_checkIndex_2214a_J0_checkIndex_df160 : GoodIn wsJ2_checkIndex_2214a wsJ0_checkIndex_df160 := goodIn_r _ [8, 9, 10, 11, 12, 13] (by decide +kernel) (by decide +kernel)
set_option maxRecDepth 20000 in
theorem gJ2_checkIndex_2214a_J0_checkIndex_df160 : GoodIn wsJ2_checkIndex_2214a (va_wsS RJ2 414 yJ0_checkIndex_df160 wsJ0_checkIndex_df160) := goodIn_app (goodIn_of _ (by decide +kernel)) ggJ2_checkIndex_2214a_J0_checkIndex_df160
theorem dJ2_checkIndex_2214a_0 : decode cJ2_checkIndex_2214a 0 = .ok (.iload_n 0, 1) := by decide +kernel
theorem dJ2_checkIndex_2214a_1 : decode cJ2_checkIndex_2214a 1 = .ok (.aload_n 1, 1) := by decide +kernel
theorem dJ2_checkIndex_2214a_2 : decode cJ2_checkIndex_2214a 2 = .ok (.invokestatic 48, 3) := by decide +kernel
theorem dJ2_checkIndex_2214a_5 : decode cJ2_checkIndex_2214a 5 = .ok (.invokestatic 414, 3) := by decide +kernel
theorem dJ2_checkIndex_2214a_8 : decode cJ2_checkIndex_2214a 8 = .ok (.return_, 1) := by decide +kernel
theorem dJ3_checkIndex_8e157_0 : decode cJ3_checkIndex_8e157 0 = .ok (.iload_n 0, 1) := by decide +kernel
theorem dJ3_checkIndex_8e157_1 : decode cJ3_checkIndex_8e157 1 = .ok (.ifCond .lt 8, 3) := by decide +kernel
theorem dJ3_checkIndex_8e157_4 : decode cJ3_checkIndex_8e157 4 = .ok (.iload_n 0, 1) := by decide +kernel
theorem dJ3_checkIndex_8e157_5 : decode cJ3_checkIndex_8e157 5 = .ok (.iload_n 1, 1) := by decide +kernel
theorem dJ3_checkIndex_8e157_6 : decode cJ3_checkIndex_8e157 6 = .ok (.if_icmp .lt 10, 3) := by decide +kernel
theorem dJ3_checkIndex_8e157_9 : decode cJ3_checkIndex_8e157 9 = .ok (.aload_n 2, 1) := by decide +kernel
theorem dJ3_checkIndex_8e157_10 : decode cJ3_checkIndex_8e157 10 = .ok (.iload_n 0, 1) := by decide +kernel
theorem dJ3_checkIndex_8e157_11 : decode cJ3_checkIndex_8e157 11 = .ok (.iload_n 1, 1) := by decide +kernel
theorem dJ3_checkIndex_8e157_12 : decode cJ3_checkIndex_8e157 12 = .ok (.invokestatic 95, 3) := by decide +kernel
theorem dJ3_checkIndex_8e157_15 : decode cJ3_checkIndex_8e157 15 = .ok (.athrow, 1) := by decide +kernel
theorem dJ3_checkIndex_8e157_16 : decode cJ3_checkIndex_8e157 16 = .ok (.iload_n 0, 1) := by decide +kernel
theorem dJ3_checkIndex_8e157_17 : decode cJ3_checkIndex_8e157 17 = .ok (.ireturn, 1) := by decide +kernel
set_option maxRecDepth 20000 in
theorem ggL_letter_X6_letter : GoodIn wsL_letter wsX6_letter := goodIn_r _ [5, 6, 7, 8, 9, 10, 4, 11, 12, 13, 14, 15, 16, 17, 18, 19, 20, 21, 22, 23, 24, 25, 26, 27, 28, 29, 30, 31, 32, 33, 34, 35, 36, 37, 38, 39, 40, 41, 42, 43, 44, 45, 46, 47, 48, 49, 50, 51, 52, 53, 54, 55, 56, 57, 58, 59, 60, 61, 62, 63, 64, 65, 66, 67, 68, 69, 70, 71, 72, 73, 74, 75, 76, 77, 78, 79, 80, 81, 82] (by decide +kernel) (by decide +kernel)
set_option maxRecDepth 20000 in
theorem gL_letter_X6_letter : GoodIn wsL_letter (wsV RL 7 RX6 yX6_letter wsX6_letter) := goodIn_app (goodIn_of _ (by decide +kernel)) ggL_letter_X6_letter
theorem dL_letter_0 : decode cL_letter 0 = .ok (.aload 4, 2) := by decide +kernel
theorem dL_letter_2 : decode cL_letter 2 = .ok (.iconst 0, 1) := by decide +kernel
theorem dL_letter_3 : decode cL_letter 3 = .ok (.aload_n 0, 1) := by decide +kernel
theorem dL_letter_4 : decode cL_letter 4 = .ok (.lload_n 1, 1) := by decide +kernel
theorem dL_letter_5 : decode cL_letter 5 = .ok (.iload_n 3, 1) := by decide +kernel
theorem dL_letter_6 : decode cL_letter 6 = .ok (.invokevirtual 7, 3) := by decide +kernel
theorem dL_letter_9 : decode cL_letter 9 = .ok (.i2l, 1) := by decide +kernel
theorem dL_letter_10 : decode cL_letter 10 = .ok (.lastore, 1) := by decide +kernel
theorem dL_letter_11 : decode cL_letter 11 = .ok (.goto 7, 3) := by decide +kernel
theorem dL_letter_14 : decode cL_letter 14 = .ok (.astore 5, 2) := by decide +kernel
theorem dL_letter_16 : decode cL_letter 16 = .ok (.iconst 1, 1) := by decide +kernel
theorem dL_letter_17 : decode cL_letter 17 = .ok (.ireturn, 1) := by decide +kernel
theorem dL_letter_18 : decode cL_letter 18 = .ok (.iconst 0, 1) := by decide +kernel
theorem dL_letter_19 : decode cL_letter 19 = .ok (.ireturn, 1) := by decide +kernel
set_option maxRecDepth 20000 in
theorem ggL_law_X6_init : GoodIn wsL_law wsX6_init := goodIn_r _ [10, 11, 12, 13, 14, 15, 16, 17, 18, 19, 20, 21, 22, 23, 24, 25, 26, 27, 28, 29, 30, 31, 32, 33, 34, 35, 36, 37, 38, 6, 39, 40, 41, 42, 43, 44, 45, 46, 47, 48, 49, 50, 51, 52, 53, 54, 55, 56, 57, 58, 59, 60, 61, 62, 63, 64, 65, 428, 429, 430, 431, 432, 404, 405, 406, 407, 408, 433, 434, 435, 436, 437, 438, 439, 440, 441, 442, 443] (by decide +kernel) (by decide +kernel)
set_option maxRecDepth 20000 in
theorem gL_law_X6_init : GoodIn wsL_law (wsX6_init) := ggL_law_X6_init
set_option maxRecDepth 20000 in
theorem ggL_law_X7_init : GoodIn wsL_law wsX7_init := goodIn_r _ [68, 69, 12, 13, 37, 70, 6, 71, 72, 73, 74, 75, 76, 77, 78, 79, 80, 81, 82, 83, 84, 409, 410, 411, 412, 413, 414, 415, 416, 417, 418, 419, 420, 421, 422, 423, 424, 425, 426, 427] (by decide +kernel) (by decide +kernel)
set_option maxRecDepth 20000 in
theorem gL_law_X7_init : GoodIn wsL_law (wsX7_init) := ggL_law_X7_init
set_option maxRecDepth 20000 in
theorem ggL_law_X6_block : GoodIn wsL_law wsX6_block := goodIn_r _ [88, 89, 17, 90, 91, 2, 92, 93, 94, 95, 96, 97, 98, 16, 99, 42, 40, 39, 100, 101, 102, 103, 104, 105, 106, 107, 38, 41, 404, 405, 406, 407, 408, 428, 429, 430, 431, 432] (by decide +kernel) (by decide +kernel)
set_option maxRecDepth 20000 in
theorem gL_law_X6_block : GoodIn wsL_law (wsV RL 21 RX6 yX6_block wsX6_block) := goodIn_app (goodIn_of _ (by decide +kernel)) ggL_law_X6_block
set_option maxRecDepth 20000 in
theorem ggL_law_X7_block : GoodIn wsL_law wsX7_block := goodIn_r _ [111, 112, 113, 114, 115, 71, 72, 70, 116, 117, 5, 118, 409, 410, 411, 412, 413, 414, 415, 416, 417, 418, 419, 420, 421, 422, 423, 424, 425, 426, 427] (by decide +kernel) (by decide +kernel)
set_option maxRecDepth 20000 in
theorem gL_law_X7_block : GoodIn wsL_law (wsV RL 25 RX7 yX7_block wsX7_block) := goodIn_app (goodIn_of _ (by decide +kernel)) ggL_law_X7_block
set_option maxRecDepth 20000 in
theorem ggL_law_X6_next : GoodIn wsL_law wsX6_next := goodIn_r _ [122, 123, 25, 124, 17, 21, 90, 91, 2, 92, 125, 126, 127, 128, 129, 130, 24, 131, 53, 132, 133, 134, 16, 135, 42, 38, 41, 40, 136, 137, 138, 139, 20, 140, 48, 141, 142, 143, 144, 46, 47, 145, 146, 147, 148, 149, 150, 151, 152, 52, 404, 405, 406, 407, 408, 436, 437, 428, 429, 430, 431, 432, 433, 434, 435] (by decide +kernel) (by decide +kernel)
set_option maxRecDepth 20000 in
theorem gL_law_X6_next : GoodIn wsL_law (wsV RL 26 RX6 yX6_next wsX6_next) := goodIn_app (goodIn_of _ (by decide +kernel)) ggL_law_X6_next
set_option maxRecDepth 20000 in
theorem ggL_law_X7_next : GoodIn wsL_law wsX7_next := goodIn_r _ [156, 112, 113, 157, 158, 115, 70, 159, 75, 160, 161, 77, 116, 117, 5, 118, 162, 163, 164, 165, 71, 72, 166, 167, 168, 169, 170, 73, 74, 171, 172, 173, 174, 409, 410, 411, 412, 413, 414, 415, 416, 417, 418, 419, 420, 421, 422, 423, 424, 425, 426, 427] (by decide +kernel) (by decide +kernel)
set_option maxRecDepth 20000 in
theorem gL_law_X7_next : GoodIn wsL_law (wsV RL 30 RX7 yX7_next wsX7_next) := goodIn_app (goodIn_of _ (by decide +kernel)) ggL_law_X7_next
set_option maxRecDepth 20000 in
theorem ggL_law_L_letter : GoodIn wsL_law wsL_letter := goodIn_r _ [178, 179, 180, 181, 2, 182, 183, 184, 185, 186, 187, 188, 148, 189, 190, 191, 192, 193, 194, 195, 196, 197, 198, 199, 200, 201, 202, 203, 204, 205, 206, 207, 208, 209, 210, 211, 212, 213, 214, 215, 216, 217, 218, 219, 220, 221, 222, 223, 224, 225, 226, 227, 228, 229, 230, 231, 232, 233, 234, 235, 236, 237, 238, 239, 240, 241, 242, 243, 244, 245, 246, 247, 248, 249, 250, 251, 252, 444, 445, 446, 447, 448, 449] (by decide +kernel) (by decide +kernel)
set_option maxRecDepth 20000 in
theorem gL_law_L_letter : GoodIn wsL_law (va_wsS RL 31 yL_letter wsL_letter) := goodIn_app (goodIn_of _ (by decide +kernel)) ggL_law_L_letter
set_option maxRecDepth 20000 in
theorem ggL_law_X7_letter : GoodIn wsL_law wsX7_letter := goodIn_r _ [256, 112, 82, 161, 257, 258, 259, 5, 260, 261, 262, 263, 264, 265, 266, 267, 268, 269, 83, 270, 271, 272, 409, 410, 411, 412, 413, 414, 415, 416, 417, 418, 419, 420, 421, 422, 423, 424, 425, 426, 427] (by decide +kernel) (by decide +kernel)
set_option maxRecDepth 20000 in
theorem gL_law_X7_letter : GoodIn wsL_law (wsV RL 36 RX7 yX7_letter wsX7_letter) := goodIn_app (goodIn_of _ (by decide +kernel)) ggL_law_X7_letter
set_option maxRecDepth 20000 in
theorem ggL_law_X7_thrown : GoodIn wsL_law wsX7_thrown := goodIn_r _ [276, 112, 409, 410, 411, 412, 413, 414, 415, 416, 417, 418, 419, 420, 421, 422, 423, 424, 425, 426, 427] (by decide +kernel) (by decide +kernel)
set_option maxRecDepth 20000 in
theorem gL_law_X7_thrown : GoodIn wsL_law (wsV RL 37 RX7 yX7_thrown wsX7_thrown) := goodIn_app (goodIn_of _ (by decide +kernel)) ggL_law_X7_thrown
set_option maxRecDepth 20000 in
theorem ggL_law_X6_type : GoodIn wsL_law wsX6_type := goodIn_r _ [280, 33, 281, 282, 283, 32, 284, 65, 64, 404, 405, 406, 407, 408, 442, 443] (by decide +kernel) (by decide +kernel)
set_option maxRecDepth 20000 in
theorem gL_law_X6_type : GoodIn wsL_law (wsV RL 41 RX6 yX6_type wsX6_type) := goodIn_app (goodIn_of _ (by decide +kernel)) ggL_law_X6_type
set_option maxRecDepth 20000 in
theorem ggL_law_X7_type : GoodIn wsL_law wsX7_type := goodIn_r _ [288, 112, 84, 78, 409, 410, 411, 412, 413, 414, 415, 416, 417, 418, 419, 420, 421, 422, 423, 424, 425, 426, 427] (by decide +kernel) (by decide +kernel)
set_option maxRecDepth 20000 in
theorem gL_law_X7_type : GoodIn wsL_law (wsV RL 45 RX7 yX7_type wsX7_type) := goodIn_app (goodIn_of _ (by decide +kernel)) ggL_law_X7_type
set_option maxRecDepth 20000 in
theorem ggL_law_X6_read : GoodIn wsL_law wsX6_read := goodIn_r _ [292, 33, 293, 294, 295, 32, 296, 65, 64, 297, 298, 299, 300, 192, 301, 212, 213, 214, 215, 216, 217, 218, 219, 220, 221, 222, 223, 224, 225, 226, 227, 228, 229, 230, 231, 232, 233, 234, 235, 236, 237, 238, 239, 240, 241, 242, 243, 244, 245, 246, 247, 248, 249, 250, 251, 252, 302, 303, 304, 126, 2, 127, 205, 206, 207, 208, 305, 306, 307, 308, 309, 404, 405, 406, 407, 408, 442, 443] (by decide +kernel) (by decide +kernel)
set_option maxRecDepth 20000 in
theorem gL_law_X6_read : GoodIn wsL_law (wsV RL 46 RX6 yX6_read wsX6_read) := goodIn_app (goodIn_of _ (by decide +kernel)) ggL_law_X6_read
set_option maxRecDepth 20000 in
theorem ggL_law_X7_read : GoodIn wsL_law wsX7_read := goodIn_r _ [313, 112, 84, 78, 159, 82, 257, 161, 314, 315, 5, 316, 270, 271, 272, 262, 263, 264, 265, 266, 267, 268, 269, 83, 409, 410, 411, 412, 413, 414, 415, 416, 417, 418, 419, 420, 421, 422, 423, 424, 425, 426, 427] (by decide +kernel) (by decide +kernel)
set_option maxRecDepth 20000 in
theorem gL_law_X7_read : GoodIn wsL_law (wsV RL 50 RX7 yX7_read wsX7_read) := goodIn_app (goodIn_of _ (by decide +kernel)) ggL_law_X7_read
set_option maxRecDepth 20000 in
theorem ggL_law_X6_bar : GoodIn wsL_law wsX6_bar := goodIn_r _ [320, 148, 21, 25, 93, 94, 2, 95, 321, 322, 323, 20, 324, 48, 325, 326, 327, 328, 46, 47, 329, 330, 331, 24, 332, 53, 52, 203, 204, 404, 405, 406, 407, 408, 433, 434, 435, 436, 437] (by decide +kernel) (by decide +kernel)
set_option maxRecDepth 20000 in
theorem gL_law_X6_bar : GoodIn wsL_law (wsV RL 51 RX6 yX6_bar wsX6_bar) := goodIn_app (goodIn_of _ (by decide +kernel)) ggL_law_X6_bar
set_option maxRecDepth 20000 in
theorem ggL_law_X7_bar : GoodIn wsL_law wsX7_bar := goodIn_r _ [336, 112, 161, 170, 73, 74, 160, 77, 75, 116, 117, 5, 118, 409, 410, 411, 412, 413, 414, 415, 416, 417, 418, 419, 420, 421, 422, 423, 424, 425, 426, 427] (by decide +kernel) (by decide +kernel)
set_option maxRecDepth 20000 in
theorem gL_law_X7_bar : GoodIn wsL_law (wsV RL 55 RX7 yX7_bar wsX7_bar) := goodIn_app (goodIn_of _ (by decide +kernel)) ggL_law_X7_bar
set_option maxRecDepth 20000 in
theorem ggL_law_X6_given : GoodIn wsL_law wsX6_given := goodIn_r _ [340, 25, 341, 342, 343, 24, 344, 53, 52, 404, 405, 406, 407, 408, 436, 437] (by decide +kernel) (by decide +kernel)
set_option maxRecDepth 20000 in
theorem gL_law_X6_given : GoodIn wsL_law (wsV RL 56 RX6 yX6_given wsX6_given) := goodIn_app (goodIn_of _ (by decide +kernel)) ggL_law_X6_given
set_option maxRecDepth 20000 in
theorem ggL_law_X7_given : GoodIn wsL_law wsX7_given := goodIn_r _ [348, 112, 349, 350, 351, 5, 352, 160, 75, 77, 409, 410, 411, 412, 413, 414, 415, 416, 417, 418, 419, 420, 421, 422, 423, 424, 425, 426, 427] (by decide +kernel) (by decide +kernel)
set_option maxRecDepth 20000 in
theorem gL_law_X7_given : GoodIn wsL_law (wsV RL 60 RX7 yX7_given wsX7_given) := goodIn_app (goodIn_of _ (by decide +kernel)) ggL_law_X7_given
set_option maxRecDepth 20000 in
theorem ggL_law_X6_old : GoodIn wsL_law wsX6_old := goodIn_r _ [356, 357, 358, 89, 123, 145, 146, 2, 147, 148, 186, 187, 188, 189, 359, 203, 204, 360, 201, 202] (by decide +kernel) (by decide +kernel)
set_option maxRecDepth 20000 in
theorem gL_law_X6_old : GoodIn wsL_law (wsV RL 61 RX6 yX6_old wsX6_old) := goodIn_app (goodIn_of _ (by decide +kernel)) ggL_law_X6_old
set_option maxRecDepth 20000 in
theorem ggL_law_X7_old : GoodIn wsL_law wsX7_old := goodIn_r _ [364, 112, 365, 366, 161, 114, 367, 158, 116, 117, 5, 118, 258, 259, 260, 261, 409, 410, 411, 412, 413, 414, 415, 416, 417, 418, 419, 420, 421, 422, 423, 424, 425, 426, 427] (by decide +kernel) (by decide +kernel)
set_option maxRecDepth 20000 in
theorem gL_law_X7_old : GoodIn wsL_law (wsV RL 65 RX7 yX7_old wsX7_old) := goodIn_app (goodIn_of _ (by decide +kernel)) ggL_law_X7_old
set_option maxRecDepth 20000 in
theorem ggL_law_X6_map : GoodIn wsL_law wsX6_map := goodIn_r _ [371, 25, 29, 372, 341, 342, 343, 24, 344, 53, 52, 373, 374, 375, 28, 376, 60, 57, 58, 59, 377, 378, 379, 380, 381, 382, 383, 384, 385, 386, 387, 388, 389, 404, 405, 406, 407, 408, 436, 437, 438, 439, 440, 441] (by decide +kernel) (by decide +kernel)
set_option maxRecDepth 20000 in
theorem gL_law_X6_map : GoodIn wsL_law (wsV RL 66 RX6 yX6_map wsX6_map) := goodIn_app (goodIn_of _ (by decide +kernel)) ggL_law_X6_map
set_option maxRecDepth 20000 in
theorem ggL_law_X7_map : GoodIn wsL_law wsX7_map := goodIn_r _ [393, 112, 113, 394, 79, 80, 81, 349, 350, 351, 5, 352, 160, 75, 77, 116, 117, 118, 409, 410, 411, 412, 413, 414, 415, 416, 417, 418, 419, 420, 421, 422, 423, 424, 425, 426, 427] (by decide +kernel) (by decide +kernel)
set_option maxRecDepth 20000 in
theorem gL_law_X7_map : GoodIn wsL_law (wsV RL 69 RX7 yX7_map wsX7_map) := goodIn_app (goodIn_of _ (by decide +kernel)) ggL_law_X7_map
set_option maxRecDepth 20000 in
theorem ggL_law_X6_named : GoodIn wsL_law wsX6_named := goodIn_r _ [398, 29, 373, 374, 375, 28, 376, 60, 57, 58, 59, 377, 404, 405, 406, 407, 408, 438, 439, 440, 441] (by decide +kernel) (by decide +kernel)
set_option maxRecDepth 20000 in
theorem gL_law_X6_named : GoodIn wsL_law (wsV RL 70 RX6 yX6_named wsX6_named) := goodIn_app (goodIn_of _ (by decide +kernel)) ggL_law_X6_named
set_option maxRecDepth 20000 in
theorem ggL_law_X7_named : GoodIn wsL_law wsX7_named := goodIn_r _ [402, 112, 394, 79, 80, 81, 403, 409, 410, 411, 412, 413, 414, 415, 416, 417, 418, 419, 420, 421, 422, 423, 424, 425, 426, 427] (by decide +kernel) (by decide +kernel)
set_option maxRecDepth 20000 in
theorem gL_law_X7_named : GoodIn wsL_law (wsV RL 74 RX7 yX7_named wsX7_named) := goodIn_app (goodIn_of _ (by decide +kernel)) ggL_law_X7_named
abbrev vwCl : List vw_C := [(RJx00060, TJx00060, 6), (RX0, TX0, 3), (RX1, TX1, 5), (RX3, TX3, 2), (RX4, TX4, 4), (RX5, TX5, 2), (RX6, TX6, 5), (RX7, TX7, 19)]
end
section
theorem dL_law_0 : decode cL_law 0 = .ok (.new 8, 3) := by decide +kernel
theorem dL_law_3 : decode cL_law 3 = .ok (.dup, 1) := by decide +kernel
theorem dL_law_4 : decode cL_law 4 = .ok (.invokespecial 15, 3) := by decide +kernel
theorem dL_law_7 : decode cL_law 7 = .ok (.astore_n 1, 1) := by decide +kernel
theorem dL_law_8 : decode cL_law 8 = .ok (.new 16, 3) := by decide +kernel
theorem dL_law_11 : decode cL_law 11 = .ok (.dup, 1) := by decide +kernel
theorem dL_law_12 : decode cL_law 12 = .ok (.invokespecial 18, 3) := by decide +kernel
theorem dL_law_15 : decode cL_law 15 = .ok (.astore_n 2, 1) := by decide +kernel
theorem dL_law_16 : decode cL_law 16 = .ok (.iconst 1, 1) := by decide +kernel
theorem dL_law_17 : decode cL_law 17 = .ok (.newarray .long, 2) := by decide +kernel
theorem dL_law_19 : decode cL_law 19 = .ok (.astore_n 3, 1) := by decide +kernel
theorem dL_law_20 : decode cL_law 20 = .ok (.iconst 0, 1) := by decide +kernel
theorem dL_law_21 : decode cL_law 21 = .ok (.istore 4, 2) := by decide +kernel
theorem dL_law_23 : decode cL_law 23 = .ok (.iload 4, 2) := by decide +kernel
theorem dL_law_25 : decode cL_law 25 = .ok (.aload_n 0, 1) := by decide +kernel
theorem dL_law_26 : decode cL_law 26 = .ok (.arraylength, 1) := by decide +kernel
theorem dL_law_27 : decode cL_law 27 = .ok (.bipush 6, 2) := by decide +kernel
theorem dL_law_29 : decode cL_law 29 = .ok (.isub, 1) := by decide +kernel
theorem dL_law_30 : decode cL_law 30 = .ok (.if_icmp .gt 759, 3) := by decide +kernel
theorem dL_law_33 : decode cL_law 33 = .ok (.aload_n 0, 1) := by decide +kernel
theorem dL_law_34 : decode cL_law 34 = .ok (.iload 4, 2) := by decide +kernel
theorem dL_law_36 : decode cL_law 36 = .ok (.iaload, 1) := by decide +kernel
theorem dL_law_37 : decode cL_law 37 = .ok (.bipush 15, 2) := by decide +kernel
theorem dL_law_39 : decode cL_law 39 = .ok (.iand, 1) := by decide +kernel
theorem dL_law_40 : decode cL_law 40 = .ok (.tableswitch 743 0 9 #[56, 169, 207, 307, 330, 344, 445, 502, 560, 673], 56) := by decide +kernel
theorem dL_law_96 : decode cL_law 96 = .ok (.aload_n 1, 1) := by decide +kernel
theorem dL_law_97 : decode cL_law 97 = .ok (.aload_n 0, 1) := by decide +kernel
theorem dL_law_98 : decode cL_law 98 = .ok (.iload 4, 2) := by decide +kernel
theorem dL_law_100 : decode cL_law 100 = .ok (.iconst 1, 1) := by decide +kernel
theorem dL_law_101 : decode cL_law 101 = .ok (.iadd, 1) := by decide +kernel
theorem dL_law_102 : decode cL_law 102 = .ok (.iaload, 1) := by decide +kernel
theorem dL_law_103 : decode cL_law 103 = .ok (.aload_n 0, 1) := by decide +kernel
theorem dL_law_104 : decode cL_law 104 = .ok (.iload 4, 2) := by decide +kernel
theorem dL_law_106 : decode cL_law 106 = .ok (.iconst 2, 1) := by decide +kernel
theorem dL_law_107 : decode cL_law 107 = .ok (.iadd, 1) := by decide +kernel
theorem dL_law_108 : decode cL_law 108 = .ok (.iaload, 1) := by decide +kernel
theorem dL_law_109 : decode cL_law 109 = .ok (.i2l, 1) := by decide +kernel
theorem dL_law_110 : decode cL_law 110 = .ok (.bipush 32, 2) := by decide +kernel
theorem dL_law_112 : decode cL_law 112 = .ok (.lshl, 1) := by decide +kernel
theorem dL_law_113 : decode cL_law 113 = .ok (.aload_n 0, 1) := by decide +kernel
theorem dL_law_114 : decode cL_law 114 = .ok (.iload 4, 2) := by decide +kernel
theorem dL_law_116 : decode cL_law 116 = .ok (.iconst 3, 1) := by decide +kernel
theorem dL_law_117 : decode cL_law 117 = .ok (.iadd, 1) := by decide +kernel
theorem dL_law_118 : decode cL_law 118 = .ok (.iaload, 1) := by decide +kernel
theorem dL_law_119 : decode cL_law 119 = .ok (.i2l, 1) := by decide +kernel
theorem dL_law_120 : decode cL_law 120 = .ok (.ldc2_w 19, 3) := by decide +kernel
theorem dL_law_123 : decode cL_law 123 = .ok (.land, 1) := by decide +kernel
theorem dL_law_124 : decode cL_law 124 = .ok (.lor, 1) := by decide +kernel
theorem dL_law_125 : decode cL_law 125 = .ok (.aload_n 0, 1) := by decide +kernel
theorem dL_law_126 : decode cL_law 126 = .ok (.iload 4, 2) := by decide +kernel
theorem dL_law_128 : decode cL_law 128 = .ok (.iconst 4, 1) := by decide +kernel
theorem dL_law_129 : decode cL_law 129 = .ok (.iadd, 1) := by decide +kernel
theorem dL_law_130 : decode cL_law 130 = .ok (.iaload, 1) := by decide +kernel
theorem dL_law_131 : decode cL_law 131 = .ok (.i2l, 1) := by decide +kernel
theorem dL_law_132 : decode cL_law 132 = .ok (.bipush 32, 2) := by decide +kernel
theorem dL_law_134 : decode cL_law 134 = .ok (.lshl, 1) := by decide +kernel
theorem dL_law_135 : decode cL_law 135 = .ok (.aload_n 0, 1) := by decide +kernel
theorem dL_law_136 : decode cL_law 136 = .ok (.iload 4, 2) := by decide +kernel
theorem dL_law_138 : decode cL_law 138 = .ok (.iconst 5, 1) := by decide +kernel
theorem dL_law_139 : decode cL_law 139 = .ok (.iadd, 1) := by decide +kernel
theorem dL_law_140 : decode cL_law 140 = .ok (.iaload, 1) := by decide +kernel
theorem dL_law_141 : decode cL_law 141 = .ok (.i2l, 1) := by decide +kernel
theorem dL_law_142 : decode cL_law 142 = .ok (.ldc2_w 19, 3) := by decide +kernel
theorem dL_law_145 : decode cL_law 145 = .ok (.land, 1) := by decide +kernel
theorem dL_law_146 : decode cL_law 146 = .ok (.lor, 1) := by decide +kernel
theorem dL_law_147 : decode cL_law 147 = .ok (.invokevirtual 21, 3) := by decide +kernel
theorem dL_law_150 : decode cL_law 150 = .ok (.aload_n 2, 1) := by decide +kernel
theorem dL_law_151 : decode cL_law 151 = .ok (.aload_n 0, 1) := by decide +kernel
theorem dL_law_152 : decode cL_law 152 = .ok (.iload 4, 2) := by decide +kernel
theorem dL_law_154 : decode cL_law 154 = .ok (.iconst 1, 1) := by decide +kernel
theorem dL_law_155 : decode cL_law 155 = .ok (.iadd, 1) := by decide +kernel
theorem dL_law_156 : decode cL_law 156 = .ok (.iaload, 1) := by decide +kernel
theorem dL_law_157 : decode cL_law 157 = .ok (.aload_n 0, 1) := by decide +kernel
theorem dL_law_158 : decode cL_law 158 = .ok (.iload 4, 2) := by decide +kernel
theorem dL_law_160 : decode cL_law 160 = .ok (.iconst 2, 1) := by decide +kernel
theorem dL_law_161 : decode cL_law 161 = .ok (.iadd, 1) := by decide +kernel
theorem dL_law_162 : decode cL_law 162 = .ok (.iaload, 1) := by decide +kernel
theorem dL_law_163 : decode cL_law 163 = .ok (.i2l, 1) := by decide +kernel
theorem dL_law_164 : decode cL_law 164 = .ok (.bipush 32, 2) := by decide +kernel
theorem dL_law_166 : decode cL_law 166 = .ok (.lshl, 1) := by decide +kernel
theorem dL_law_167 : decode cL_law 167 = .ok (.aload_n 0, 1) := by decide +kernel
theorem dL_law_168 : decode cL_law 168 = .ok (.iload 4, 2) := by decide +kernel
theorem dL_law_170 : decode cL_law 170 = .ok (.iconst 3, 1) := by decide +kernel
theorem dL_law_171 : decode cL_law 171 = .ok (.iadd, 1) := by decide +kernel
theorem dL_law_172 : decode cL_law 172 = .ok (.iaload, 1) := by decide +kernel
theorem dL_law_173 : decode cL_law 173 = .ok (.i2l, 1) := by decide +kernel
theorem dL_law_174 : decode cL_law 174 = .ok (.ldc2_w 19, 3) := by decide +kernel
theorem dL_law_177 : decode cL_law 177 = .ok (.land, 1) := by decide +kernel
theorem dL_law_178 : decode cL_law 178 = .ok (.lor, 1) := by decide +kernel
theorem dL_law_179 : decode cL_law 179 = .ok (.aload_n 0, 1) := by decide +kernel
theorem dL_law_180 : decode cL_law 180 = .ok (.iload 4, 2) := by decide +kernel
theorem dL_law_182 : decode cL_law 182 = .ok (.iconst 4, 1) := by decide +kernel
theorem dL_law_183 : decode cL_law 183 = .ok (.iadd, 1) := by decide +kernel
theorem dL_law_184 : decode cL_law 184 = .ok (.iaload, 1) := by decide +kernel
theorem dL_law_185 : decode cL_law 185 = .ok (.i2l, 1) := by decide +kernel
theorem dL_law_186 : decode cL_law 186 = .ok (.bipush 32, 2) := by decide +kernel
theorem dL_law_188 : decode cL_law 188 = .ok (.lshl, 1) := by decide +kernel
theorem dL_law_189 : decode cL_law 189 = .ok (.aload_n 0, 1) := by decide +kernel
theorem dL_law_190 : decode cL_law 190 = .ok (.iload 4, 2) := by decide +kernel
theorem dL_law_192 : decode cL_law 192 = .ok (.iconst 5, 1) := by decide +kernel
theorem dL_law_193 : decode cL_law 193 = .ok (.iadd, 1) := by decide +kernel
theorem dL_law_194 : decode cL_law 194 = .ok (.iaload, 1) := by decide +kernel
theorem dL_law_195 : decode cL_law 195 = .ok (.i2l, 1) := by decide +kernel
theorem dL_law_196 : decode cL_law 196 = .ok (.ldc2_w 19, 3) := by decide +kernel
theorem dL_law_199 : decode cL_law 199 = .ok (.land, 1) := by decide +kernel
theorem dL_law_200 : decode cL_law 200 = .ok (.lor, 1) := by decide +kernel
theorem dL_law_201 : decode cL_law 201 = .ok (.invokevirtual 25, 3) := by decide +kernel
theorem dL_law_204 : decode cL_law 204 = .ok (.if_icmp .eq 579, 3) := by decide +kernel
theorem dL_law_207 : decode cL_law 207 = .ok (.iconst 0, 1) := by decide +kernel
theorem dL_law_208 : decode cL_law 208 = .ok (.ireturn, 1) := by decide +kernel
theorem dL_law_209 : decode cL_law 209 = .ok (.aload_n 1, 1) := by decide +kernel
theorem dL_law_210 : decode cL_law 210 = .ok (.aload_n 0, 1) := by decide +kernel
theorem dL_law_211 : decode cL_law 211 = .ok (.iload 4, 2) := by decide +kernel
theorem dL_law_213 : decode cL_law 213 = .ok (.iconst 1, 1) := by decide +kernel
theorem dL_law_214 : decode cL_law 214 = .ok (.iadd, 1) := by decide +kernel
theorem dL_law_215 : decode cL_law 215 = .ok (.iaload, 1) := by decide +kernel
theorem dL_law_216 : decode cL_law 216 = .ok (.aload_n 0, 1) := by decide +kernel
theorem dL_law_217 : decode cL_law 217 = .ok (.iload 4, 2) := by decide +kernel
theorem dL_law_219 : decode cL_law 219 = .ok (.iconst 2, 1) := by decide +kernel
theorem dL_law_220 : decode cL_law 220 = .ok (.iadd, 1) := by decide +kernel
theorem dL_law_221 : decode cL_law 221 = .ok (.iaload, 1) := by decide +kernel
theorem dL_law_222 : decode cL_law 222 = .ok (.invokevirtual 26, 3) := by decide +kernel
theorem dL_law_225 : decode cL_law 225 = .ok (.aload_n 2, 1) := by decide +kernel
theorem dL_law_226 : decode cL_law 226 = .ok (.aload_n 0, 1) := by decide +kernel
theorem dL_law_227 : decode cL_law 227 = .ok (.iload 4, 2) := by decide +kernel
theorem dL_law_229 : decode cL_law 229 = .ok (.iconst 1, 1) := by decide +kernel
theorem dL_law_230 : decode cL_law 230 = .ok (.iadd, 1) := by decide +kernel
theorem dL_law_231 : decode cL_law 231 = .ok (.iaload, 1) := by decide +kernel
theorem dL_law_232 : decode cL_law 232 = .ok (.aload_n 0, 1) := by decide +kernel
theorem dL_law_233 : decode cL_law 233 = .ok (.iload 4, 2) := by decide +kernel
theorem dL_law_235 : decode cL_law 235 = .ok (.iconst 2, 1) := by decide +kernel
theorem dL_law_236 : decode cL_law 236 = .ok (.iadd, 1) := by decide +kernel
theorem dL_law_237 : decode cL_law 237 = .ok (.iaload, 1) := by decide +kernel
theorem dL_law_238 : decode cL_law 238 = .ok (.invokevirtual 30, 3) := by decide +kernel
theorem dL_law_241 : decode cL_law 241 = .ok (.lcmp, 1) := by decide +kernel
theorem dL_law_242 : decode cL_law 242 = .ok (.ifCond .eq 541, 3) := by decide +kernel
theorem dL_law_245 : decode cL_law 245 = .ok (.iconst 0, 1) := by decide +kernel
theorem dL_law_246 : decode cL_law 246 = .ok (.ireturn, 1) := by decide +kernel
theorem dL_law_247 : decode cL_law 247 = .ok (.aload_n 1, 1) := by decide +kernel
theorem dL_law_248 : decode cL_law 248 = .ok (.aload_n 0, 1) := by decide +kernel
theorem dL_law_249 : decode cL_law 249 = .ok (.iload 4, 2) := by decide +kernel
theorem dL_law_251 : decode cL_law 251 = .ok (.iconst 1, 1) := by decide +kernel
theorem dL_law_252 : decode cL_law 252 = .ok (.iadd, 1) := by decide +kernel
theorem dL_law_253 : decode cL_law 253 = .ok (.iaload, 1) := by decide +kernel
theorem dL_law_254 : decode cL_law 254 = .ok (.i2l, 1) := by decide +kernel
theorem dL_law_255 : decode cL_law 255 = .ok (.bipush 32, 2) := by decide +kernel
theorem dL_law_257 : decode cL_law 257 = .ok (.lshl, 1) := by decide +kernel
theorem dL_law_258 : decode cL_law 258 = .ok (.aload_n 0, 1) := by decide +kernel
theorem dL_law_259 : decode cL_law 259 = .ok (.iload 4, 2) := by decide +kernel
theorem dL_law_261 : decode cL_law 261 = .ok (.iconst 2, 1) := by decide +kernel
theorem dL_law_262 : decode cL_law 262 = .ok (.iadd, 1) := by decide +kernel
theorem dL_law_263 : decode cL_law 263 = .ok (.iaload, 1) := by decide +kernel
theorem dL_law_264 : decode cL_law 264 = .ok (.i2l, 1) := by decide +kernel
theorem dL_law_265 : decode cL_law 265 = .ok (.ldc2_w 19, 3) := by decide +kernel
theorem dL_law_268 : decode cL_law 268 = .ok (.land, 1) := by decide +kernel
theorem dL_law_269 : decode cL_law 269 = .ok (.lor, 1) := by decide +kernel
theorem dL_law_270 : decode cL_law 270 = .ok (.aload_n 0, 1) := by decide +kernel
theorem dL_law_271 : decode cL_law 271 = .ok (.iload 4, 2) := by decide +kernel
theorem dL_law_273 : decode cL_law 273 = .ok (.iconst 3, 1) := by decide +kernel
theorem dL_law_274 : decode cL_law 274 = .ok (.iadd, 1) := by decide +kernel
theorem dL_law_275 : decode cL_law 275 = .ok (.iaload, 1) := by decide +kernel
theorem dL_law_276 : decode cL_law 276 = .ok (.aload_n 3, 1) := by decide +kernel
theorem dL_law_277 : decode cL_law 277 = .ok (.invokestatic 31, 3) := by decide +kernel
theorem dL_law_280 : decode cL_law 280 = .ok (.istore 5, 2) := by decide +kernel
theorem dL_law_282 : decode cL_law 282 = .ok (.aload_n 2, 1) := by decide +kernel
theorem dL_law_283 : decode cL_law 283 = .ok (.aload_n 0, 1) := by decide +kernel
theorem dL_law_284 : decode cL_law 284 = .ok (.iload 4, 2) := by decide +kernel
theorem dL_law_286 : decode cL_law 286 = .ok (.iconst 1, 1) := by decide +kernel
theorem dL_law_287 : decode cL_law 287 = .ok (.iadd, 1) := by decide +kernel
theorem dL_law_288 : decode cL_law 288 = .ok (.iaload, 1) := by decide +kernel
theorem dL_law_289 : decode cL_law 289 = .ok (.i2l, 1) := by decide +kernel
theorem dL_law_290 : decode cL_law 290 = .ok (.bipush 32, 2) := by decide +kernel
theorem dL_law_292 : decode cL_law 292 = .ok (.lshl, 1) := by decide +kernel
theorem dL_law_293 : decode cL_law 293 = .ok (.aload_n 0, 1) := by decide +kernel
theorem dL_law_294 : decode cL_law 294 = .ok (.iload 4, 2) := by decide +kernel
theorem dL_law_296 : decode cL_law 296 = .ok (.iconst 2, 1) := by decide +kernel
theorem dL_law_297 : decode cL_law 297 = .ok (.iadd, 1) := by decide +kernel
theorem dL_law_298 : decode cL_law 298 = .ok (.iaload, 1) := by decide +kernel
theorem dL_law_299 : decode cL_law 299 = .ok (.i2l, 1) := by decide +kernel
theorem dL_law_300 : decode cL_law 300 = .ok (.ldc2_w 19, 3) := by decide +kernel
theorem dL_law_303 : decode cL_law 303 = .ok (.land, 1) := by decide +kernel
theorem dL_law_304 : decode cL_law 304 = .ok (.lor, 1) := by decide +kernel
theorem dL_law_305 : decode cL_law 305 = .ok (.aload_n 0, 1) := by decide +kernel
theorem dL_law_306 : decode cL_law 306 = .ok (.iload 4, 2) := by decide +kernel
theorem dL_law_308 : decode cL_law 308 = .ok (.iconst 3, 1) := by decide +kernel
theorem dL_law_309 : decode cL_law 309 = .ok (.iadd, 1) := by decide +kernel
theorem dL_law_310 : decode cL_law 310 = .ok (.iaload, 1) := by decide +kernel
theorem dL_law_311 : decode cL_law 311 = .ok (.invokevirtual 36, 3) := by decide +kernel
theorem dL_law_314 : decode cL_law 314 = .ok (.istore 6, 2) := by decide +kernel
theorem dL_law_316 : decode cL_law 316 = .ok (.aload_n 2, 1) := by decide +kernel
theorem dL_law_317 : decode cL_law 317 = .ok (.invokevirtual 37, 3) := by decide +kernel
theorem dL_law_320 : decode cL_law 320 = .ok (.iload 5, 2) := by decide +kernel
theorem dL_law_322 : decode cL_law 322 = .ok (.if_icmp .eq 5, 3) := by decide +kernel
theorem dL_law_325 : decode cL_law 325 = .ok (.iconst 0, 1) := by decide +kernel
theorem dL_law_326 : decode cL_law 326 = .ok (.ireturn, 1) := by decide +kernel
theorem dL_law_327 : decode cL_law 327 = .ok (.iload 5, 2) := by decide +kernel
theorem dL_law_329 : decode cL_law 329 = .ok (.ifCond .ne 15, 3) := by decide +kernel
theorem dL_law_332 : decode cL_law 332 = .ok (.aload_n 3, 1) := by decide +kernel
theorem dL_law_333 : decode cL_law 333 = .ok (.iconst 0, 1) := by decide +kernel
theorem dL_law_334 : decode cL_law 334 = .ok (.laload, 1) := by decide +kernel
theorem dL_law_335 : decode cL_law 335 = .ok (.iload 6, 2) := by decide +kernel
theorem dL_law_337 : decode cL_law 337 = .ok (.i2l, 1) := by decide +kernel
theorem dL_law_338 : decode cL_law 338 = .ok (.lcmp, 1) := by decide +kernel
theorem dL_law_339 : decode cL_law 339 = .ok (.ifCond .eq 5, 3) := by decide +kernel
theorem dL_law_342 : decode cL_law 342 = .ok (.iconst 0, 1) := by decide +kernel
theorem dL_law_343 : decode cL_law 343 = .ok (.ireturn, 1) := by decide +kernel
theorem dL_law_344 : decode cL_law 344 = .ok (.goto 439, 3) := by decide +kernel
theorem dL_law_347 : decode cL_law 347 = .ok (.aload_n 1, 1) := by decide +kernel
theorem dL_law_348 : decode cL_law 348 = .ok (.aload_n 0, 1) := by decide +kernel
theorem dL_law_349 : decode cL_law 349 = .ok (.iload 4, 2) := by decide +kernel
theorem dL_law_351 : decode cL_law 351 = .ok (.iconst 1, 1) := by decide +kernel
theorem dL_law_352 : decode cL_law 352 = .ok (.iadd, 1) := by decide +kernel
theorem dL_law_353 : decode cL_law 353 = .ok (.iaload, 1) := by decide +kernel
theorem dL_law_354 : decode cL_law 354 = .ok (.invokevirtual 41, 3) := by decide +kernel
theorem dL_law_357 : decode cL_law 357 = .ok (.aload_n 2, 1) := by decide +kernel
theorem dL_law_358 : decode cL_law 358 = .ok (.aload_n 0, 1) := by decide +kernel
theorem dL_law_359 : decode cL_law 359 = .ok (.iload 4, 2) := by decide +kernel
theorem dL_law_361 : decode cL_law 361 = .ok (.iconst 1, 1) := by decide +kernel
theorem dL_law_362 : decode cL_law 362 = .ok (.iadd, 1) := by decide +kernel
theorem dL_law_363 : decode cL_law 363 = .ok (.iaload, 1) := by decide +kernel
theorem dL_law_364 : decode cL_law 364 = .ok (.invokevirtual 45, 3) := by decide +kernel
theorem dL_law_367 : decode cL_law 367 = .ok (.goto 416, 3) := by decide +kernel
theorem dL_law_370 : decode cL_law 370 = .ok (.aload_n 1, 1) := by decide +kernel
theorem dL_law_371 : decode cL_law 371 = .ok (.invokevirtual 46, 3) := by decide +kernel
theorem dL_law_374 : decode cL_law 374 = .ok (.aload_n 2, 1) := by decide +kernel
theorem dL_law_375 : decode cL_law 375 = .ok (.invokevirtual 50, 3) := by decide +kernel
theorem dL_law_378 : decode cL_law 378 = .ok (.lcmp, 1) := by decide +kernel
theorem dL_law_379 : decode cL_law 379 = .ok (.ifCond .eq 404, 3) := by decide +kernel
theorem dL_law_382 : decode cL_law 382 = .ok (.iconst 0, 1) := by decide +kernel
theorem dL_law_383 : decode cL_law 383 = .ok (.ireturn, 1) := by decide +kernel
theorem dL_law_384 : decode cL_law 384 = .ok (.aload_n 1, 1) := by decide +kernel
theorem dL_law_385 : decode cL_law 385 = .ok (.aload_n 0, 1) := by decide +kernel
theorem dL_law_386 : decode cL_law 386 = .ok (.iload 4, 2) := by decide +kernel
theorem dL_law_388 : decode cL_law 388 = .ok (.iconst 1, 1) := by decide +kernel
theorem dL_law_389 : decode cL_law 389 = .ok (.iadd, 1) := by decide +kernel
theorem dL_law_390 : decode cL_law 390 = .ok (.iaload, 1) := by decide +kernel
theorem dL_law_391 : decode cL_law 391 = .ok (.i2l, 1) := by decide +kernel
theorem dL_law_392 : decode cL_law 392 = .ok (.bipush 32, 2) := by decide +kernel
theorem dL_law_394 : decode cL_law 394 = .ok (.lshl, 1) := by decide +kernel
theorem dL_law_395 : decode cL_law 395 = .ok (.aload_n 0, 1) := by decide +kernel
theorem dL_law_396 : decode cL_law 396 = .ok (.iload 4, 2) := by decide +kernel
theorem dL_law_398 : decode cL_law 398 = .ok (.iconst 2, 1) := by decide +kernel
theorem dL_law_399 : decode cL_law 399 = .ok (.iadd, 1) := by decide +kernel
theorem dL_law_400 : decode cL_law 400 = .ok (.iaload, 1) := by decide +kernel
theorem dL_law_401 : decode cL_law 401 = .ok (.i2l, 1) := by decide +kernel
theorem dL_law_402 : decode cL_law 402 = .ok (.ldc2_w 19, 3) := by decide +kernel
theorem dL_law_405 : decode cL_law 405 = .ok (.land, 1) := by decide +kernel
theorem dL_law_406 : decode cL_law 406 = .ok (.lor, 1) := by decide +kernel
theorem dL_law_407 : decode cL_law 407 = .ok (.aload_n 0, 1) := by decide +kernel
theorem dL_law_408 : decode cL_law 408 = .ok (.iload 4, 2) := by decide +kernel
theorem dL_law_410 : decode cL_law 410 = .ok (.iconst 3, 1) := by decide +kernel
theorem dL_law_411 : decode cL_law 411 = .ok (.iadd, 1) := by decide +kernel
theorem dL_law_412 : decode cL_law 412 = .ok (.iaload, 1) := by decide +kernel
theorem dL_law_413 : decode cL_law 413 = .ok (.i2l, 1) := by decide +kernel
theorem dL_law_414 : decode cL_law 414 = .ok (.bipush 32, 2) := by decide +kernel
theorem dL_law_416 : decode cL_law 416 = .ok (.lshl, 1) := by decide +kernel
theorem dL_law_417 : decode cL_law 417 = .ok (.aload_n 0, 1) := by decide +kernel
theorem dL_law_418 : decode cL_law 418 = .ok (.iload 4, 2) := by decide +kernel
theorem dL_law_420 : decode cL_law 420 = .ok (.iconst 4, 1) := by decide +kernel
theorem dL_law_421 : decode cL_law 421 = .ok (.iadd, 1) := by decide +kernel
theorem dL_law_422 : decode cL_law 422 = .ok (.iaload, 1) := by decide +kernel
theorem dL_law_423 : decode cL_law 423 = .ok (.i2l, 1) := by decide +kernel
theorem dL_law_424 : decode cL_law 424 = .ok (.ldc2_w 19, 3) := by decide +kernel
theorem dL_law_427 : decode cL_law 427 = .ok (.land, 1) := by decide +kernel
theorem dL_law_428 : decode cL_law 428 = .ok (.lor, 1) := by decide +kernel
theorem dL_law_429 : decode cL_law 429 = .ok (.invokevirtual 51, 3) := by decide +kernel
theorem dL_law_432 : decode cL_law 432 = .ok (.aload_n 2, 1) := by decide +kernel
theorem dL_law_433 : decode cL_law 433 = .ok (.aload_n 0, 1) := by decide +kernel
theorem dL_law_434 : decode cL_law 434 = .ok (.iload 4, 2) := by decide +kernel
theorem dL_law_436 : decode cL_law 436 = .ok (.iconst 1, 1) := by decide +kernel
theorem dL_law_437 : decode cL_law 437 = .ok (.iadd, 1) := by decide +kernel
theorem dL_law_438 : decode cL_law 438 = .ok (.iaload, 1) := by decide +kernel
theorem dL_law_439 : decode cL_law 439 = .ok (.i2l, 1) := by decide +kernel
theorem dL_law_440 : decode cL_law 440 = .ok (.bipush 32, 2) := by decide +kernel
theorem dL_law_442 : decode cL_law 442 = .ok (.lshl, 1) := by decide +kernel
theorem dL_law_443 : decode cL_law 443 = .ok (.aload_n 0, 1) := by decide +kernel
theorem dL_law_444 : decode cL_law 444 = .ok (.iload 4, 2) := by decide +kernel
theorem dL_law_446 : decode cL_law 446 = .ok (.iconst 2, 1) := by decide +kernel
theorem dL_law_447 : decode cL_law 447 = .ok (.iadd, 1) := by decide +kernel
theorem dL_law_448 : decode cL_law 448 = .ok (.iaload, 1) := by decide +kernel
theorem dL_law_449 : decode cL_law 449 = .ok (.i2l, 1) := by decide +kernel
theorem dL_law_450 : decode cL_law 450 = .ok (.ldc2_w 19, 3) := by decide +kernel
theorem dL_law_453 : decode cL_law 453 = .ok (.land, 1) := by decide +kernel
theorem dL_law_454 : decode cL_law 454 = .ok (.lor, 1) := by decide +kernel
theorem dL_law_455 : decode cL_law 455 = .ok (.aload_n 0, 1) := by decide +kernel
theorem dL_law_456 : decode cL_law 456 = .ok (.iload 4, 2) := by decide +kernel
theorem dL_law_458 : decode cL_law 458 = .ok (.iconst 3, 1) := by decide +kernel
theorem dL_law_459 : decode cL_law 459 = .ok (.iadd, 1) := by decide +kernel
theorem dL_law_460 : decode cL_law 460 = .ok (.iaload, 1) := by decide +kernel
theorem dL_law_461 : decode cL_law 461 = .ok (.i2l, 1) := by decide +kernel
theorem dL_law_462 : decode cL_law 462 = .ok (.bipush 32, 2) := by decide +kernel
theorem dL_law_464 : decode cL_law 464 = .ok (.lshl, 1) := by decide +kernel
theorem dL_law_465 : decode cL_law 465 = .ok (.aload_n 0, 1) := by decide +kernel
theorem dL_law_466 : decode cL_law 466 = .ok (.iload 4, 2) := by decide +kernel
theorem dL_law_468 : decode cL_law 468 = .ok (.iconst 4, 1) := by decide +kernel
theorem dL_law_469 : decode cL_law 469 = .ok (.iadd, 1) := by decide +kernel
theorem dL_law_470 : decode cL_law 470 = .ok (.iaload, 1) := by decide +kernel
theorem dL_law_471 : decode cL_law 471 = .ok (.i2l, 1) := by decide +kernel
theorem dL_law_472 : decode cL_law 472 = .ok (.ldc2_w 19, 3) := by decide +kernel
theorem dL_law_475 : decode cL_law 475 = .ok (.land, 1) := by decide +kernel
theorem dL_law_476 : decode cL_law 476 = .ok (.lor, 1) := by decide +kernel
theorem dL_law_477 : decode cL_law 477 = .ok (.invokevirtual 55, 3) := by decide +kernel
theorem dL_law_480 : decode cL_law 480 = .ok (.if_icmp .eq 303, 3) := by decide +kernel
theorem dL_law_483 : decode cL_law 483 = .ok (.iconst 0, 1) := by decide +kernel
theorem dL_law_484 : decode cL_law 484 = .ok (.ireturn, 1) := by decide +kernel
theorem dL_law_485 : decode cL_law 485 = .ok (.aload_n 1, 1) := by decide +kernel
theorem dL_law_486 : decode cL_law 486 = .ok (.aload_n 0, 1) := by decide +kernel
theorem dL_law_487 : decode cL_law 487 = .ok (.iload 4, 2) := by decide +kernel
theorem dL_law_489 : decode cL_law 489 = .ok (.iconst 1, 1) := by decide +kernel
theorem dL_law_490 : decode cL_law 490 = .ok (.iadd, 1) := by decide +kernel
theorem dL_law_491 : decode cL_law 491 = .ok (.iaload, 1) := by decide +kernel
theorem dL_law_492 : decode cL_law 492 = .ok (.i2l, 1) := by decide +kernel
theorem dL_law_493 : decode cL_law 493 = .ok (.bipush 32, 2) := by decide +kernel
theorem dL_law_495 : decode cL_law 495 = .ok (.lshl, 1) := by decide +kernel
theorem dL_law_496 : decode cL_law 496 = .ok (.aload_n 0, 1) := by decide +kernel
theorem dL_law_497 : decode cL_law 497 = .ok (.iload 4, 2) := by decide +kernel
theorem dL_law_499 : decode cL_law 499 = .ok (.iconst 2, 1) := by decide +kernel
theorem dL_law_500 : decode cL_law 500 = .ok (.iadd, 1) := by decide +kernel
theorem dL_law_501 : decode cL_law 501 = .ok (.iaload, 1) := by decide +kernel
theorem dL_law_502 : decode cL_law 502 = .ok (.i2l, 1) := by decide +kernel
theorem dL_law_503 : decode cL_law 503 = .ok (.ldc2_w 19, 3) := by decide +kernel
theorem dL_law_506 : decode cL_law 506 = .ok (.land, 1) := by decide +kernel
theorem dL_law_507 : decode cL_law 507 = .ok (.lor, 1) := by decide +kernel
theorem dL_law_508 : decode cL_law 508 = .ok (.invokevirtual 56, 3) := by decide +kernel
theorem dL_law_511 : decode cL_law 511 = .ok (.aload_n 2, 1) := by decide +kernel
theorem dL_law_512 : decode cL_law 512 = .ok (.aload_n 0, 1) := by decide +kernel
theorem dL_law_513 : decode cL_law 513 = .ok (.iload 4, 2) := by decide +kernel
theorem dL_law_515 : decode cL_law 515 = .ok (.iconst 1, 1) := by decide +kernel
theorem dL_law_516 : decode cL_law 516 = .ok (.iadd, 1) := by decide +kernel
theorem dL_law_517 : decode cL_law 517 = .ok (.iaload, 1) := by decide +kernel
theorem dL_law_518 : decode cL_law 518 = .ok (.i2l, 1) := by decide +kernel
theorem dL_law_519 : decode cL_law 519 = .ok (.bipush 32, 2) := by decide +kernel
theorem dL_law_521 : decode cL_law 521 = .ok (.lshl, 1) := by decide +kernel
theorem dL_law_522 : decode cL_law 522 = .ok (.aload_n 0, 1) := by decide +kernel
theorem dL_law_523 : decode cL_law 523 = .ok (.iload 4, 2) := by decide +kernel
theorem dL_law_525 : decode cL_law 525 = .ok (.iconst 2, 1) := by decide +kernel
theorem dL_law_526 : decode cL_law 526 = .ok (.iadd, 1) := by decide +kernel
theorem dL_law_527 : decode cL_law 527 = .ok (.iaload, 1) := by decide +kernel
theorem dL_law_528 : decode cL_law 528 = .ok (.i2l, 1) := by decide +kernel
theorem dL_law_529 : decode cL_law 529 = .ok (.ldc2_w 19, 3) := by decide +kernel
theorem dL_law_532 : decode cL_law 532 = .ok (.land, 1) := by decide +kernel
theorem dL_law_533 : decode cL_law 533 = .ok (.lor, 1) := by decide +kernel
theorem dL_law_534 : decode cL_law 534 = .ok (.invokevirtual 60, 3) := by decide +kernel
theorem dL_law_537 : decode cL_law 537 = .ok (.if_icmp .eq 246, 3) := by decide +kernel
theorem dL_law_540 : decode cL_law 540 = .ok (.iconst 0, 1) := by decide +kernel
theorem dL_law_541 : decode cL_law 541 = .ok (.ireturn, 1) := by decide +kernel
theorem dL_law_542 : decode cL_law 542 = .ok (.aload_n 1, 1) := by decide +kernel
theorem dL_law_543 : decode cL_law 543 = .ok (.aload_n 0, 1) := by decide +kernel
theorem dL_law_544 : decode cL_law 544 = .ok (.iload 4, 2) := by decide +kernel
theorem dL_law_546 : decode cL_law 546 = .ok (.iconst 1, 1) := by decide +kernel
theorem dL_law_547 : decode cL_law 547 = .ok (.iadd, 1) := by decide +kernel
theorem dL_law_548 : decode cL_law 548 = .ok (.iaload, 1) := by decide +kernel
theorem dL_law_549 : decode cL_law 549 = .ok (.i2l, 1) := by decide +kernel
theorem dL_law_550 : decode cL_law 550 = .ok (.bipush 32, 2) := by decide +kernel
theorem dL_law_552 : decode cL_law 552 = .ok (.lshl, 1) := by decide +kernel
theorem dL_law_553 : decode cL_law 553 = .ok (.aload_n 0, 1) := by decide +kernel
theorem dL_law_554 : decode cL_law 554 = .ok (.iload 4, 2) := by decide +kernel
theorem dL_law_556 : decode cL_law 556 = .ok (.iconst 2, 1) := by decide +kernel
theorem dL_law_557 : decode cL_law 557 = .ok (.iadd, 1) := by decide +kernel
theorem dL_law_558 : decode cL_law 558 = .ok (.iaload, 1) := by decide +kernel
theorem dL_law_559 : decode cL_law 559 = .ok (.i2l, 1) := by decide +kernel
theorem dL_law_560 : decode cL_law 560 = .ok (.ldc2_w 19, 3) := by decide +kernel
theorem dL_law_563 : decode cL_law 563 = .ok (.land, 1) := by decide +kernel
theorem dL_law_564 : decode cL_law 564 = .ok (.lor, 1) := by decide +kernel
theorem dL_law_565 : decode cL_law 565 = .ok (.invokevirtual 61, 3) := by decide +kernel
theorem dL_law_568 : decode cL_law 568 = .ok (.aload_n 2, 1) := by decide +kernel
theorem dL_law_569 : decode cL_law 569 = .ok (.aload_n 0, 1) := by decide +kernel
theorem dL_law_570 : decode cL_law 570 = .ok (.iload 4, 2) := by decide +kernel
theorem dL_law_572 : decode cL_law 572 = .ok (.iconst 1, 1) := by decide +kernel
theorem dL_law_573 : decode cL_law 573 = .ok (.iadd, 1) := by decide +kernel
theorem dL_law_574 : decode cL_law 574 = .ok (.iaload, 1) := by decide +kernel
theorem dL_law_575 : decode cL_law 575 = .ok (.i2l, 1) := by decide +kernel
theorem dL_law_576 : decode cL_law 576 = .ok (.bipush 32, 2) := by decide +kernel
theorem dL_law_578 : decode cL_law 578 = .ok (.lshl, 1) := by decide +kernel
theorem dL_law_579 : decode cL_law 579 = .ok (.aload_n 0, 1) := by decide +kernel
theorem dL_law_580 : decode cL_law 580 = .ok (.iload 4, 2) := by decide +kernel
theorem dL_law_582 : decode cL_law 582 = .ok (.iconst 2, 1) := by decide +kernel
theorem dL_law_583 : decode cL_law 583 = .ok (.iadd, 1) := by decide +kernel
theorem dL_law_584 : decode cL_law 584 = .ok (.iaload, 1) := by decide +kernel
theorem dL_law_585 : decode cL_law 585 = .ok (.i2l, 1) := by decide +kernel
theorem dL_law_586 : decode cL_law 586 = .ok (.ldc2_w 19, 3) := by decide +kernel
theorem dL_law_589 : decode cL_law 589 = .ok (.land, 1) := by decide +kernel
theorem dL_law_590 : decode cL_law 590 = .ok (.lor, 1) := by decide +kernel
theorem dL_law_591 : decode cL_law 591 = .ok (.invokevirtual 65, 3) := by decide +kernel
theorem dL_law_594 : decode cL_law 594 = .ok (.lcmp, 1) := by decide +kernel
theorem dL_law_595 : decode cL_law 595 = .ok (.ifCond .eq 188, 3) := by decide +kernel
theorem dL_law_598 : decode cL_law 598 = .ok (.iconst 0, 1) := by decide +kernel
theorem dL_law_599 : decode cL_law 599 = .ok (.ireturn, 1) := by decide +kernel
theorem dL_law_600 : decode cL_law 600 = .ok (.aload_n 1, 1) := by decide +kernel
theorem dL_law_601 : decode cL_law 601 = .ok (.aload_n 0, 1) := by decide +kernel
theorem dL_law_602 : decode cL_law 602 = .ok (.iload 4, 2) := by decide +kernel
theorem dL_law_604 : decode cL_law 604 = .ok (.iconst 1, 1) := by decide +kernel
theorem dL_law_605 : decode cL_law 605 = .ok (.iadd, 1) := by decide +kernel
theorem dL_law_606 : decode cL_law 606 = .ok (.iaload, 1) := by decide +kernel
theorem dL_law_607 : decode cL_law 607 = .ok (.aload_n 0, 1) := by decide +kernel
theorem dL_law_608 : decode cL_law 608 = .ok (.iload 4, 2) := by decide +kernel
theorem dL_law_610 : decode cL_law 610 = .ok (.iconst 2, 1) := by decide +kernel
theorem dL_law_611 : decode cL_law 611 = .ok (.iadd, 1) := by decide +kernel
theorem dL_law_612 : decode cL_law 612 = .ok (.iaload, 1) := by decide +kernel
theorem dL_law_613 : decode cL_law 613 = .ok (.i2l, 1) := by decide +kernel
theorem dL_law_614 : decode cL_law 614 = .ok (.bipush 32, 2) := by decide +kernel
theorem dL_law_616 : decode cL_law 616 = .ok (.lshl, 1) := by decide +kernel
theorem dL_law_617 : decode cL_law 617 = .ok (.aload_n 0, 1) := by decide +kernel
theorem dL_law_618 : decode cL_law 618 = .ok (.iload 4, 2) := by decide +kernel
theorem dL_law_620 : decode cL_law 620 = .ok (.iconst 3, 1) := by decide +kernel
theorem dL_law_621 : decode cL_law 621 = .ok (.iadd, 1) := by decide +kernel
theorem dL_law_622 : decode cL_law 622 = .ok (.iaload, 1) := by decide +kernel
theorem dL_law_623 : decode cL_law 623 = .ok (.i2l, 1) := by decide +kernel
theorem dL_law_624 : decode cL_law 624 = .ok (.ldc2_w 19, 3) := by decide +kernel
theorem dL_law_627 : decode cL_law 627 = .ok (.land, 1) := by decide +kernel
theorem dL_law_628 : decode cL_law 628 = .ok (.lor, 1) := by decide +kernel
theorem dL_law_629 : decode cL_law 629 = .ok (.aload_n 0, 1) := by decide +kernel
theorem dL_law_630 : decode cL_law 630 = .ok (.iload 4, 2) := by decide +kernel
theorem dL_law_632 : decode cL_law 632 = .ok (.iconst 4, 1) := by decide +kernel
theorem dL_law_633 : decode cL_law 633 = .ok (.iadd, 1) := by decide +kernel
theorem dL_law_634 : decode cL_law 634 = .ok (.iaload, 1) := by decide +kernel
theorem dL_law_635 : decode cL_law 635 = .ok (.i2l, 1) := by decide +kernel
theorem dL_law_636 : decode cL_law 636 = .ok (.bipush 32, 2) := by decide +kernel
theorem dL_law_638 : decode cL_law 638 = .ok (.lshl, 1) := by decide +kernel
theorem dL_law_639 : decode cL_law 639 = .ok (.aload_n 0, 1) := by decide +kernel
theorem dL_law_640 : decode cL_law 640 = .ok (.iload 4, 2) := by decide +kernel
theorem dL_law_642 : decode cL_law 642 = .ok (.iconst 5, 1) := by decide +kernel
theorem dL_law_643 : decode cL_law 643 = .ok (.iadd, 1) := by decide +kernel
theorem dL_law_644 : decode cL_law 644 = .ok (.iaload, 1) := by decide +kernel
theorem dL_law_645 : decode cL_law 645 = .ok (.i2l, 1) := by decide +kernel
theorem dL_law_646 : decode cL_law 646 = .ok (.ldc2_w 19, 3) := by decide +kernel
theorem dL_law_649 : decode cL_law 649 = .ok (.land, 1) := by decide +kernel
theorem dL_law_650 : decode cL_law 650 = .ok (.lor, 1) := by decide +kernel
theorem dL_law_651 : decode cL_law 651 = .ok (.invokevirtual 66, 3) := by decide +kernel
theorem dL_law_654 : decode cL_law 654 = .ok (.aload_n 2, 1) := by decide +kernel
theorem dL_law_655 : decode cL_law 655 = .ok (.aload_n 0, 1) := by decide +kernel
theorem dL_law_656 : decode cL_law 656 = .ok (.iload 4, 2) := by decide +kernel
theorem dL_law_658 : decode cL_law 658 = .ok (.iconst 1, 1) := by decide +kernel
theorem dL_law_659 : decode cL_law 659 = .ok (.iadd, 1) := by decide +kernel
theorem dL_law_660 : decode cL_law 660 = .ok (.iaload, 1) := by decide +kernel
theorem dL_law_661 : decode cL_law 661 = .ok (.aload_n 0, 1) := by decide +kernel
theorem dL_law_662 : decode cL_law 662 = .ok (.iload 4, 2) := by decide +kernel
theorem dL_law_664 : decode cL_law 664 = .ok (.iconst 2, 1) := by decide +kernel
theorem dL_law_665 : decode cL_law 665 = .ok (.iadd, 1) := by decide +kernel
theorem dL_law_666 : decode cL_law 666 = .ok (.iaload, 1) := by decide +kernel
theorem dL_law_667 : decode cL_law 667 = .ok (.i2l, 1) := by decide +kernel
theorem dL_law_668 : decode cL_law 668 = .ok (.bipush 32, 2) := by decide +kernel
theorem dL_law_670 : decode cL_law 670 = .ok (.lshl, 1) := by decide +kernel
theorem dL_law_671 : decode cL_law 671 = .ok (.aload_n 0, 1) := by decide +kernel
theorem dL_law_672 : decode cL_law 672 = .ok (.iload 4, 2) := by decide +kernel
theorem dL_law_674 : decode cL_law 674 = .ok (.iconst 3, 1) := by decide +kernel
theorem dL_law_675 : decode cL_law 675 = .ok (.iadd, 1) := by decide +kernel
theorem dL_law_676 : decode cL_law 676 = .ok (.iaload, 1) := by decide +kernel
theorem dL_law_677 : decode cL_law 677 = .ok (.i2l, 1) := by decide +kernel
theorem dL_law_678 : decode cL_law 678 = .ok (.ldc2_w 19, 3) := by decide +kernel
theorem dL_law_681 : decode cL_law 681 = .ok (.land, 1) := by decide +kernel
theorem dL_law_682 : decode cL_law 682 = .ok (.lor, 1) := by decide +kernel
theorem dL_law_683 : decode cL_law 683 = .ok (.aload_n 0, 1) := by decide +kernel
theorem dL_law_684 : decode cL_law 684 = .ok (.iload 4, 2) := by decide +kernel
theorem dL_law_686 : decode cL_law 686 = .ok (.iconst 4, 1) := by decide +kernel
theorem dL_law_687 : decode cL_law 687 = .ok (.iadd, 1) := by decide +kernel
theorem dL_law_688 : decode cL_law 688 = .ok (.iaload, 1) := by decide +kernel
theorem dL_law_689 : decode cL_law 689 = .ok (.i2l, 1) := by decide +kernel
theorem dL_law_690 : decode cL_law 690 = .ok (.bipush 32, 2) := by decide +kernel
theorem dL_law_692 : decode cL_law 692 = .ok (.lshl, 1) := by decide +kernel
theorem dL_law_693 : decode cL_law 693 = .ok (.aload_n 0, 1) := by decide +kernel
theorem dL_law_694 : decode cL_law 694 = .ok (.iload 4, 2) := by decide +kernel
theorem dL_law_696 : decode cL_law 696 = .ok (.iconst 5, 1) := by decide +kernel
theorem dL_law_697 : decode cL_law 697 = .ok (.iadd, 1) := by decide +kernel
theorem dL_law_698 : decode cL_law 698 = .ok (.iaload, 1) := by decide +kernel
theorem dL_law_699 : decode cL_law 699 = .ok (.i2l, 1) := by decide +kernel
theorem dL_law_700 : decode cL_law 700 = .ok (.ldc2_w 19, 3) := by decide +kernel
theorem dL_law_703 : decode cL_law 703 = .ok (.land, 1) := by decide +kernel
theorem dL_law_704 : decode cL_law 704 = .ok (.lor, 1) := by decide +kernel
theorem dL_law_705 : decode cL_law 705 = .ok (.invokevirtual 69, 3) := by decide +kernel
theorem dL_law_708 : decode cL_law 708 = .ok (.if_icmp .eq 75, 3) := by decide +kernel
theorem dL_law_711 : decode cL_law 711 = .ok (.iconst 0, 1) := by decide +kernel
theorem dL_law_712 : decode cL_law 712 = .ok (.ireturn, 1) := by decide +kernel
theorem dL_law_713 : decode cL_law 713 = .ok (.aload_n 1, 1) := by decide +kernel
theorem dL_law_714 : decode cL_law 714 = .ok (.aload_n 0, 1) := by decide +kernel
theorem dL_law_715 : decode cL_law 715 = .ok (.iload 4, 2) := by decide +kernel
theorem dL_law_717 : decode cL_law 717 = .ok (.iconst 1, 1) := by decide +kernel
theorem dL_law_718 : decode cL_law 718 = .ok (.iadd, 1) := by decide +kernel
theorem dL_law_719 : decode cL_law 719 = .ok (.iaload, 1) := by decide +kernel
theorem dL_law_720 : decode cL_law 720 = .ok (.aload_n 0, 1) := by decide +kernel
theorem dL_law_721 : decode cL_law 721 = .ok (.iload 4, 2) := by decide +kernel
theorem dL_law_723 : decode cL_law 723 = .ok (.iconst 2, 1) := by decide +kernel
theorem dL_law_724 : decode cL_law 724 = .ok (.iadd, 1) := by decide +kernel
theorem dL_law_725 : decode cL_law 725 = .ok (.iaload, 1) := by decide +kernel
theorem dL_law_726 : decode cL_law 726 = .ok (.i2l, 1) := by decide +kernel
theorem dL_law_727 : decode cL_law 727 = .ok (.bipush 32, 2) := by decide +kernel
theorem dL_law_729 : decode cL_law 729 = .ok (.lshl, 1) := by decide +kernel
theorem dL_law_730 : decode cL_law 730 = .ok (.aload_n 0, 1) := by decide +kernel
theorem dL_law_731 : decode cL_law 731 = .ok (.iload 4, 2) := by decide +kernel
theorem dL_law_733 : decode cL_law 733 = .ok (.iconst 3, 1) := by decide +kernel
theorem dL_law_734 : decode cL_law 734 = .ok (.iadd, 1) := by decide +kernel
theorem dL_law_735 : decode cL_law 735 = .ok (.iaload, 1) := by decide +kernel
theorem dL_law_736 : decode cL_law 736 = .ok (.i2l, 1) := by decide +kernel
theorem dL_law_737 : decode cL_law 737 = .ok (.ldc2_w 19, 3) := by decide +kernel
theorem dL_law_740 : decode cL_law 740 = .ok (.land, 1) := by decide +kernel
theorem dL_law_741 : decode cL_law 741 = .ok (.lor, 1) := by decide +kernel
theorem dL_law_742 : decode cL_law 742 = .ok (.invokevirtual 70, 3) := by decide +kernel
theorem dL_law_745 : decode cL_law 745 = .ok (.aload_n 2, 1) := by decide +kernel
theorem dL_law_746 : decode cL_law 746 = .ok (.aload_n 0, 1) := by decide +kernel
theorem dL_law_747 : decode cL_law 747 = .ok (.iload 4, 2) := by decide +kernel
theorem dL_law_749 : decode cL_law 749 = .ok (.iconst 1, 1) := by decide +kernel
theorem dL_law_750 : decode cL_law 750 = .ok (.iadd, 1) := by decide +kernel
theorem dL_law_751 : decode cL_law 751 = .ok (.iaload, 1) := by decide +kernel
theorem dL_law_752 : decode cL_law 752 = .ok (.aload_n 0, 1) := by decide +kernel
theorem dL_law_753 : decode cL_law 753 = .ok (.iload 4, 2) := by decide +kernel
theorem dL_law_755 : decode cL_law 755 = .ok (.iconst 2, 1) := by decide +kernel
theorem dL_law_756 : decode cL_law 756 = .ok (.iadd, 1) := by decide +kernel
theorem dL_law_757 : decode cL_law 757 = .ok (.iaload, 1) := by decide +kernel
theorem dL_law_758 : decode cL_law 758 = .ok (.i2l, 1) := by decide +kernel
theorem dL_law_759 : decode cL_law 759 = .ok (.bipush 32, 2) := by decide +kernel
theorem dL_law_761 : decode cL_law 761 = .ok (.lshl, 1) := by decide +kernel
theorem dL_law_762 : decode cL_law 762 = .ok (.aload_n 0, 1) := by decide +kernel
theorem dL_law_763 : decode cL_law 763 = .ok (.iload 4, 2) := by decide +kernel
theorem dL_law_765 : decode cL_law 765 = .ok (.iconst 3, 1) := by decide +kernel
theorem dL_law_766 : decode cL_law 766 = .ok (.iadd, 1) := by decide +kernel
theorem dL_law_767 : decode cL_law 767 = .ok (.iaload, 1) := by decide +kernel
theorem dL_law_768 : decode cL_law 768 = .ok (.i2l, 1) := by decide +kernel
theorem dL_law_769 : decode cL_law 769 = .ok (.ldc2_w 19, 3) := by decide +kernel
theorem dL_law_772 : decode cL_law 772 = .ok (.land, 1) := by decide +kernel
theorem dL_law_773 : decode cL_law 773 = .ok (.lor, 1) := by decide +kernel
theorem dL_law_774 : decode cL_law 774 = .ok (.invokevirtual 74, 3) := by decide +kernel
theorem dL_law_777 : decode cL_law 777 = .ok (.lcmp, 1) := by decide +kernel
theorem dL_law_778 : decode cL_law 778 = .ok (.ifCond .eq 5, 3) := by decide +kernel
theorem dL_law_781 : decode cL_law 781 = .ok (.iconst 0, 1) := by decide +kernel
theorem dL_law_782 : decode cL_law 782 = .ok (.ireturn, 1) := by decide +kernel
theorem dL_law_783 : decode cL_law 783 = .ok (.iinc 4 6, 3) := by decide +kernel
theorem dL_law_786 : decode cL_law 786 = .ok (.goto (-763), 3) := by decide +kernel
theorem dL_law_789 : decode cL_law 789 = .ok (.iconst 1, 1) := by decide +kernel
theorem dL_law_790 : decode cL_law 790 = .ok (.ireturn, 1) := by decide +kernel
end
section
/-! my own rows: preconditions of one form for every method, calls that only read, calls that write, loops -/
def zB (r : Int32) (P : Prop) : Prop := (r = 1 ∧ P) ∨ (r = 0 ∧ ¬ P)
theorem zB_ne {r : Int32} {P : Prop} (h : zB r P) (h0 : ¬ r = 0) : P := by
  rcases h with ⟨-, h⟩ | ⟨h, -⟩
  · exact h
  · exact absurd h h0
theorem zB_eq {r : Int32} {P : Prop} (h : zB r P) (h0 : r = 0) : ¬ P := by
  rcases h with ⟨h, -⟩ | ⟨-, h⟩
  · rw [h] at h0; exact absurd h0 (by decide)
  · exact h
theorem zB_t {P : Prop} (h : P) : zB 1 P := Or.inl ⟨rfl, h⟩
theorem zB_f {P : Prop} (h : ¬ P) : zB 0 P := Or.inr ⟨rfl, h⟩
theorem zB_iff {r : Int32} {P Q : Prop} (h : zB r P) (e : P ↔ Q) : zB r Q := by
  rcases h with ⟨h, g⟩ | ⟨h, g⟩
  · exact Or.inl ⟨h, e.mp g⟩
  · exact Or.inr ⟨h, fun q => g (e.mpr q)⟩
/-- the links inside the nest -/
def zNest : List Cond := [.methodLinkNest RX6 9 yX1_init RX6, .methodLinkNest RX6 18 yX0_init RX6, .methodLinkNest RX6 25 yX3_init RX6, .methodLinkNest RX6 32 yX4_init RX6, .methodLinkNest RX6 39 yX5_init RX6, .methodLinkNest RX2 44 yX6_isService RX6, .methodLinkNest RX3 19 yX6_serialOf RX6, .methodLinkNest RX2 31 yX6_serviceOf RX6, .methodLinkNest RX2 35 yX6_serialOf RX6]
def zNw (U : State) : Prop := ∀ w ∈ zNest, va_Nw w U
theorem zNw_warm {s U : State} (hW : s.WarmedH U.vm) (h : zNw s) : zNw U := by
  intro w hw
  have h0 := h w hw
  simp only [zNest, List.mem_cons, List.not_mem_nil, or_false] at hw
  rcases hw with rfl | rfl | rfl | rfl | rfl | rfl | rfl | rfl | rfl <;> exact va_Nw.warmM hW h0
theorem zNw_same {u U : State} (hv : u.vm = U.vm) (h : zNw u) : zNw U := by
  intro w hw
  have h0 := h w hw
  simp only [zNest, List.mem_cons, List.not_mem_nil, or_false] at hw
  rcases hw with rfl | rfl | rfl | rfl | rfl | rfl | rfl | rfl | rfl <;> exact va_Nw.same rfl hv h0
/-- the weights, the letters -/
def zWt (j : Nat) : Int32 := ([3, 8, 5, 12, 7, 20, 11, 25, 1] : List Int32).getD j 0
def zLt (j : Nat) : Int32 := ([48, 49, 50, 51, 52, 53, 54, 55, 56, 57, 65, 66, 67, 68, 69, 70, 71, 72, 74, 75, 76, 77, 78, 80, 81, 82, 83, 84, 85, 86, 87] : List Int32).getD j 0
/-- addresses that the start gives: the weights, the letters' String, its bytes, the message -/
abbrev zG : Type := Nat × Nat × Nat × Nat
def zS (z : zG) (A : Nat → Prop) (U : State) (H : Heap) : Prop :=
  va_Z "NumberRows2$Form" "WEIGHTS" "[I" (.ref z.1) A U H ∧ va_T .int z.1 9 (fun j => .int (zWt j)) A U H ∧
  va_Z "java/lang/String" "COMPACT_STRINGS" "Z" (.int 1) A U H ∧ va_Zq "jdk/internal/util/Preconditions" "SIOOBE_FORMATTER" "Ljava/util/function/BiFunction;" A U H ∧
  va_O "java/lang/String" z.2.1 A U H ∧ va_OF "java/lang/String" "coder" "B" (.int 0) z.2.1 A U H ∧ va_OF "java/lang/String" "value" "[B" (.ref z.2.2.1) z.2.1 A U H ∧ va_T .byte z.2.2.1 31 (fun j => .int (zLt j)) A U H ∧
  va_Zq "java/lang/Throwable" "UNASSIGNED_STACK" "[Ljava/lang/StackTraceElement;" A U H ∧ va_Zq "java/lang/Throwable" "SUPPRESSED_SENTINEL" "Ljava/util/List;" A U H
theorem zS.moved {z : zG} {A : Nat → Prop} {u U : State} {H : Heap} (hvm : u.vm.Alike U.vm) (h : zS z A u H) : zS z A U H := by
  obtain ⟨h1, h2, h3, h4, h5, h6, h7, h8, h9, h10⟩ := h
  exact ⟨h1.moved hvm, h2.moved hvm, h3.moved hvm, h4.moved hvm, h5.moved hvm, h6.moved hvm, h7.moved hvm, h8.moved hvm, h9.moved hvm, h10.moved hvm⟩
theorem zS.kept {z : zG} {A : Nat → Prop} {U : State} {H H1 : Heap} (h : zS z A U H) (hq : ∀ a : Nat, a < H.size → ¬ A a → H1[a]? = H[a]?) : zS z A U H1 := by
  obtain ⟨h1, h2, h3, h4, h5, h6, h7, h8, h9, h10⟩ := h
  exact ⟨h1.kept hq, h2.kept hq, h3.kept hq, h4.kept hq, h5.kept hq, h6.kept hq, h7.kept hq, h8.kept hq, h9.kept hq, h10.kept hq⟩
theorem zS.narrow {z : zG} {A B : Nat → Prop} {U : State} {H : Heap} (h : zS z A U H) (hAB : ∀ q, B q → A q) : zS z B U H := by
  obtain ⟨h1, h2, h3, h4, h5, h6, h7, h8, h9, h10⟩ := h
  exact ⟨h1.narrow hAB, h2.narrow hAB, h3.narrow hAB, h4.narrow hAB, h5.narrow hAB, h6.narrow hAB, h7.narrow hAB, h8.narrow hAB, h9.narrow hAB, h10.narrow hAB⟩
def zTx : String := "0123456789ABCDEFGHJKLMNPQRSTUVW"
def zMs : String := "a form has the letters 0 to 8"
def zC (z : zG) (A : Nat → Prop) (U : State) : Prop := zNw U ∧ vk_R "NumberRows2$Form" 11 zTx z.2.1 U ∧ vk_R "NumberRows2" 93 zMs z.2.2.2 U ∧ zS z A U U.heap
theorem zC.calling {z : zG} {A : Nat → Prop} {U : State} {g : JFrame} {mk : MethodId} {a : Array Value} (h : zC z A U) : zC z A (U.calling g mk a) := by
  obtain ⟨h1, h2, h3, h4⟩ := h
  exact ⟨zNw_same (u := U) rfl h1, vk_R.same (u := U) rfl h2, vk_R.same (u := U) rfl h3, zS.moved (u := U) (Vm.Alike.refl U.vm) h4⟩
theorem zC.call {z : zG} {A A1 : Nat → Prop} {s U : State} {H : Heap} {locs : List Loc} (h : zC z A s) (hS : va_S A s.heap H locs) (hW : s.WarmedH U.vm) (hU : U.heap = H) (hn : ∀ q, A1 q → A q) : zC z A1 U := by
  obtain ⟨h1, h2, h3, h4⟩ := h
  refine ⟨zNw_warm hW h1, vk_R.warm hW h2, vk_R.warm hW h3, ?_⟩
  rw [hU]
  exact ((h4.kept hS.2.1).moved hW.alike).narrow hn
def zPre (D : va_G) (z : zG) (av : List Value) (sz : Nat) (ws : va_W) (tys : List (ClassId × FieldType)) (A : Nat → Prop) : Array Value → State → Prop :=
  va_Pc av (fun U => U.heap.size = sz ∧ va_P D vwCl ws U.heap ∧ va_K D vwCl tys U ∧ va_D (fun _ => True) ws ∧ zC z A U)
theorem zPre_blind {D : va_G} {z : zG} {av : List Value} {sz : Nat} {ws : va_W} {tys : List (ClassId × FieldType)} {A : Nat → Prop} : FrameBlind (zPre D z av sz ws tys A) := by
  intro a U g mk q
  obtain ⟨q0, q1, qP, qK, qD, qC⟩ := q
  exact ⟨q0, q1, qP, va_K.moved (u := U) (U := U.calling g mk a) (Vm.Alike.refl U.vm) qK, qD, qC.calling⟩
/-- what a call must give: the callee's cells and array classes among the caller's -/
theorem zPre_mk {D : va_G} {z : zG} {av : List Value} {ws wc : va_W} {tys tc : List (ClassId × FieldType)} {A A1 A0 : Nat → Prop} {s : State} {H : Heap} {locs : List Loc} (hP : va_P D vwCl ws H) (hK : va_K D vwCl tys s) (hD : va_D A0 ws) (hC : zC z A s) (hS : va_S A s.heap H locs)
    (is : List Nat) (hn : va_nd is = true) (hi : is.map (fun i => ws[i]?) = wc.map some) (hf : is.filterMap (fun i => ws[i]?) = wc) (js : List Nat) (hj : js.filterMap (fun i => tys[i]?) = tc) (hA : ∀ q, A1 q → A q) :
    ∀ U : State, U.heap = H → s.WarmedH U.vm → zPre D z av H.size wc tc A1 av.toArray U :=
  fun U hU hW => ⟨rfl, by rw [hU], by rw [hU]; exact hP.sub is hf, va_K.moved hW.alike (hK.sub js hj), (hD.sub is hn hi).weaken (fun _ _ _ _ => trivial), hC.call hS hW hU hA⟩
theorem zro_free {A0 : Nat → Prop} {H0 H : Heap} {locs : List Loc} (hS : va_S A0 H0 H locs) (hA : ∀ q, H0.size ≤ q → A0 q) : ∀ q, va_A [] H.size q → A0 q := by
  intro q h
  rcases h with ⟨k, e, h⟩ | h
  · simp at h
  · exact hA q (Nat.le_trans hS.1 h)
theorem zro_keep {D : va_G} {cl : List vw_C} {ws : va_W} {H H1 : Heap} (hP : va_P D cl ws H) (hk : ∀ q : Nat, q < H.size → ¬ va_A [] H.size q → H1[q]? = H[q]?) : va_P D cl ws H1 :=
  hP.kept fun k q h => hk q.1 (hP k q h).lt fun z => by
    rcases z with ⟨k, e, z⟩ | z
    · simp at z
    · exact Nat.not_le.mpr ((hP _ q h).lt) z
section ZC
variable {p : Program} {l : Launch} {e : Env} {R : Room} {s : State} {m : MethodId} {args : Array Value} {below : List Frame} {meth : Method} {c : Code} {H : Heap} {locs : List Loc} {cells slots : Nat} {Q : State → Prop}
variable {pc : Nat} {ls : Array Slot} {rest st0 : List Value} {a : Array Value} {A0 : Nat → Prop} {H0 : Heap} {D : va_G} {ws : va_W}
abbrev zT : Unit → State → Prop := fun _ _ => True
theorem zRo_i {post : Int32 → Unit → Prop} (hr : va_Run p l e R s m args below meth c H locs cells slots 0 0 (F0 m pc ls st0) rest (va_Qi post zT (va_A [] H.size) a) (va_A [] H.size)) (hS : va_S A0 H0 H locs) (hA : ∀ q, H0.size ≤ q → A0 q) (hP : va_P D vwCl ws H)
    (kk : ∀ (r : Int32) (H1 : Heap) (locs1 : List Loc), post r () → va_P D vwCl ws H1 → va_S A0 H0 H1 locs1 → W p l e R s m args below meth c H1 locs1 cells slots Q (F0 m (pc + 3) ls (.int r :: rest))) : W p l e R s m args below meth c H locs cells slots Q (F0 m pc ls st0) :=
  va_calli hr hS (fun q _ h => zro_free hS hA q h) (zro_free hS hA) (fun r u t H1 locs1 ht hvm hw hB hz hk hS1 => kk r H1 locs1 hw (zro_keep hP hk) hS1)
theorem zRo_l {post : Int64 → Unit → Prop} (hr : va_Run p l e R s m args below meth c H locs cells slots 0 0 (F0 m pc ls st0) rest (va_Ql post zT (va_A [] H.size) a) (va_A [] H.size)) (hS : va_S A0 H0 H locs) (hA : ∀ q, H0.size ≤ q → A0 q) (hP : va_P D vwCl ws H)
    (kk : ∀ (r : Int64) (H1 : Heap) (locs1 : List Loc), post r () → va_P D vwCl ws H1 → va_S A0 H0 H1 locs1 → W p l e R s m args below meth c H1 locs1 cells slots Q (F0 m (pc + 3) ls (.long r :: rest))) : W p l e R s m args below meth c H locs cells slots Q (F0 m pc ls st0) :=
  va_calll hr hS (fun q _ h => zro_free hS hA q h) (zro_free hS hA) (fun r u t H1 locs1 ht hvm hw hB hz hk hS1 => kk r H1 locs1 hw (zro_keep hP hk) hS1)
theorem zRo_v {post : Unit → Prop} (hr : va_Run p l e R s m args below meth c H locs cells slots 0 0 (F0 m pc ls st0) rest (va_Qv post zT (va_A [] H.size) a) (va_A [] H.size)) (hS : va_S A0 H0 H locs) (hA : ∀ q, H0.size ≤ q → A0 q) (hP : va_P D vwCl ws H)
    (kk : ∀ (H1 : Heap) (locs1 : List Loc), post () → va_P D vwCl ws H1 → va_S A0 H0 H1 locs1 → W p l e R s m args below meth c H1 locs1 cells slots Q (F0 m (pc + 3) ls rest)) : W p l e R s m args below meth c H locs cells slots Q (F0 m pc ls st0) :=
  va_callv hr hS (fun q _ h => zro_free hS hA q h) (zro_free hS hA) (fun u t H1 locs1 ht hvm hw hB hz hk hS1 => kk H1 locs1 hw (zro_keep hP hk) hS1)
/-- what a writing method leaves -/
def zAt {S : Type} (D : va_G) (tys : List (ClassId × FieldType)) (A : Nat → Prop) (wf : S → va_W) (u : S) (t : State) : Prop := va_P D vwCl (wf u) t.heap ∧ va_K D vwCl tys t ∧ va_D A (wf u)
variable {S : Type} {wf : S → va_W} {wc wr : va_W} {tc : List (ClassId × FieldType)}
theorem zMu_i {post : Int32 → S → Prop} (hr : va_Run p l e R s m args below meth c H locs cells slots 0 0 (F0 m pc ls st0) rest (va_Qi post (zAt D tc (va_A wc H.size) wf) (va_A wc H.size) a) (va_A wc H.size)) (hS : va_S A0 H0 H locs) (hA : ∀ q, H0.size ≤ q → A0 q) (hP : va_P D vwCl ws H) (hD : va_D A0 ws)
    (isC isR : List Nat) (hC : isC.map (fun i => ws[i]?) = wc.map some) (hR : isR.map (fun i => ws[i]?) = wr.map some) (hn : va_nd isR = true) (hdis : ∀ i ∈ isR, i ∉ isC)
    (kk : ∀ (r : Int32) (u : S) (H1 : Heap) (locs1 : List Loc), post r u → va_P D vwCl (wr ++ wf u) H1 → va_D A0 (wr ++ wf u) → va_S A0 H0 H1 locs1 → W p l e R s m args below meth c H1 locs1 cells slots Q (F0 m (pc + 3) ls (.int r :: rest))) : W p l e R s m args below meth c H locs cells slots Q (F0 m pc ls st0) := by
  have hFc := va_free (wc := wc) hD hS hA isC hC
  refine va_calli hr hS (fun q _ h => hFc q h) hFc (fun r u t H1 locs1 ht hvm hw hB hz hk hS1 => ?_)
  obtain ⟨hP1, hK1, hD1⟩ := hB
  rw [ht] at hP1
  obtain ⟨hP, hD⟩ := va_join hP hD isC isR hC hR hn hdis hk hFc hP1 hD1
  exact kk r u H1 locs1 hw hP hD hS1
theorem zMu_l {post : Int64 → S → Prop} (hr : va_Run p l e R s m args below meth c H locs cells slots 0 0 (F0 m pc ls st0) rest (va_Ql post (zAt D tc (va_A wc H.size) wf) (va_A wc H.size) a) (va_A wc H.size)) (hS : va_S A0 H0 H locs) (hA : ∀ q, H0.size ≤ q → A0 q) (hP : va_P D vwCl ws H) (hD : va_D A0 ws)
    (isC isR : List Nat) (hC : isC.map (fun i => ws[i]?) = wc.map some) (hR : isR.map (fun i => ws[i]?) = wr.map some) (hn : va_nd isR = true) (hdis : ∀ i ∈ isR, i ∉ isC)
    (kk : ∀ (r : Int64) (u : S) (H1 : Heap) (locs1 : List Loc), post r u → va_P D vwCl (wr ++ wf u) H1 → va_D A0 (wr ++ wf u) → va_S A0 H0 H1 locs1 → W p l e R s m args below meth c H1 locs1 cells slots Q (F0 m (pc + 3) ls (.long r :: rest))) : W p l e R s m args below meth c H locs cells slots Q (F0 m pc ls st0) := by
  have hFc := va_free (wc := wc) hD hS hA isC hC
  refine va_calll hr hS (fun q _ h => hFc q h) hFc (fun r u t H1 locs1 ht hvm hw hB hz hk hS1 => ?_)
  obtain ⟨hP1, hK1, hD1⟩ := hB
  rw [ht] at hP1
  obtain ⟨hP, hD⟩ := va_join hP hD isC isR hC hR hn hdis hk hFc hP1 hD1
  exact kk r u H1 locs1 hw hP hD hS1
theorem zMu_v {post : S → Prop} (hr : va_Run p l e R s m args below meth c H locs cells slots 0 0 (F0 m pc ls st0) rest (va_Qv post (zAt D tc (va_A wc H.size) wf) (va_A wc H.size) a) (va_A wc H.size)) (hS : va_S A0 H0 H locs) (hA : ∀ q, H0.size ≤ q → A0 q) (hP : va_P D vwCl ws H) (hD : va_D A0 ws)
    (isC isR : List Nat) (hC : isC.map (fun i => ws[i]?) = wc.map some) (hR : isR.map (fun i => ws[i]?) = wr.map some) (hn : va_nd isR = true) (hdis : ∀ i ∈ isR, i ∉ isC)
    (kk : ∀ (u : S) (H1 : Heap) (locs1 : List Loc), post u → va_P D vwCl (wr ++ wf u) H1 → va_D A0 (wr ++ wf u) → va_S A0 H0 H1 locs1 → W p l e R s m args below meth c H1 locs1 cells slots Q (F0 m (pc + 3) ls rest)) : W p l e R s m args below meth c H locs cells slots Q (F0 m pc ls st0) := by
  have hFc := va_free (wc := wc) hD hS hA isC hC
  refine va_callv hr hS (fun q _ h => hFc q h) hFc (fun u t H1 locs1 ht hvm hw hB hz hk hS1 => ?_)
  obtain ⟨hP1, hK1, hD1⟩ := hB
  rw [ht] at hP1
  obtain ⟨hP, hD⟩ := va_join hP hD isC isR hC hR hn hdis hk hFc hP1 hD1
  exact kk u H1 locs1 hw hP hD hS1
/-- loops: a state x of the loop, a measure that falls; the world and the locals are functions of x -/
theorem zLoop {σ : Type} {nL head : Nat} {A1 : Nat → Prop} (μ : σ → Nat) (lv : σ → List (Nat × Value)) (wf : σ → va_W) (I : σ → Prop)
    (hstep : ∀ (x : σ) (H : Heap) (locs : List Loc) (ls : Array Slot), I x → va_P D vwCl (wf x) H → va_D A1 (wf x) → va_S A0 H0 H locs → lv_has ls nL (lv x) →
      (∀ (x' : σ) (H' : Heap) (locs' : List Loc) (ls' : Array Slot), μ x' < μ x → I x' → va_P D vwCl (wf x') H' → va_D A1 (wf x') → va_S A0 H0 H' locs' → lv_has ls' nL (lv x') → W p l e R s m args below meth c H' locs' cells slots Q (F0 m head ls' [])) →
      W p l e R s m args below meth c H locs cells slots Q (F0 m head ls []))
    (x : σ) (h : I x) (hP : va_P D vwCl (wf x) H) (hD : va_D A1 (wf x)) (hS : va_S A0 H0 H locs) (hl : lv_has ls nL (lv x)) : W p l e R s m args below meth c H locs cells slots Q (F0 m head ls []) := by
  have key : ∀ (n : Nat) (x : σ) (H : Heap) (locs : List Loc) (ls : Array Slot), μ x < n → I x → va_P D vwCl (wf x) H → va_D A1 (wf x) → va_S A0 H0 H locs → lv_has ls nL (lv x) → W p l e R s m args below meth c H locs cells slots Q (F0 m head ls []) := by
    intro n
    induction n with
    | zero => intro x H locs ls hn; exact absurd hn (Nat.not_lt_zero _)
    | succ n ih =>
      intro x H locs ls hn hI hP hD hS hl
      exact hstep x H locs ls hI hP hD hS hl (fun x' H' locs' ls' hm hI' hP' hD' hS' hl' => ih x' H' locs' ls' (by omega) hI' hP' hD' hS' hl')
  exact key _ x H locs ls (Nat.lt_succ_self _) h hP hD hS hl
end ZC
section ZA
variable {p : Program} {l : Launch} {e : Env} {R : Room} {s : State} {m : MethodId} {args : Array Value} {below : List Frame} {meth : Method} {c : Code} {H : Heap} {locs : List Loc} {cells slots : Nat} {Q : State → Prop}
variable {cc : ByteArray} {pc : Nat} {ls : Array Slot} {rest : List Value} {D : va_G} {cl : List vw_C} {A : Nat → Prop} {a : Nat} {tys : List (ClassId × FieldType)} {ws : va_W} {H0 : Heap}
theorem z_iald (hexec : p.tables.exec = Jvm.exec) (hb : c.code = cc) (hK : va_K D cl tys s) (hP : va_P D cl ws H) (q0 t0 : Nat) {cA : ClassId} {n : Nat} {f : Nat → Int32} (ha : ws[q0]? = some (a, .inl (cA, n, .inl f))) (ht : tys[t0]? = some (cA, .int)) {k : Nat} (hk : k < n) (hn : n < 2 ^ 31) (hdg : decode cc pc = .ok (.iaload, 1))
    (kk : W p l e R s m args below meth c H locs cells slots Q (F0 m (pc + 1) ls (.int (f k) :: rest))) : W p l e R s m args below meth c H locs cells slots Q (F0 m pc ls (.int (nI k) :: .ref a :: rest)) :=
  va_iald hexec hb hK hP q0 t0 ha ht (vp_in_nI hk hn) hdg (by rw [nI_clamp (Nat.lt_trans hk hn)]; exact kk)
theorem z_zald (hexec : p.tables.exec = Jvm.exec) (hb : c.code = cc) (hK : va_K D cl tys s) (hP : va_P D cl ws H) (q0 t0 : Nat) {cA : ClassId} {n : Nat} {f : Nat → Int32} (ha : ws[q0]? = some (a, .inl (cA, n, .inl f))) (ht : tys[t0]? = some (cA, .boolean)) {k : Nat} (hk : k < n) (hn : n < 2 ^ 31) (hdg : decode cc pc = .ok (.baload, 1))
    (kk : W p l e R s m args below meth c H locs cells slots Q (F0 m (pc + 1) ls (.int (f k) :: rest))) : W p l e R s m args below meth c H locs cells slots Q (F0 m pc ls (.int (nI k) :: .ref a :: rest)) :=
  va_zald hexec hb hK hP q0 t0 ha ht (vp_in_nI hk hn) hdg (by rw [nI_clamp (Nat.lt_trans hk hn)]; exact kk)
theorem z_lald (hexec : p.tables.exec = Jvm.exec) (hb : c.code = cc) (hK : va_K D cl tys s) (hP : va_P D cl ws H) (q0 t0 : Nat) {cA : ClassId} {n : Nat} {f : Nat → Int64} (ha : ws[q0]? = some (a, .inl (cA, n, .inr (.inl f)))) (ht : tys[t0]? = some (cA, .long)) {k : Nat} (hk : k < n) (hn : n < 2 ^ 31) (hdg : decode cc pc = .ok (.laload, 1))
    (kk : W p l e R s m args below meth c H locs cells slots Q (F0 m (pc + 1) ls (.long (f k) :: rest))) : W p l e R s m args below meth c H locs cells slots Q (F0 m pc ls (.int (nI k) :: .ref a :: rest)) :=
  va_lald hexec hb hK hP q0 t0 ha ht (vp_in_nI hk hn) hdg (by rw [nI_clamp (Nat.lt_trans hk hn)]; exact kk)
theorem z_iast (hexec : p.tables.exec = Jvm.exec) (hb : c.code = cc) (hK : va_K D cl tys s) (hP : va_P D cl ws H) (hD : va_D A ws) (hS : va_S A H0 H locs) (q0 t0 : Nat) {cA : ClassId} {n : Nat} {f : Nat → Int32} (ha : ws[q0]? = some (a, .inl (cA, n, .inl f))) (ht : tys[t0]? = some (cA, .int)) {k : Nat} {x : Int32} (hk : k < n) (hn : n < 2 ^ 31) (hdg : decode cc pc = .ok (.iastore, 1))
    (kk : ∀ (H1 : Heap) (locs1 : List Loc), va_P D cl (ws.set q0 (a, .inl (cA, n, .inl (upd f k x)))) H1 → va_D A (ws.set q0 (a, .inl (cA, n, .inl (upd f k x)))) → va_S A H0 H1 locs1 → W p l e R s m args below meth c H1 locs1 cells slots Q (F0 m (pc + 1) ls rest)) : W p l e R s m args below meth c H locs cells slots Q (F0 m pc ls (.int x :: .int (nI k) :: .ref a :: rest)) :=
  va_iast hexec hb hK hP hD hS q0 t0 ha ht (vp_in_nI hk hn) hdg (by rw [nI_clamp (Nat.lt_trans hk hn)]; exact kk)
theorem z_last (hexec : p.tables.exec = Jvm.exec) (hb : c.code = cc) (hK : va_K D cl tys s) (hP : va_P D cl ws H) (hD : va_D A ws) (hS : va_S A H0 H locs) (q0 t0 : Nat) {cA : ClassId} {n : Nat} {f : Nat → Int64} (ha : ws[q0]? = some (a, .inl (cA, n, .inr (.inl f)))) (ht : tys[t0]? = some (cA, .long)) {k : Nat} {x : Int64} (hk : k < n) (hn : n < 2 ^ 31) (hdg : decode cc pc = .ok (.lastore, 1))
    (kk : ∀ (H1 : Heap) (locs1 : List Loc), va_P D cl (ws.set q0 (a, .inl (cA, n, .inr (.inl (vp_updL f k x))))) H1 → va_D A (ws.set q0 (a, .inl (cA, n, .inr (.inl (vp_updL f k x))))) → va_S A H0 H1 locs1 → W p l e R s m args below meth c H1 locs1 cells slots Q (F0 m (pc + 1) ls rest)) : W p l e R s m args below meth c H locs cells slots Q (F0 m pc ls (.long x :: .int (nI k) :: .ref a :: rest)) :=
  va_last hexec hb hK hP hD hS q0 t0 ha ht (vp_in_nI hk hn) hdg (by rw [nI_clamp (Nat.lt_trans hk hn)]; exact kk)
theorem z_zast (hexec : p.tables.exec = Jvm.exec) (hb : c.code = cc) (hK : va_K D cl tys s) (hP : va_P D cl ws H) (hD : va_D A ws) (hS : va_S A H0 H locs) (q0 t0 : Nat) {cA : ClassId} {n : Nat} {f : Nat → Int32} (ha : ws[q0]? = some (a, .inl (cA, n, .inl f))) (ht : tys[t0]? = some (cA, .boolean)) {k : Nat} {x : Int32} (hk : k < n) (hn : n < 2 ^ 31) (hdg : decode cc pc = .ok (.bastore, 1))
    (kk : ∀ (H1 : Heap) (locs1 : List Loc), va_P D cl (ws.set q0 (a, .inl (cA, n, .inl (upd f k (vp_nar .boolean x))))) H1 → va_D A (ws.set q0 (a, .inl (cA, n, .inl (upd f k (vp_nar .boolean x))))) → va_S A H0 H1 locs1 → W p l e R s m args below meth c H1 locs1 cells slots Q (F0 m (pc + 1) ls rest)) : W p l e R s m args below meth c H locs cells slots Q (F0 m pc ls (.int x :: .int (nI k) :: .ref a :: rest)) :=
  va_zast hexec hb hK hP hD hS q0 t0 ha ht (vp_in_nI hk hn) hdg (by rw [nI_clamp (Nat.lt_trans hk hn)]; exact kk)
end ZA
end
section
/-! my own rows on numbers -/
theorem zl_lo (x : Int64) : -9223372036854775808 ≤ x.toInt := by have := Int64.le_toInt x; omega
theorem zl_hi (x : Int64) : x.toInt < 9223372036854775808 := by have := Int64.toInt_lt x; omega
theorem zi_lo (x : Int32) : -2147483648 ≤ x.toInt := by have := Int32.le_toInt x; omega
theorem zi_hi (x : Int32) : x.toInt < 2147483648 := by have := Int32.toInt_lt x; omega
theorem z_bm {v : Int} (h1 : -9223372036854775808 ≤ v) (h2 : v < 9223372036854775808) : v.bmod (2 ^ 64) = v := by
  rw [Int.bmod_def]; omega
theorem z_bm32 {v : Int} (h1 : -2147483648 ≤ v) (h2 : v < 2147483648) : v.bmod (2 ^ 32) = v := by
  rw [Int.bmod_def]; omega
theorem zl_add {x y : Int64} (h1 : -9223372036854775808 ≤ x.toInt + y.toInt) (h2 : x.toInt + y.toInt < 9223372036854775808) : (x + y).toInt = x.toInt + y.toInt := by
  rw [Int64.toInt_add]; exact z_bm h1 h2
theorem zl_sub {x y : Int64} (h1 : -9223372036854775808 ≤ x.toInt - y.toInt) (h2 : x.toInt - y.toInt < 9223372036854775808) : (x - y).toInt = x.toInt - y.toInt := by
  rw [Int64.toInt_sub]; exact z_bm h1 h2
theorem zl_mul {x y : Int64} (h1 : -9223372036854775808 ≤ x.toInt * y.toInt) (h2 : x.toInt * y.toInt < 9223372036854775808) : (x * y).toInt = x.toInt * y.toInt := by
  rw [Int64.toInt_mul]; exact z_bm h1 h2
theorem zl_le {x y : Int64} : x ≤ y ↔ x.toInt ≤ y.toInt := Int64.le_iff_toInt_le
theorem zl_lt {x y : Int64} : x < y ↔ x.toInt < y.toInt := Int64.lt_iff_toInt_lt
theorem zl_eq {x y : Int64} : x = y ↔ x.toInt = y.toInt := Int64.toInt_inj.symm
theorem zi_le {x y : Int32} : x ≤ y ↔ x.toInt ≤ y.toInt := Int32.le_iff_toInt_le
theorem zi_lt {x y : Int32} : x < y ↔ x.toInt < y.toInt := Int32.lt_iff_toInt_lt
theorem zi_eq {x y : Int32} : x = y ↔ x.toInt = y.toInt := Int32.toInt_inj.symm
theorem zi_add {x y : Int32} (h1 : -2147483648 ≤ x.toInt + y.toInt) (h2 : x.toInt + y.toInt < 2147483648) : (x + y).toInt = x.toInt + y.toInt := by
  rw [Int32.toInt_add]; exact z_bm32 h1 h2
theorem zi_sub {x y : Int32} (h1 : -2147483648 ≤ x.toInt - y.toInt) (h2 : x.toInt - y.toInt < 2147483648) : (x - y).toInt = x.toInt - y.toInt := by
  rw [Int32.toInt_sub]; exact z_bm32 h1 h2
theorem zi_mul {x y : Int32} (h1 : -2147483648 ≤ x.toInt * y.toInt) (h2 : x.toInt * y.toInt < 2147483648) : (x * y).toInt = x.toInt * y.toInt := by
  rw [Int32.toInt_mul]; exact z_bm32 h1 h2
theorem zl_div {x y : Int64} (h : 0 < y.toInt) : (x / y).toInt = x.toInt.tdiv y.toInt := by
  rw [Int64.toInt_div]
  have h3 := zl_lo x
  have h4 := zl_hi x
  have hn : (x.toInt.tdiv y.toInt).natAbs ≤ x.toInt.natAbs := by
    rw [Int.natAbs_tdiv]; exact Nat.div_le_self _ _
  by_cases hx : x.toInt = -9223372036854775808
  · by_cases hy : y.toInt = 1
    · rw [hy, Int.tdiv_one]; exact z_bm h3 h4
    · have h5 : (x.toInt.tdiv y.toInt).natAbs < x.toInt.natAbs := by
        rw [Int.natAbs_tdiv]
        exact Nat.div_lt_self (by omega) (by omega)
      exact z_bm (by omega) (by omega)
  · exact z_bm (by omega) (by omega)
/-- java's remainder -/
theorem zl_rem {x y : Int64} (h : 0 < y.toInt) : (x - x / y * y).toInt = x.toInt.tmod y.toInt := by
  have hd := zl_div (x := x) (y := y) h
  have hm := Int.mul_tdiv_add_tmod x.toInt y.toInt
  have h3 := zl_lo x
  have h4 := zl_hi x
  have h5 : (x.toInt.tmod y.toInt).natAbs ≤ x.toInt.natAbs := by
    rw [Int.natAbs_tmod]; exact Nat.mod_le _ _
  have hs : 0 ≤ x.toInt → 0 ≤ x.toInt.tmod y.toInt := fun q => Int.tmod_nonneg _ q
  have hs2 : x.toInt ≤ 0 → x.toInt.tmod y.toInt ≤ 0 := fun q => by
    have := Int.tmod_nonneg (a := -x.toInt) y.toInt (by omega)
    rw [Int.neg_tmod] at this; omega
  generalize hq : y.toInt * x.toInt.tdiv y.toInt = q at hm
  have e0 : (x / y).toInt * y.toInt = q := by rw [hd, Int.mul_comm]; exact hq
  have e1 : (x / y * y).toInt = q := by
    rw [zl_mul (by rw [e0]; omega) (by rw [e0]; omega)]; exact e0
  rw [zl_sub (by rw [e1]; omega) (by rw [e1]; omega), e1]; omega
theorem z_tmod_pos {a b : Int} (h : 0 ≤ a) : a.tmod b = a % b := by
  rw [Int.tmod_eq_emod_of_nonneg h]
theorem z_tdiv_pos {a b : Int} (h : 0 ≤ a) : a.tdiv b = a / b := by
  rw [Int.tdiv_eq_ediv_of_nonneg h]
theorem zi_l (x : Int32) : x.toInt64.toInt = x.toInt := Int32.toInt_toInt64 x
/-- how many places below n hold P -/
def zcnt (P : Nat → Bool) : Nat → Nat
  | 0 => 0
  | n + 1 => zcnt P n + (if P n then 1 else 0)
theorem zcnt_le (P : Nat → Bool) : ∀ n, zcnt P n ≤ n
  | 0 => Nat.le_refl 0
  | n + 1 => by have := zcnt_le P n; unfold zcnt; split <;> omega
theorem zcnt_mono {P Q : Nat → Bool} : ∀ {n : Nat}, (∀ j, j < n → P j = true → Q j = true) → zcnt P n ≤ zcnt Q n
  | 0, _ => Nat.le_refl 0
  | n + 1, h => by
    have h1 := zcnt_mono (n := n) (fun j hj => h j (by omega))
    have h2 := h n (by omega)
    unfold zcnt
    cases hp : P n
    · simp; omega
    · simp [h2 hp]; exact h1
theorem zcnt_lt {P Q : Nat → Bool} : ∀ {n j : Nat}, (∀ j, j < n → P j = true → Q j = true) → j < n → P j = false → Q j = true → zcnt P n < zcnt Q n
  | 0, _, _, hj, _, _ => absurd hj (Nat.not_lt_zero _)
  | n + 1, j, h, hj, hp, hq => by
    have h2 := h n (by omega)
    unfold zcnt
    by_cases hjn : j = n
    · subst hjn
      have h1 := zcnt_mono (n := j) (fun i hi => h i (by omega))
      simp [hp, hq]; omega
    · have h1 := zcnt_lt (n := n) (j := j) (fun i hi => h i (by omega)) (by omega) hp hq
      cases hpn : P n
      · simp; omega
      · simp [h2 hpn]; omega
theorem zcnt_all {P : Nat → Bool} : ∀ {n : Nat}, n ≤ zcnt P n → ∀ j, j < n → P j = true
  | 0, _, j, hj => absurd hj (Nat.not_lt_zero _)
  | n + 1, h, j, hj => by
    have h1 := zcnt_le P n
    unfold zcnt at h
    cases hpn : P n
    · simp [hpn] at h; omega
    · simp [hpn] at h
      by_cases hjn : j = n
      · rw [hjn]; exact hpn
      · exact zcnt_all (n := n) (by omega) j (by omega)
theorem zcnt_congr {P Q : Nat → Bool} : ∀ {n : Nat}, (∀ j, j < n → P j = Q j) → zcnt P n = zcnt Q n
  | 0, _ => rfl
  | n + 1, h => by unfold zcnt; rw [zcnt_congr (n := n) (fun j hj => h j (by omega)), h n (by omega)]
theorem zcnt_pos {P : Nat → Bool} : ∀ {n : Nat}, 0 < zcnt P n ↔ ∃ j, j < n ∧ P j = true
  | 0 => by simp [zcnt]
  | n + 1 => by
    have h := zcnt_pos (P := P) (n := n)
    unfold zcnt
    cases hp : P n
    · simp only [Bool.false_eq_true, if_false, Nat.add_zero, h]
      refine ⟨fun ⟨j, h1, h2⟩ => ⟨j, by omega, h2⟩, fun ⟨j, h1, h2⟩ => ⟨j, ?_, h2⟩⟩
      rcases Nat.lt_or_ge j n with q | q
      · exact q
      · rw [show j = n by omega, hp] at h2; cases h2
    · simp only [if_true]
      exact ⟨fun _ => ⟨n, by omega, hp⟩, fun _ => by omega⟩
section ZH
variable {p : Program} {l : Launch} {e : Env} {R : Room} {s : State} {m : MethodId} {args : Array Value} {below : List Frame} {meth : Method} {c : Code} {H : Heap} {cells slots : Nat} {Q : State → Prop}
theorem zNameH {D : va_G} {A : Nat → Prop} {ws : va_W} {g : JFrame} (k : ∀ (H : Heap) (locs : List Loc), va_P D vwCl ws H → va_S A s.heap H locs → W p l e R s m args below meth c H locs cells slots Q g) (hP : va_P D vwCl ws s.heap) (hS : va_S A s.heap s.heap []) : W p l e R s m args below meth c s.heap [] cells slots Q g := k _ _ hP hS
end ZH
end
section
/-! rows that are barred -/
def zBar (n : Nat) (bf bl : Nat → Int64) (x : Int64) : Prop := ∃ j, j < n ∧ bf j ≤ x ∧ x ≤ bl j
def zBeh (n : Nat) (bf bl : Nat → Int64) (p r : Int64) : Prop := (∃ j, j < n ∧ bf j ≤ p ∧ p ≤ bl j ∧ r = bl j + 1) ∨ ((∀ j, j < n → ¬ (bf j ≤ p ∧ p ≤ bl j)) ∧ r = p)
def zTop (n : Nat) (bl : Nat → Int64) : Prop := ∀ j, j < n → (bl j).toInt < 27512614111
/-- the least serial from p on that is not barred -/
def zFF (n : Nat) (bf bl : Nat → Int64) (p r : Int64) : Prop := p ≤ r ∧ ¬ zBar n bf bl r ∧ (∀ x, p ≤ x → x < r → zBar n bf bl x) ∧ (r = p ∨ r.toInt ≤ 27512614111)
def zFI (n : Nat) (bf bl : Nat → Int64) (p : Int64) (i : Nat) (f : Int64) : Prop := i ≤ n ∧ p ≤ f ∧ (∀ x, p ≤ x → x < f → zBar n bf bl x) ∧ (f = p ∨ f.toInt ≤ 27512614111) ∧ i ≤ zcnt (fun j => decide (bl j < f)) n
theorem zFI_0 {n : Nat} {bf bl : Nat → Int64} {p : Int64} : zFI n bf bl p 0 p :=
  ⟨Nat.zero_le _, zl_le.mpr (Int.le_refl _), fun x h1 h2 => by rw [zl_le] at h1; rw [zl_lt] at h2; omega, Or.inl rfl, Nat.zero_le _⟩
theorem zFI_done {n i : Nat} {bf bl : Nat → Int64} {p f r : Int64} (ht : zTop n bl) (h : zFI n bf bl p i f) (hr : zBeh n bf bl f r) (e : r = f) : zFF n bf bl p f := by
  obtain ⟨h1, h2, h3, h4, h5⟩ := h
  rcases hr with ⟨j, g1, g2, g3, g4⟩ | ⟨g1, g2⟩
  · exfalso
    have := ht j g1
    have e1 : (bl j + 1).toInt = (bl j).toInt + 1 := zl_add (by have := zl_lo (bl j); simp; omega) (by simp; omega)
    rw [e] at g4
    rw [zl_eq, e1] at g4
    rw [zl_le] at g3
    omega
  · exact ⟨h2, fun ⟨j, q1, q2⟩ => g1 j q1 q2, h3, h4⟩
theorem zFI_step {n i : Nat} {bf bl : Nat → Int64} {p f r : Int64} (ht : zTop n bl) (h : zFI n bf bl p i f) (hi : i < n) (hr : zBeh n bf bl f r) (e : ¬ r = f) : zFI n bf bl p (i + 1) r := by
  obtain ⟨h1, h2, h3, h4, h5⟩ := h
  rcases hr with ⟨j, g1, g2, g3, g4⟩ | ⟨g1, g2⟩
  · have hj := ht j g1
    have e1 : (bl j + 1).toInt = (bl j).toInt + 1 := zl_add (by have := zl_lo (bl j); simp; omega) (by simp; omega)
    have er : r.toInt = (bl j).toInt + 1 := by rw [g4, e1]
    rw [zl_le] at g2 g3 h2
    refine ⟨hi, zl_le.mpr (by omega), fun x q1 q2 => ?_, Or.inr (by omega), ?_⟩
    · by_cases hx : x < f
      · exact h3 x q1 hx
      · rw [zl_lt] at hx q2
        exact ⟨j, g1, zl_le.mpr (by omega), zl_le.mpr (by omega)⟩
    · have := zcnt_lt (P := fun j => decide (bl j < f)) (Q := fun j => decide (bl j < r)) (n := n) (j := j) (fun k hk q => by
        simp only [decide_eq_true_eq, zl_lt] at q ⊢; omega) g1 (by simp only [decide_eq_false_iff_not, zl_lt]; omega) (by simp only [decide_eq_true_eq, zl_lt]; omega)
      omega
  · exact absurd g2 e
theorem zFI_end {n i : Nat} {bf bl : Nat → Int64} {p f : Int64} (h : zFI n bf bl p i f) (hi : n ≤ i) : zFF n bf bl p f := by
  obtain ⟨h1, h2, h3, h4, h5⟩ := h
  refine ⟨h2, fun ⟨j, q1, q2, q3⟩ => ?_, h3, h4⟩
  have := zcnt_all (P := fun j => decide (bl j < f)) (n := n) (by omega) j q1
  simp only [decide_eq_true_eq, zl_lt] at this
  rw [zl_le] at q3
  omega

set_option maxHeartbeats 4000000 in
set_option maxRecDepth 100000 in
theorem cc_X0_isFull (l : Launch) (D : va_G) (z : zG) (sz : Nat) (h : Nat) (a1 : Nat) (a2 : Nat) (k1 : ClassId) (k2 : ClassId) (n : Nat) (bf : Nat → Int64) (bl : Nat → Int64) (hn : n ≤ 50) : Met l yX0_isFull wsX0_isFull ({ frames := 0, cells := 0, slots := 0, locals := 0 }) (zPre D z [.ref h] sz [(h, .inr (1, [.ref a1, .ref a2, .int (nI n)])), (a1, .inl (k1, 50, .inr (.inl bf))), (a2, .inl (k2, 50, .inr (.inl bl)))] [(k1, .long), (k2, .long)] (va_A [] sz)) (va_Qi (fun (r : Int32) (u : Unit) => zB r (50 ≤ n)) zT (va_A [] sz)) 0 0 (va_A [] sz) := by
  refine Met.ofW (cc := cX0_isFull) (maxL := 1) (ret := (some .boolean)) (by decide) rfl ?_
  intro p e s m args below meth c s₁ B hml hv
  obtain ⟨rfl, hsz, hP, hK, hD, hC⟩ := hv
  have hx := B.exec
  have hb := B.bytes
  have hr := B.returns
  have hts := atoms_spec (ws := wsX0_isFull) B.pre
  have hown : s.vm.findClass RX0 = some m.cls := findClass_of_methodNamed B.named
  have hlocks := B.notSynchronized
  subst hsz
  generalize hAe : va_A [] s.heap.size = A at hC ⊢
  have hA : ∀ q : Nat, s.heap.size ≤ q → A q := fun q h => by rw [← hAe]; exact Or.inr h
  have hS : va_S A s.heap s.heap [] := va_S.rf
  have hP : va_P D vwCl [(h, .inr (1, [.ref a1, .ref a2, .int (nI n)])), (a1, .inl (k1, 50, .inr (.inl bf))), (a2, .inl (k2, 50, .inr (.inl bl)))] s.heap := hP
  have hl := lv_entry ([.ref h]) (n := 1) (Nat.le_of_ble_eq_true rfl)
  rw [lg_entry_eq]
  generalize (lg_sl ([.ref h]) ++ List.replicate (1 - (lg_sl ([.ref h])).length) Slot.unset).toArray = ls at hl ⊢
  have hl : lv_has ls 1 [(0, .ref h)] := hl
  refine zNameH (D := D) (A := A) (ws := [(h, .inr (1, [.ref a1, .ref a2, .int (nI n)])), (a1, .inl (k1, 50, .inr (.inl bf))), (a2, .inl (k2, 50, .inr (.inl bl)))]) (fun H locs hP hS => ?_) hP hS
  have k_0 := hts (.fieldLink RX0 18 "NumberRows2$BarredRows" "count" "I") (by decide +kernel)
  have k_1 : ∀ w ∈ wsX00, w ∈ wsX0_isFull := by decide +kernel
  refine lv_aload_n hx hb dX0_isFull_0 rfl (lv_at hl 0 rfl) ?_
  refine va_get (D := D) (ci := 1) (v := .int (nI n)) (C := RX0) (T := TX0) (N := 3) hx hb hts k_1 hown hK hP 0 rfl rfl 2 (by decide) k_0 (fun _ h9 => h9) rfl dX0_isFull_1 ?_
  refine lv_bipush (v := 50) hx hb dX0_isFull_4 (by decide) ?_
  refine lv_icmp_lt (tgt := 13) hx hb dX0_isFull_6 (by decide) (fun c_6 => ?_) (fun c_6 => ?_)
  · have c_6 : n < 50 := (nI_ltI (a := n) (b := 50) (by omega) (by omega)).mp c_6
    refine lv_iconst (v := 0) hx hb dX0_isFull_13 (by decide) ?_
    exact W.zret (v := 0) hx hb hr rfl (fun t9 ht9 hW9 => ⟨⟨_, (), rfl, zB_f (by omega), trivial⟩, hS.F ht9⟩) hS.2.2 dX0_isFull_14
  · have c_6 : ¬ (n < 50) := fun q9 => c_6 ((nI_ltI (a := n) (b := 50) (by omega) (by omega)).mpr q9)
    refine lv_iconst (v := 1) hx hb dX0_isFull_9 (by decide) ?_
    refine lv_goto (tgt := 14) hx hb dX0_isFull_10 (by decide) ?_
    exact W.zret (v := 1) hx hb hr rfl (fun t9 ht9 hW9 => ⟨⟨_, (), rfl, zB_t (by omega), trivial⟩, hS.F ht9⟩) hS.2.2 dX0_isFull_14

set_option maxHeartbeats 4000000 in
set_option maxRecDepth 100000 in
theorem cc_X0_behindRowAt (l : Launch) (D : va_G) (z : zG) (sz : Nat) (h : Nat) (a1 : Nat) (a2 : Nat) (k1 : ClassId) (k2 : ClassId) (n : Nat) (bf : Nat → Int64) (bl : Nat → Int64) (p0 : Int64) (hn : n ≤ 50) : Met l yX0_behindRowAt wsX0_behindRowAt ({ frames := 0, cells := 0, slots := 0, locals := 0 }) (zPre D z [.ref h, .long p0] sz [(h, .inr (1, [.ref a1, .ref a2, .int (nI n)])), (a1, .inl (k1, 50, .inr (.inl bf))), (a2, .inl (k2, 50, .inr (.inl bl)))] [(k1, .long), (k2, .long)] (va_A [] sz)) (va_Ql (fun (r : Int64) (u : Unit) => zBeh n bf bl p0 r) zT (va_A [] sz)) 0 0 (va_A [] sz) := by
  refine Met.ofW (cc := cX0_behindRowAt) (maxL := 4) (ret := (some .long)) (by decide) rfl ?_
  intro p e s m args below meth c s₁ B hml hv
  obtain ⟨rfl, hsz, hP, hK, hD, hC⟩ := hv
  have hx := B.exec
  have hb := B.bytes
  have hr := B.returns
  have hts := atoms_spec (ws := wsX0_behindRowAt) B.pre
  have hown : s.vm.findClass RX0 = some m.cls := findClass_of_methodNamed B.named
  have hlocks := B.notSynchronized
  subst hsz
  generalize hAe : va_A [] s.heap.size = A at hC ⊢
  have hA : ∀ q : Nat, s.heap.size ≤ q → A q := fun q h => by rw [← hAe]; exact Or.inr h
  have hS : va_S A s.heap s.heap [] := va_S.rf
  have hP : va_P D vwCl [(h, .inr (1, [.ref a1, .ref a2, .int (nI n)])), (a1, .inl (k1, 50, .inr (.inl bf))), (a2, .inl (k2, 50, .inr (.inl bl)))] s.heap := hP
  have hl := lv_entry ([.ref h, .long p0]) (n := 4) (Nat.le_of_ble_eq_true rfl)
  rw [lg_entry_eq]
  generalize (lg_sl ([.ref h, .long p0]) ++ List.replicate (4 - (lg_sl ([.ref h, .long p0])).length) Slot.unset).toArray = ls at hl ⊢
  have hl : lv_has ls 4 [(0, .ref h), (1, .long p0)] := hl
  refine zNameH (D := D) (A := A) (ws := [(h, .inr (1, [.ref a1, .ref a2, .int (nI n)])), (a1, .inl (k1, 50, .inr (.inl bf))), (a2, .inl (k2, 50, .inr (.inl bl)))]) (fun H locs hP hS => ?_) hP hS
  have k_0 := hts (.fieldLink RX0 18 "NumberRows2$BarredRows" "count" "I") (by decide +kernel)
  have k_1 : ∀ w ∈ wsX00, w ∈ wsX0_behindRowAt := by decide +kernel
  have k_2 := hts (.fieldLink RX0 9 "NumberRows2$BarredRows" "firsts" "[J") (by decide +kernel)
  have k_3 := hts (.fieldLink RX0 15 "NumberRows2$BarredRows" "lasts" "[J") (by decide +kernel)
  refine lv_iconst (v := 0) hx hb dX0_behindRowAt_0 (by decide) ?_
  refine lv_istore_n (lv' := [(3, .int 0), (0, .ref h), (1, .long p0)]) hx hb dX0_behindRowAt_1 rfl hl (by decide) rfl (fun ls hl => ?_)
  refine zLoop (σ := Nat) (nL := 4) (μ := fun (i : Nat) => n - i) (lv := fun (i : Nat) => [(3, .int (nI i)), (0, .ref h), (1, .long p0)]) (wf := fun (i : Nat) => [(h, .inr (1, [.ref a1, .ref a2, .int (nI n)])), (a1, .inl (k1, 50, .inr (.inl bf))), (a2, .inl (k2, 50, .inr (.inl bl)))]) (I := fun (i : Nat) => i ≤ n ∧ ∀ j, j < i → ¬ (bf j ≤ p0 ∧ p0 ≤ bl j)) (fun x H locs ls hI hP hD hS hl ih => ?_) 0 ⟨Nat.zero_le _, fun j hj => absurd hj (Nat.not_lt_zero j)⟩ hP hD hS (lv_sub hl [0, 1, 2] rfl)
  obtain ⟨i, rfl⟩ : ∃ y9, y9 = x := ⟨_, rfl⟩
  have hI : i ≤ n ∧ ∀ j, j < i → ¬ (bf j ≤ p0 ∧ p0 ≤ bl j) := hI
  have hl : lv_has ls 4 [(3, .int (nI i)), (0, .ref h), (1, .long p0)] := hl
  have hP : va_P D vwCl [(h, .inr (1, [.ref a1, .ref a2, .int (nI n)])), (a1, .inl (k1, 50, .inr (.inl bf))), (a2, .inl (k2, 50, .inr (.inl bl)))] H := hP
  have hD : va_D (fun _ => True) [(h, .inr (1, [.ref a1, .ref a2, .int (nI n)])), (a1, .inl (k1, 50, .inr (.inl bf))), (a2, .inl (k2, 50, .inr (.inl bl)))] := hD
  refine lv_iload_n hx hb dX0_behindRowAt_2 rfl (lv_at hl 0 rfl) ?_
  refine lv_aload_n hx hb dX0_behindRowAt_3 rfl (lv_at hl 1 rfl) ?_
  refine va_get (D := D) (ci := 1) (v := .int (nI n)) (C := RX0) (T := TX0) (N := 3) hx hb hts k_1 hown hK hP 0 rfl rfl 2 (by decide) k_0 (fun _ h9 => h9) rfl dX0_behindRowAt_4 ?_
  refine lv_icmp_ge (tgt := 47) hx hb dX0_behindRowAt_7 (by decide) (fun c_7 => ?_) (fun c_7 => ?_)
  · have c_7 : n ≤ i := (nI_leI (a := n) (b := i) (by omega) (by omega)).mp c_7
    refine lv_lload_n hx hb dX0_behindRowAt_47 rfl (lv_at hl 2 rfl) ?_
    exact W.lret (v := p0) hx hb hr (fun t9 ht9 hW9 => ⟨⟨_, (), rfl, Or.inr ⟨fun j hj => hI.2 j (by omega), rfl⟩, trivial⟩, hS.F ht9⟩) hS.2.2 dX0_behindRowAt_48
  · have c_7 : ¬ (n ≤ i) := fun q9 => c_7 ((nI_leI (a := n) (b := i) (by omega) (by omega)).mpr q9)
    refine lv_aload_n hx hb dX0_behindRowAt_10 rfl (lv_at hl 1 rfl) ?_
    refine va_get (D := D) (ci := 1) (v := .ref a1) (C := RX0) (T := TX0) (N := 3) hx hb hts k_1 hown hK hP 0 rfl rfl 0 (by decide) k_2 (fun _ h9 => h9) rfl dX0_behindRowAt_11 ?_
    refine lv_iload_n hx hb dX0_behindRowAt_14 rfl (lv_at hl 0 rfl) ?_
    refine z_lald (k := i) hx hb hK hP 1 0 rfl rfl (by omega) (by decide) dX0_behindRowAt_15 ?_
    refine lv_lload_n hx hb dX0_behindRowAt_16 rfl (lv_at hl 2 rfl) ?_
    refine W.lcmp hx hb dX0_behindRowAt_17 ?_
    refine lv_if_gt (tgt := 41) hx hb dX0_behindRowAt_18 (by decide) (fun c_18 => ?_) (fun c_18 => ?_)
    · have c_18 : p0 < (bf i) := (lg_cmp_gt _ _).mp c_18
      refine lv_iinc (v := (nI (i + 1))) (lv' := [(3, .int (nI (i + 1))), (0, .ref h), (1, .long p0)]) hx hb dX0_behindRowAt_41 hl (k := 0) rfl (by first | exact nI_1 _ | rfl) (by decide) rfl (fun ls hl => ?_)
      refine lv_goto (tgt := 2) hx hb dX0_behindRowAt_44 (by decide) ?_
      exact ih (i + 1) _ _ _ (show n - (i + 1) < n - i from (by omega)) ⟨by omega, lt_s hI.2 (fun q => Int64.not_le.mpr c_18 q.1)⟩ hP hD hS (lv_sub hl [0, 1, 2] rfl)
    · have c_18 : ¬ (p0 < (bf i)) := fun q9 => c_18 ((lg_cmp_gt _ _).mpr q9)
      refine lv_lload_n hx hb dX0_behindRowAt_21 rfl (lv_at hl 2 rfl) ?_
      refine lv_aload_n hx hb dX0_behindRowAt_22 rfl (lv_at hl 1 rfl) ?_
      refine va_get (D := D) (ci := 1) (v := .ref a2) (C := RX0) (T := TX0) (N := 3) hx hb hts k_1 hown hK hP 0 rfl rfl 1 (by decide) k_3 (fun _ h9 => h9) rfl dX0_behindRowAt_23 ?_
      refine lv_iload_n hx hb dX0_behindRowAt_26 rfl (lv_at hl 0 rfl) ?_
      refine z_lald (k := i) hx hb hK hP 2 1 rfl rfl (by omega) (by decide) dX0_behindRowAt_27 ?_
      refine W.lcmp hx hb dX0_behindRowAt_28 ?_
      refine lv_if_gt (tgt := 41) hx hb dX0_behindRowAt_29 (by decide) (fun c_29 => ?_) (fun c_29 => ?_)
      · have c_29 : (bl i) < p0 := (lg_cmp_gt _ _).mp c_29
        refine lv_iinc (v := (nI (i + 1))) (lv' := [(3, .int (nI (i + 1))), (0, .ref h), (1, .long p0)]) hx hb dX0_behindRowAt_41 hl (k := 0) rfl (by first | exact nI_1 _ | rfl) (by decide) rfl (fun ls hl => ?_)
        refine lv_goto (tgt := 2) hx hb dX0_behindRowAt_44 (by decide) ?_
        exact ih (i + 1) _ _ _ (show n - (i + 1) < n - i from (by omega)) ⟨by omega, lt_s hI.2 (fun q => Int64.not_le.mpr c_29 q.2)⟩ hP hD hS (lv_sub hl [0, 1, 2] rfl)
      · have c_29 : ¬ ((bl i) < p0) := fun q9 => c_29 ((lg_cmp_gt _ _).mpr q9)
        refine lv_aload_n hx hb dX0_behindRowAt_32 rfl (lv_at hl 1 rfl) ?_
        refine va_get (D := D) (ci := 1) (v := .ref a2) (C := RX0) (T := TX0) (N := 3) hx hb hts k_1 hown hK hP 0 rfl rfl 1 (by decide) k_3 (fun _ h9 => h9) rfl dX0_behindRowAt_33 ?_
        refine lv_iload_n hx hb dX0_behindRowAt_36 rfl (lv_at hl 0 rfl) ?_
        refine z_lald (k := i) hx hb hK hP 2 1 rfl rfl (by omega) (by decide) dX0_behindRowAt_37 ?_
        refine lv_lconst (v := 1) hx hb dX0_behindRowAt_38 (by decide) ?_
        refine lv_ladd hx hb dX0_behindRowAt_39 ?_
        exact W.lret (v := ((bl i) + 1)) hx hb hr (fun t9 ht9 hW9 => ⟨⟨_, (), rfl, Or.inl ⟨i, by omega, Int64.not_lt.mp c_18, Int64.not_lt.mp c_29, rfl⟩, trivial⟩, hS.F ht9⟩) hS.2.2 dX0_behindRowAt_40

set_option maxHeartbeats 4000000 in
set_option maxRecDepth 100000 in
theorem cc_X0_firstFree (l : Launch) (D : va_G) (z : zG) (sz : Nat) (h : Nat) (a1 : Nat) (a2 : Nat) (k1 : ClassId) (k2 : ClassId) (n : Nat) (bf : Nat → Int64) (bl : Nat → Int64) (p0 : Int64) (hn : n ≤ 50) (ht : zTop n bl) : Met l yX0_firstFree wsX0_firstFree ({ frames := 1, cells := 0, slots := 0, locals := 23 }) (zPre D z [.ref h, .long p0] sz [(h, .inr (1, [.ref a1, .ref a2, .int (nI n)])), (a1, .inl (k1, 50, .inr (.inl bf))), (a2, .inl (k2, 50, .inr (.inl bl)))] [(k1, .long), (k2, .long)] (va_A [] sz)) (va_Ql (fun (r : Int64) (u : Unit) => zFF n bf bl p0 r) zT (va_A [] sz)) 0 0 (va_A [] sz) := by
  refine Met.ofW (cc := cX0_firstFree) (maxL := 8) (ret := (some .long)) (by decide) rfl ?_
  intro p e s m args below meth c s₁ B hml hv
  obtain ⟨rfl, hsz, hP, hK, hD, hC⟩ := hv
  have hx := B.exec
  have hb := B.bytes
  have hr := B.returns
  have hts := atoms_spec (ws := wsX0_firstFree) B.pre
  have hown : s.vm.findClass RX0 = some m.cls := findClass_of_methodNamed B.named
  have hlocks := B.notSynchronized
  subst hsz
  generalize hAe : va_A [] s.heap.size = A at hC ⊢
  have hA : ∀ q : Nat, s.heap.size ≤ q → A q := fun q h => by rw [← hAe]; exact Or.inr h
  have hS : va_S A s.heap s.heap [] := va_S.rf
  have hP : va_P D vwCl [(h, .inr (1, [.ref a1, .ref a2, .int (nI n)])), (a1, .inl (k1, 50, .inr (.inl bf))), (a2, .inl (k2, 50, .inr (.inl bl)))] s.heap := hP
  have hl := lv_entry ([.ref h, .long p0]) (n := 8) (Nat.le_of_ble_eq_true rfl)
  rw [lg_entry_eq]
  generalize (lg_sl ([.ref h, .long p0]) ++ List.replicate (8 - (lg_sl ([.ref h, .long p0])).length) Slot.unset).toArray = ls at hl ⊢
  have hl : lv_has ls 8 [(0, .ref h), (1, .long p0)] := hl
  refine zNameH (D := D) (A := A) (ws := [(h, .inr (1, [.ref a1, .ref a2, .int (nI n)])), (a1, .inl (k1, 50, .inr (.inl bf))), (a2, .inl (k2, 50, .inr (.inl bl)))]) (fun H locs hP hS => ?_) hP hS
  have k_0 := hts (.fieldLink RX0 18 "NumberRows2$BarredRows" "count" "I") (by decide +kernel)
  have k_1 : ∀ w ∈ wsX00, w ∈ wsX0_firstFree := by decide +kernel
  refine lv_lload_n hx hb dX0_firstFree_0 rfl (lv_at hl 1 rfl) ?_
  refine lv_lstore_n (lv' := [(3, .long p0), (0, .ref h), (1, .long p0)]) hx hb dX0_firstFree_1 rfl hl (by decide) rfl (fun ls hl => ?_)
  refine lv_iconst (v := 0) hx hb dX0_firstFree_2 (by decide) ?_
  refine lv_istore (lv' := [(5, .int 0), (3, .long p0), (0, .ref h), (1, .long p0)]) hx hb dX0_firstFree_3 hl (by decide) rfl (fun ls hl => ?_)
  refine zLoop (σ := Nat × Int64) (nL := 8) (μ := fun (x : Nat × Int64) => match x with | (i, f) => n - i) (lv := fun (x : Nat × Int64) => match x with | (i, f) => [(5, .int (nI i)), (3, .long f), (0, .ref h), (1, .long p0)]) (wf := fun (x : Nat × Int64) => match x with | (i, f) => [(h, .inr (1, [.ref a1, .ref a2, .int (nI n)])), (a1, .inl (k1, 50, .inr (.inl bf))), (a2, .inl (k2, 50, .inr (.inl bl)))]) (I := fun (x : Nat × Int64) => match x with | (i, f) => zFI n bf bl p0 i f) (fun x H locs ls hI hP hD hS hl ih => ?_) (0, p0) zFI_0 hP hD hS (lv_sub hl [0, 1, 2, 3] rfl)
  obtain ⟨i, f⟩ := x
  have hI : zFI n bf bl p0 i f := hI
  have hl : lv_has ls 8 [(5, .int (nI i)), (3, .long f), (0, .ref h), (1, .long p0)] := hl
  have hP : va_P D vwCl [(h, .inr (1, [.ref a1, .ref a2, .int (nI n)])), (a1, .inl (k1, 50, .inr (.inl bf))), (a2, .inl (k2, 50, .inr (.inl bl)))] H := hP
  have hD : va_D (fun _ => True) [(h, .inr (1, [.ref a1, .ref a2, .int (nI n)])), (a1, .inl (k1, 50, .inr (.inl bf))), (a2, .inl (k2, 50, .inr (.inl bl)))] := hD
  have hi := hI.1
  refine lv_iload hx hb dX0_firstFree_5 (lv_at hl 0 rfl) ?_
  refine lv_aload_n hx hb dX0_firstFree_7 rfl (lv_at hl 2 rfl) ?_
  refine va_get (D := D) (ci := 1) (v := .int (nI n)) (C := RX0) (T := TX0) (N := 3) hx hb hts k_1 hown hK hP 0 rfl rfl 2 (by decide) k_0 (fun _ h9 => h9) rfl dX0_firstFree_8 ?_
  refine lv_icmp_ge (tgt := 39) hx hb dX0_firstFree_11 (by decide) (fun c_11 => ?_) (fun c_11 => ?_)
  · have c_11 : n ≤ i := (nI_leI (a := n) (b := i) (by omega) (by omega)).mp c_11
    refine lv_lload_n hx hb dX0_firstFree_39 rfl (lv_at hl 1 rfl) ?_
    exact W.lret (v := f) hx hb hr (fun t9 ht9 hW9 => ⟨⟨_, (), rfl, zFI_end hI (by omega), trivial⟩, hS.F ht9⟩) hS.2.2 dX0_firstFree_40
  · have c_11 : ¬ (n ≤ i) := fun q9 => c_11 ((nI_leI (a := n) (b := i) (by omega) (by omega)).mpr q9)
    refine lv_aload_n hx hb dX0_firstFree_14 rfl (lv_at hl 2 rfl) ?_
    refine lv_lload_n hx hb dX0_firstFree_15 rfl (lv_at hl 1 rfl) ?_
    refine zRo_l (va_runV (As := [.long f]) (rest := []) ⟨hx, hb, hml, hown, hts⟩ (cc_X0_behindRowAt l D z H.size h a1 a2 k1 k2 n bf bl f (by omega)) (cwV 1 hts gX0_firstFree_X0_behindRowAt rfl rfl rfl (by decide +kernel) ⟨Nat.le_of_ble_eq_true rfl, Nat.le_of_ble_eq_true rfl⟩) ⟨zPre_blind, va_recv hK hP (ci := 1) (q0 := 0) rfl rfl, (zPre_mk (wc := [(h, .inr (1, [.ref a1, .ref a2, .int (nI n)])), (a1, .inl (k1, 50, .inr (.inl bf))), (a2, .inl (k2, 50, .inr (.inl bl)))]) (tc := [(k1, .long), (k2, .long)]) hP hK hD hC hS [0, 1, 2] (by decide) rfl rfl [0, 1] rfl (zro_free hS hA))⟩ rfl rfl hl.1 rfl (lv_room (Nat.le_of_ble_eq_true rfl)) dX0_firstFree_16 ⟨Nat.zero_le _, Nat.zero_le _⟩) hS hA hP (fun r_16 H locs hw hP hS => ?_)
    have hw_16 : zBeh n bf bl f r_16 := hw
    refine lv_lstore (lv' := [(6, .long r_16), (5, .int (nI i)), (3, .long f), (0, .ref h), (1, .long p0)]) hx hb dX0_firstFree_19 hl (by decide) rfl (fun ls hl => ?_)
    refine lv_lload hx hb dX0_firstFree_21 (lv_at hl 0 rfl) ?_
    refine lv_lload_n hx hb dX0_firstFree_23 rfl (lv_at hl 2 rfl) ?_
    refine W.lcmp hx hb dX0_firstFree_24 ?_
    refine lv_if_ne (tgt := 30) hx hb dX0_firstFree_25 (by decide) (fun c_25 => ?_) (fun c_25 => ?_)
    · have c_25 : ¬ (r_16 = f) := fun q9 => c_25 ((lg_cmp_eq _ _).mpr q9)
      refine lv_lload hx hb dX0_firstFree_30 (lv_at hl 0 rfl) ?_
      refine lv_lstore_n (lv' := [(3, .long r_16), (6, .long r_16), (5, .int (nI i)), (0, .ref h), (1, .long p0)]) hx hb dX0_firstFree_32 rfl hl (by decide) rfl (fun ls hl => ?_)
      refine lv_iinc (v := (nI (i + 1))) (lv' := [(5, .int (nI (i + 1))), (3, .long r_16), (6, .long r_16), (0, .ref h), (1, .long p0)]) hx hb dX0_firstFree_33 hl (k := 2) rfl (by first | exact nI_1 _ | rfl) (by decide) rfl (fun ls hl => ?_)
      refine lv_goto (tgt := 5) hx hb dX0_firstFree_36 (by decide) ?_
      exact ih (i + 1, r_16) _ _ _ (show n - (i + 1) < n - i from (by omega)) (zFI_step ht hI (by omega) hw_16 c_25) hP hD hS (lv_sub hl [0, 1, 3, 4] rfl)
    · have c_25 : r_16 = f := (lg_cmp_eq _ _).mp c_25
      refine lv_lload_n hx hb dX0_firstFree_28 rfl (lv_at hl 2 rfl) ?_
      exact W.lret (v := f) hx hb hr (fun t9 ht9 hW9 => ⟨⟨_, (), rfl, zFI_done ht hI hw_16 c_25, trivial⟩, hS.F ht9⟩) hS.2.2 dX0_firstFree_29

set_option maxHeartbeats 4000000 in
set_option maxRecDepth 100000 in
theorem cc_X0_add (l : Launch) (D : va_G) (z : zG) (sz : Nat) (h : Nat) (a1 : Nat) (a2 : Nat) (k1 : ClassId) (k2 : ClassId) (n : Nat) (bf : Nat → Int64) (bl : Nat → Int64) (p0 : Int64) (p1 : Int64) (hn : n < 50) : Met l yX0_add wsX0_add ({ frames := 0, cells := 0, slots := 0, locals := 0 }) (zPre D z [.ref h, .long p0, .long p1] sz [(h, .inr (1, [.ref a1, .ref a2, .int (nI n)])), (a1, .inl (k1, 50, .inr (.inl bf))), (a2, .inl (k2, 50, .inr (.inl bl)))] [(k1, .long), (k2, .long)] (va_A [(h, .inr (1, [.ref a1, .ref a2, .int (nI n)])), (a1, .inl (k1, 50, .inr (.inl bf))), (a2, .inl (k2, 50, .inr (.inl bl)))] sz)) (va_Qv (fun u : Nat × (Nat → Int64) × (Nat → Int64) => u.1 = n + 1 ∧ u.2.1 = vp_updL bf n p0 ∧ u.2.2 = vp_updL bl n p1) (zAt D [(k1, .long), (k2, .long)] (va_A [(h, .inr (1, [.ref a1, .ref a2, .int (nI n)])), (a1, .inl (k1, 50, .inr (.inl bf))), (a2, .inl (k2, 50, .inr (.inl bl)))] sz) (fun u : Nat × (Nat → Int64) × (Nat → Int64) => [(h, .inr (1, [.ref a1, .ref a2, .int (nI u.1)])), (a1, .inl (k1, 50, .inr (.inl u.2.1))), (a2, .inl (k2, 50, .inr (.inl u.2.2)))])) (va_A [(h, .inr (1, [.ref a1, .ref a2, .int (nI n)])), (a1, .inl (k1, 50, .inr (.inl bf))), (a2, .inl (k2, 50, .inr (.inl bl)))] sz)) 0 0 (va_A [(h, .inr (1, [.ref a1, .ref a2, .int (nI n)])), (a1, .inl (k1, 50, .inr (.inl bf))), (a2, .inl (k2, 50, .inr (.inl bl)))] sz) := by
  refine Met.ofW (cc := cX0_add) (maxL := 5) (ret := none) (by decide) rfl ?_
  intro p e s m args below meth c s₁ B hml hv
  obtain ⟨rfl, hsz, hP, hK, hD, hC⟩ := hv
  have hx := B.exec
  have hb := B.bytes
  have hr := B.returns
  have hts := atoms_spec (ws := wsX0_add) B.pre
  have hown : s.vm.findClass RX0 = some m.cls := findClass_of_methodNamed B.named
  have hlocks := B.notSynchronized
  subst hsz
  have hD := hD.self (sz := s.heap.size)
  generalize hAe : va_A [(h, .inr (1, [.ref a1, .ref a2, .int (nI n)])), (a1, .inl (k1, 50, .inr (.inl bf))), (a2, .inl (k2, 50, .inr (.inl bl)))] s.heap.size = A at hC hD ⊢
  have hA : ∀ q : Nat, s.heap.size ≤ q → A q := fun q h => by rw [← hAe]; exact Or.inr h
  have hS : va_S A s.heap s.heap [] := va_S.rf
  have hP : va_P D vwCl [(h, .inr (1, [.ref a1, .ref a2, .int (nI n)])), (a1, .inl (k1, 50, .inr (.inl bf))), (a2, .inl (k2, 50, .inr (.inl bl)))] s.heap := hP
  have hl := lv_entry ([.ref h, .long p0, .long p1]) (n := 5) (Nat.le_of_ble_eq_true rfl)
  rw [lg_entry_eq]
  generalize (lg_sl ([.ref h, .long p0, .long p1]) ++ List.replicate (5 - (lg_sl ([.ref h, .long p0, .long p1])).length) Slot.unset).toArray = ls at hl ⊢
  have hl : lv_has ls 5 [(0, .ref h), (1, .long p0), (3, .long p1)] := hl
  refine zNameH (D := D) (A := A) (ws := [(h, .inr (1, [.ref a1, .ref a2, .int (nI n)])), (a1, .inl (k1, 50, .inr (.inl bf))), (a2, .inl (k2, 50, .inr (.inl bl)))]) (fun H locs hP hS => ?_) hP hS
  have k_0 := hts (.fieldLink RX0 18 "NumberRows2$BarredRows" "count" "I") (by decide +kernel)
  have k_1 : ∀ w ∈ wsX00, w ∈ wsX0_add := by decide +kernel
  have k_2 := hts (.fieldLink RX0 9 "NumberRows2$BarredRows" "firsts" "[J") (by decide +kernel)
  have k_3 := hts (.fieldLink RX0 15 "NumberRows2$BarredRows" "lasts" "[J") (by decide +kernel)
  refine lv_aload_n hx hb dX0_add_0 rfl (lv_at hl 0 rfl) ?_
  refine va_get (D := D) (ci := 1) (v := .int (nI n)) (C := RX0) (T := TX0) (N := 3) hx hb hts k_1 hown hK hP 0 rfl rfl 2 (by decide) k_0 (fun _ h9 => h9) rfl dX0_add_1 ?_
  refine lv_bipush (v := 50) hx hb dX0_add_4 (by decide) ?_
  refine lv_icmp_ge (tgt := 39) hx hb dX0_add_6 (by decide) (fun c_6 => ?_) (fun c_6 => ?_)
  · have c_6 : 50 ≤ n := (nI_leI (a := 50) (b := n) (by omega) (by omega)).mp c_6
    exact absurd c_6 (by omega)
  · have c_6 : ¬ (50 ≤ n) := fun q9 => c_6 ((nI_leI (a := 50) (b := n) (by omega) (by omega)).mpr q9)
    refine lv_aload_n hx hb dX0_add_9 rfl (lv_at hl 0 rfl) ?_
    refine va_get (D := D) (ci := 1) (v := .ref a1) (C := RX0) (T := TX0) (N := 3) hx hb hts k_1 hown hK hP 0 rfl rfl 0 (by decide) k_2 (fun _ h9 => h9) rfl dX0_add_10 ?_
    refine lv_aload_n hx hb dX0_add_13 rfl (lv_at hl 0 rfl) ?_
    refine va_get (D := D) (ci := 1) (v := .int (nI n)) (C := RX0) (T := TX0) (N := 3) hx hb hts k_1 hown hK hP 0 rfl rfl 2 (by decide) k_0 (fun _ h9 => h9) rfl dX0_add_14 ?_
    refine lv_lload_n hx hb dX0_add_17 rfl (lv_at hl 1 rfl) ?_
    refine z_last (k := n) hx hb hK hP hD hS 1 0 rfl rfl (by omega) (by decide) dX0_add_18 (fun H locs hP hD hS => ?_)
    have hP : va_P D vwCl [(h, .inr (1, [.ref a1, .ref a2, .int (nI n)])), (a1, .inl (k1, 50, .inr (.inl (vp_updL bf n p0)))), (a2, .inl (k2, 50, .inr (.inl bl)))] H := hP
    have hD : va_D A [(h, .inr (1, [.ref a1, .ref a2, .int (nI n)])), (a1, .inl (k1, 50, .inr (.inl (vp_updL bf n p0)))), (a2, .inl (k2, 50, .inr (.inl bl)))] := hD
    refine lv_aload_n hx hb dX0_add_19 rfl (lv_at hl 0 rfl) ?_
    refine va_get (D := D) (ci := 1) (v := .ref a2) (C := RX0) (T := TX0) (N := 3) hx hb hts k_1 hown hK hP 0 rfl rfl 1 (by decide) k_3 (fun _ h9 => h9) rfl dX0_add_20 ?_
    refine lv_aload_n hx hb dX0_add_23 rfl (lv_at hl 0 rfl) ?_
    refine va_get (D := D) (ci := 1) (v := .int (nI n)) (C := RX0) (T := TX0) (N := 3) hx hb hts k_1 hown hK hP 0 rfl rfl 2 (by decide) k_0 (fun _ h9 => h9) rfl dX0_add_24 ?_
    refine lv_lload_n hx hb dX0_add_27 rfl (lv_at hl 2 rfl) ?_
    refine z_last (k := n) hx hb hK hP hD hS 2 1 rfl rfl (by omega) (by decide) dX0_add_28 (fun H locs hP hD hS => ?_)
    have hP : va_P D vwCl [(h, .inr (1, [.ref a1, .ref a2, .int (nI n)])), (a1, .inl (k1, 50, .inr (.inl (vp_updL bf n p0)))), (a2, .inl (k2, 50, .inr (.inl (vp_updL bl n p1))))] H := hP
    have hD : va_D A [(h, .inr (1, [.ref a1, .ref a2, .int (nI n)])), (a1, .inl (k1, 50, .inr (.inl (vp_updL bf n p0)))), (a2, .inl (k2, 50, .inr (.inl (vp_updL bl n p1))))] := hD
    refine lv_aload_n hx hb dX0_add_29 rfl (lv_at hl 0 rfl) ?_
    refine lv_dup hx hb dX0_add_30 rfl ?_
    refine va_get (D := D) (ci := 1) (v := .int (nI n)) (C := RX0) (T := TX0) (N := 3) hx hb hts k_1 hown hK hP 0 rfl rfl 2 (by decide) k_0 (fun _ h9 => h9) rfl dX0_add_31 ?_
    refine lv_iconst (v := 1) hx hb dX0_add_34 (by decide) ?_
    refine lv_iadd hx hb dX0_add_35 ?_
    refine lv_topi (fun y_1 e_1 => ?_)
    obtain rfl : y_1 = nI (n + 1) := e_1.trans (by first | exact nI_1 _ | exact nI_add _ 1)
    refine va_put (D := D) (ci := 1) (v := .int (nI (n + 1))) (ty := .int) (C := RX0) (T := TX0) (N := 3) hx hb hts k_1 tyX0 tyX0_ok nmX0 hown hK hP hD hS 0 rfl rfl 2 (by decide) k_0 (fun _ h9 => h9) rfl (by decide +kernel) rfl rfl (Nat.le_of_ble_eq_true rfl) dX0_add_36 (fun H locs hP hD hS => ?_)
    have hP : va_P D vwCl [(h, .inr (1, [.ref a1, .ref a2, .int (nI (n + 1))])), (a1, .inl (k1, 50, .inr (.inl (vp_updL bf n p0)))), (a2, .inl (k2, 50, .inr (.inl (vp_updL bl n p1))))] H := hP
    have hD : va_D A [(h, .inr (1, [.ref a1, .ref a2, .int (nI (n + 1))])), (a1, .inl (k1, 50, .inr (.inl (vp_updL bf n p0)))), (a2, .inl (k2, 50, .inr (.inl (vp_updL bl n p1))))] := hD
    exact W.vret hx hb hr (fun t9 ht9 hW9 => ⟨⟨(n + 1, (vp_updL bf n p0), (vp_updL bl n p1)), rfl, ⟨rfl, rfl, rfl⟩, by rw [ht9]; exact hP, va_K.moved hW9.alike hK, hD⟩, hS.F ht9⟩) hS.2.2 dX0_add_39
end
section
def zser (x : Int64) : Int64 := x - x / 27512614111 * 27512614111
def zsvc (x : Int64) : Int64 := x / 27512614111 - 1
def znum (k : Int32) (x : Int64) : Int64 := (k + 1).toInt64 * 27512614111 + x

set_option maxHeartbeats 4000000 in
set_option maxRecDepth 100000 in
theorem cc_X6_isOffice (l : Launch) (D : va_G) (z : zG) (sz : Nat) (p0 : Int32)  : Met l yX6_isOffice wsX6_isOffice ({ frames := 0, cells := 0, slots := 0, locals := 0 }) (zPre D z [.int p0] sz [] [] (va_A [] sz)) (va_Qi (fun (r : Int32) (u : Unit) => zB r (0 ≤ p0.toInt ∧ p0.toInt < 100)) zT (va_A [] sz)) 0 0 (va_A [] sz) := by
  refine Met.ofW (cc := cX6_isOffice) (maxL := 1) (ret := (some .boolean)) (by decide) rfl ?_
  intro p e s m args below meth c s₁ B hml hv
  obtain ⟨rfl, hsz, hP, hK, hD, hC⟩ := hv
  have hx := B.exec
  have hb := B.bytes
  have hr := B.returns
  have hts := atoms_spec (ws := wsX6_isOffice) B.pre
  have hown : s.vm.findClass RX6 = some m.cls := findClass_of_methodNamed B.named
  have hlocks := B.notSynchronized
  subst hsz
  generalize hAe : va_A [] s.heap.size = A at hC ⊢
  have hA : ∀ q : Nat, s.heap.size ≤ q → A q := fun q h => by rw [← hAe]; exact Or.inr h
  have hS : va_S A s.heap s.heap [] := va_S.rf
  have hP : va_P D vwCl [] s.heap := hP
  have hl := lv_entry ([.int p0]) (n := 1) (Nat.le_of_ble_eq_true rfl)
  rw [lg_entry_eq]
  generalize (lg_sl ([.int p0]) ++ List.replicate (1 - (lg_sl ([.int p0])).length) Slot.unset).toArray = ls at hl ⊢
  have hl : lv_has ls 1 [(0, .int p0)] := hl
  refine zNameH (D := D) (A := A) (ws := []) (fun H locs hP hS => ?_) hP hS
  refine lv_iload_n hx hb dX6_isOffice_0 rfl (lv_at hl 0 rfl) ?_
  refine lv_if_lt (tgt := 14) hx hb dX6_isOffice_1 (by decide) (fun c_1 => ?_) (fun c_1 => ?_)
  · have i_1 : p0.toInt < 0 := zi_lt.mp c_1
    refine lv_iconst (v := 0) hx hb dX6_isOffice_14 (by decide) ?_
    exact W.zret (v := 0) hx hb hr rfl (fun t9 ht9 hW9 => ⟨⟨_, (), rfl, zB_f (by omega), trivial⟩, hS.F ht9⟩) hS.2.2 dX6_isOffice_15
  · have i_1 : ¬ (p0.toInt < 0) := fun q9 => c_1 (zi_lt.mpr q9)
    refine lv_iload_n hx hb dX6_isOffice_4 rfl (lv_at hl 0 rfl) ?_
    refine lv_bipush (v := 100) hx hb dX6_isOffice_5 (by decide) ?_
    refine lv_icmp_ge (tgt := 14) hx hb dX6_isOffice_7 (by decide) (fun c_7 => ?_) (fun c_7 => ?_)
    · have i_7 : 100 ≤ p0.toInt := zi_le.mp c_7
      refine lv_iconst (v := 0) hx hb dX6_isOffice_14 (by decide) ?_
      exact W.zret (v := 0) hx hb hr rfl (fun t9 ht9 hW9 => ⟨⟨_, (), rfl, zB_f (by omega), trivial⟩, hS.F ht9⟩) hS.2.2 dX6_isOffice_15
    · have i_7 : ¬ (100 ≤ p0.toInt) := fun q9 => c_7 (zi_le.mpr q9)
      refine lv_iconst (v := 1) hx hb dX6_isOffice_10 (by decide) ?_
      refine lv_goto (tgt := 15) hx hb dX6_isOffice_11 (by decide) ?_
      exact W.zret (v := 1) hx hb hr rfl (fun t9 ht9 hW9 => ⟨⟨_, (), rfl, zB_t (by omega), trivial⟩, hS.F ht9⟩) hS.2.2 dX6_isOffice_15

set_option maxHeartbeats 4000000 in
set_option maxRecDepth 100000 in
theorem cc_X6_isService (l : Launch) (D : va_G) (z : zG) (sz : Nat) (p0 : Int32)  : Met l yX6_isService wsX6_isService ({ frames := 0, cells := 0, slots := 0, locals := 0 }) (zPre D z [.int p0] sz [] [] (va_A [] sz)) (va_Qi (fun (r : Int32) (u : Unit) => zB r (0 ≤ p0.toInt ∧ p0.toInt < 10)) zT (va_A [] sz)) 0 0 (va_A [] sz) := by
  refine Met.ofW (cc := cX6_isService) (maxL := 1) (ret := (some .boolean)) (by decide) rfl ?_
  intro p e s m args below meth c s₁ B hml hv
  obtain ⟨rfl, hsz, hP, hK, hD, hC⟩ := hv
  have hx := B.exec
  have hb := B.bytes
  have hr := B.returns
  have hts := atoms_spec (ws := wsX6_isService) B.pre
  have hown : s.vm.findClass RX6 = some m.cls := findClass_of_methodNamed B.named
  have hlocks := B.notSynchronized
  subst hsz
  generalize hAe : va_A [] s.heap.size = A at hC ⊢
  have hA : ∀ q : Nat, s.heap.size ≤ q → A q := fun q h => by rw [← hAe]; exact Or.inr h
  have hS : va_S A s.heap s.heap [] := va_S.rf
  have hP : va_P D vwCl [] s.heap := hP
  have hl := lv_entry ([.int p0]) (n := 1) (Nat.le_of_ble_eq_true rfl)
  rw [lg_entry_eq]
  generalize (lg_sl ([.int p0]) ++ List.replicate (1 - (lg_sl ([.int p0])).length) Slot.unset).toArray = ls at hl ⊢
  have hl : lv_has ls 1 [(0, .int p0)] := hl
  refine zNameH (D := D) (A := A) (ws := []) (fun H locs hP hS => ?_) hP hS
  refine lv_iload_n hx hb dX6_isService_0 rfl (lv_at hl 0 rfl) ?_
  refine lv_if_lt (tgt := 14) hx hb dX6_isService_1 (by decide) (fun c_1 => ?_) (fun c_1 => ?_)
  · have i_1 : p0.toInt < 0 := zi_lt.mp c_1
    refine lv_iconst (v := 0) hx hb dX6_isService_14 (by decide) ?_
    exact W.zret (v := 0) hx hb hr rfl (fun t9 ht9 hW9 => ⟨⟨_, (), rfl, zB_f (by omega), trivial⟩, hS.F ht9⟩) hS.2.2 dX6_isService_15
  · have i_1 : ¬ (p0.toInt < 0) := fun q9 => c_1 (zi_lt.mpr q9)
    refine lv_iload_n hx hb dX6_isService_4 rfl (lv_at hl 0 rfl) ?_
    refine lv_bipush (v := 10) hx hb dX6_isService_5 (by decide) ?_
    refine lv_icmp_ge (tgt := 14) hx hb dX6_isService_7 (by decide) (fun c_7 => ?_) (fun c_7 => ?_)
    · have i_7 : 10 ≤ p0.toInt := zi_le.mp c_7
      refine lv_iconst (v := 0) hx hb dX6_isService_14 (by decide) ?_
      exact W.zret (v := 0) hx hb hr rfl (fun t9 ht9 hW9 => ⟨⟨_, (), rfl, zB_f (by omega), trivial⟩, hS.F ht9⟩) hS.2.2 dX6_isService_15
    · have i_7 : ¬ (10 ≤ p0.toInt) := fun q9 => c_7 (zi_le.mpr q9)
      refine lv_iconst (v := 1) hx hb dX6_isService_10 (by decide) ?_
      refine lv_goto (tgt := 15) hx hb dX6_isService_11 (by decide) ?_
      exact W.zret (v := 1) hx hb hr rfl (fun t9 ht9 hW9 => ⟨⟨_, (), rfl, zB_t (by omega), trivial⟩, hS.F ht9⟩) hS.2.2 dX6_isService_15

set_option maxHeartbeats 4000000 in
set_option maxRecDepth 100000 in
theorem cc_X6_isRowBelow (l : Launch) (D : va_G) (z : zG) (sz : Nat) (p0 : Int64) (p1 : Int64) (p2 : Int64)  : Met l yX6_isRowBelow wsX6_isRowBelow ({ frames := 0, cells := 0, slots := 0, locals := 0 }) (zPre D z [.long p0, .long p1, .long p2] sz [] [] (va_A [] sz)) (va_Qi (fun (r : Int32) (u : Unit) => zB r (0 ≤ p0.toInt ∧ p0.toInt ≤ p1.toInt ∧ p1.toInt < p2.toInt)) zT (va_A [] sz)) 0 0 (va_A [] sz) := by
  refine Met.ofW (cc := cX6_isRowBelow) (maxL := 6) (ret := (some .boolean)) (by decide) rfl ?_
  intro p e s m args below meth c s₁ B hml hv
  obtain ⟨rfl, hsz, hP, hK, hD, hC⟩ := hv
  have hx := B.exec
  have hb := B.bytes
  have hr := B.returns
  have hts := atoms_spec (ws := wsX6_isRowBelow) B.pre
  have hown : s.vm.findClass RX6 = some m.cls := findClass_of_methodNamed B.named
  have hlocks := B.notSynchronized
  subst hsz
  generalize hAe : va_A [] s.heap.size = A at hC ⊢
  have hA : ∀ q : Nat, s.heap.size ≤ q → A q := fun q h => by rw [← hAe]; exact Or.inr h
  have hS : va_S A s.heap s.heap [] := va_S.rf
  have hP : va_P D vwCl [] s.heap := hP
  have hl := lv_entry ([.long p0, .long p1, .long p2]) (n := 6) (Nat.le_of_ble_eq_true rfl)
  rw [lg_entry_eq]
  generalize (lg_sl ([.long p0, .long p1, .long p2]) ++ List.replicate (6 - (lg_sl ([.long p0, .long p1, .long p2])).length) Slot.unset).toArray = ls at hl ⊢
  have hl : lv_has ls 6 [(0, .long p0), (2, .long p1), (4, .long p2)] := hl
  refine zNameH (D := D) (A := A) (ws := []) (fun H locs hP hS => ?_) hP hS
  refine lv_lconst (v := 0) hx hb dX6_isRowBelow_0 (by decide) ?_
  refine lv_lload_n hx hb dX6_isRowBelow_1 rfl (lv_at hl 0 rfl) ?_
  refine W.lcmp hx hb dX6_isRowBelow_2 ?_
  refine lv_if_gt (tgt := 23) hx hb dX6_isRowBelow_3 (by decide) (fun c_3 => ?_) (fun c_3 => ?_)
  · have c_3 : p0 < 0 := (lg_cmp_gt _ _).mp c_3
    have i_3 : p0.toInt < 0 := zl_lt.mp c_3
    refine lv_iconst (v := 0) hx hb dX6_isRowBelow_23 (by decide) ?_
    exact W.zret (v := 0) hx hb hr rfl (fun t9 ht9 hW9 => ⟨⟨_, (), rfl, zB_f (by omega), trivial⟩, hS.F ht9⟩) hS.2.2 dX6_isRowBelow_24
  · have c_3 : ¬ (p0 < 0) := fun q9 => c_3 ((lg_cmp_gt _ _).mpr q9)
    have i_3 : ¬ (p0.toInt < 0) := fun q9 => c_3 (zl_lt.mpr q9)
    refine lv_lload_n hx hb dX6_isRowBelow_6 rfl (lv_at hl 0 rfl) ?_
    refine lv_lload_n hx hb dX6_isRowBelow_7 rfl (lv_at hl 1 rfl) ?_
    refine W.lcmp hx hb dX6_isRowBelow_8 ?_
    refine lv_if_gt (tgt := 23) hx hb dX6_isRowBelow_9 (by decide) (fun c_9 => ?_) (fun c_9 => ?_)
    · have c_9 : p1 < p0 := (lg_cmp_gt _ _).mp c_9
      have i_9 : p1.toInt < p0.toInt := zl_lt.mp c_9
      refine lv_iconst (v := 0) hx hb dX6_isRowBelow_23 (by decide) ?_
      exact W.zret (v := 0) hx hb hr rfl (fun t9 ht9 hW9 => ⟨⟨_, (), rfl, zB_f (by omega), trivial⟩, hS.F ht9⟩) hS.2.2 dX6_isRowBelow_24
    · have c_9 : ¬ (p1 < p0) := fun q9 => c_9 ((lg_cmp_gt _ _).mpr q9)
      have i_9 : ¬ (p1.toInt < p0.toInt) := fun q9 => c_9 (zl_lt.mpr q9)
      refine lv_lload_n hx hb dX6_isRowBelow_12 rfl (lv_at hl 1 rfl) ?_
      refine lv_lload hx hb dX6_isRowBelow_13 (lv_at hl 2 rfl) ?_
      refine W.lcmp hx hb dX6_isRowBelow_15 ?_
      refine lv_if_ge (tgt := 23) hx hb dX6_isRowBelow_16 (by decide) (fun c_16 => ?_) (fun c_16 => ?_)
      · have c_16 : p2 ≤ p1 := (lg_cmp_ge _ _).mp c_16
        have i_16 : p2.toInt ≤ p1.toInt := zl_le.mp c_16
        refine lv_iconst (v := 0) hx hb dX6_isRowBelow_23 (by decide) ?_
        exact W.zret (v := 0) hx hb hr rfl (fun t9 ht9 hW9 => ⟨⟨_, (), rfl, zB_f (by omega), trivial⟩, hS.F ht9⟩) hS.2.2 dX6_isRowBelow_24
      · have c_16 : ¬ (p2 ≤ p1) := fun q9 => c_16 ((lg_cmp_ge _ _).mpr q9)
        have i_16 : ¬ (p2.toInt ≤ p1.toInt) := fun q9 => c_16 (zl_le.mpr q9)
        refine lv_iconst (v := 1) hx hb dX6_isRowBelow_19 (by decide) ?_
        refine lv_goto (tgt := 24) hx hb dX6_isRowBelow_20 (by decide) ?_
        exact W.zret (v := 1) hx hb hr rfl (fun t9 ht9 hW9 => ⟨⟨_, (), rfl, zB_t (by omega), trivial⟩, hS.F ht9⟩) hS.2.2 dX6_isRowBelow_24

set_option maxHeartbeats 4000000 in
set_option maxRecDepth 100000 in
theorem cc_X6_isNumber (l : Launch) (D : va_G) (z : zG) (sz : Nat) (p0 : Int64)  : Met l yX6_isNumber wsX6_isNumber ({ frames := 0, cells := 0, slots := 0, locals := 0 }) (zPre D z [.long p0] sz [] [] (va_A [] sz)) (va_Qi (fun (r : Int32) (u : Unit) => zB r (27512614111 ≤ p0.toInt ∧ p0.toInt < 302638755221)) zT (va_A [] sz)) 0 0 (va_A [] sz) := by
  refine Met.ofW (cc := cX6_isNumber) (maxL := 2) (ret := (some .boolean)) (by decide) rfl ?_
  intro p e s m args below meth c s₁ B hml hv
  obtain ⟨rfl, hsz, hP, hK, hD, hC⟩ := hv
  have hx := B.exec
  have hb := B.bytes
  have hr := B.returns
  have hts := atoms_spec (ws := wsX6_isNumber) B.pre
  have hown : s.vm.findClass RX6 = some m.cls := findClass_of_methodNamed B.named
  have hlocks := B.notSynchronized
  subst hsz
  generalize hAe : va_A [] s.heap.size = A at hC ⊢
  have hA : ∀ q : Nat, s.heap.size ≤ q → A q := fun q h => by rw [← hAe]; exact Or.inr h
  have hS : va_S A s.heap s.heap [] := va_S.rf
  have hP : va_P D vwCl [] s.heap := hP
  have hl := lv_entry ([.long p0]) (n := 2) (Nat.le_of_ble_eq_true rfl)
  rw [lg_entry_eq]
  generalize (lg_sl ([.long p0]) ++ List.replicate (2 - (lg_sl ([.long p0])).length) Slot.unset).toArray = ls at hl ⊢
  have hl : lv_has ls 2 [(0, .long p0)] := hl
  refine zNameH (D := D) (A := A) (ws := []) (fun H locs hP hS => ?_) hP hS
  have k_0 := hts (.constantLong RX6 116 (27512614111)) (by decide +kernel)
  have k_1 := hts (.constantLong RX6 153 (302638755221)) (by decide +kernel)
  refine lv_lload_n hx hb dX6_isNumber_0 rfl (lv_at hl 0 rfl) ?_
  refine lv_ldc2 hx hb hown k_0 dX6_isNumber_1 ?_
  refine W.lcmp hx hb dX6_isNumber_4 ?_
  refine lv_if_lt (tgt := 20) hx hb dX6_isNumber_5 (by decide) (fun c_5 => ?_) (fun c_5 => ?_)
  · have c_5 : p0 < 27512614111 := (lg_cmp_lt _ _).mp c_5
    have i_5 : p0.toInt < 27512614111 := zl_lt.mp c_5
    refine lv_iconst (v := 0) hx hb dX6_isNumber_20 (by decide) ?_
    exact W.zret (v := 0) hx hb hr rfl (fun t9 ht9 hW9 => ⟨⟨_, (), rfl, zB_f (by omega), trivial⟩, hS.F ht9⟩) hS.2.2 dX6_isNumber_21
  · have c_5 : ¬ (p0 < 27512614111) := fun q9 => c_5 ((lg_cmp_lt _ _).mpr q9)
    have i_5 : ¬ (p0.toInt < 27512614111) := fun q9 => c_5 (zl_lt.mpr q9)
    refine lv_lload_n hx hb dX6_isNumber_8 rfl (lv_at hl 0 rfl) ?_
    refine lv_ldc2 hx hb hown k_1 dX6_isNumber_9 ?_
    refine W.lcmp hx hb dX6_isNumber_12 ?_
    refine lv_if_ge (tgt := 20) hx hb dX6_isNumber_13 (by decide) (fun c_13 => ?_) (fun c_13 => ?_)
    · have c_13 : 302638755221 ≤ p0 := (lg_cmp_ge _ _).mp c_13
      have i_13 : 302638755221 ≤ p0.toInt := zl_le.mp c_13
      refine lv_iconst (v := 0) hx hb dX6_isNumber_20 (by decide) ?_
      exact W.zret (v := 0) hx hb hr rfl (fun t9 ht9 hW9 => ⟨⟨_, (), rfl, zB_f (by omega), trivial⟩, hS.F ht9⟩) hS.2.2 dX6_isNumber_21
    · have c_13 : ¬ (302638755221 ≤ p0) := fun q9 => c_13 ((lg_cmp_ge _ _).mpr q9)
      have i_13 : ¬ (302638755221 ≤ p0.toInt) := fun q9 => c_13 (zl_le.mpr q9)
      refine lv_iconst (v := 1) hx hb dX6_isNumber_16 (by decide) ?_
      refine lv_goto (tgt := 21) hx hb dX6_isNumber_17 (by decide) ?_
      exact W.zret (v := 1) hx hb hr rfl (fun t9 ht9 hW9 => ⟨⟨_, (), rfl, zB_t (by omega), trivial⟩, hS.F ht9⟩) hS.2.2 dX6_isNumber_21

set_option maxHeartbeats 4000000 in
set_option maxRecDepth 100000 in
theorem cc_X6_numberOf (l : Launch) (D : va_G) (z : zG) (sz : Nat) (p0 : Int32) (p1 : Int64)  : Met l yX6_numberOf wsX6_numberOf ({ frames := 0, cells := 0, slots := 0, locals := 0 }) (zPre D z [.int p0, .long p1] sz [] [] (va_A [] sz)) (va_Ql (fun (r : Int64) (u : Unit) => r = znum p0 p1) zT (va_A [] sz)) 0 0 (va_A [] sz) := by
  refine Met.ofW (cc := cX6_numberOf) (maxL := 3) (ret := (some .long)) (by decide) rfl ?_
  intro p e s m args below meth c s₁ B hml hv
  obtain ⟨rfl, hsz, hP, hK, hD, hC⟩ := hv
  have hx := B.exec
  have hb := B.bytes
  have hr := B.returns
  have hts := atoms_spec (ws := wsX6_numberOf) B.pre
  have hown : s.vm.findClass RX6 = some m.cls := findClass_of_methodNamed B.named
  have hlocks := B.notSynchronized
  subst hsz
  generalize hAe : va_A [] s.heap.size = A at hC ⊢
  have hA : ∀ q : Nat, s.heap.size ≤ q → A q := fun q h => by rw [← hAe]; exact Or.inr h
  have hS : va_S A s.heap s.heap [] := va_S.rf
  have hP : va_P D vwCl [] s.heap := hP
  have hl := lv_entry ([.int p0, .long p1]) (n := 3) (Nat.le_of_ble_eq_true rfl)
  rw [lg_entry_eq]
  generalize (lg_sl ([.int p0, .long p1]) ++ List.replicate (3 - (lg_sl ([.int p0, .long p1])).length) Slot.unset).toArray = ls at hl ⊢
  have hl : lv_has ls 3 [(0, .int p0), (1, .long p1)] := hl
  refine zNameH (D := D) (A := A) (ws := []) (fun H locs hP hS => ?_) hP hS
  have k_0 := hts (.constantLong RX6 116 (27512614111)) (by decide +kernel)
  refine lv_iload_n hx hb dX6_numberOf_0 rfl (lv_at hl 0 rfl) ?_
  refine lv_iconst (v := 1) hx hb dX6_numberOf_1 (by decide) ?_
  refine lv_iadd hx hb dX6_numberOf_2 ?_
  refine lv_i2l (v := (p0 + 1).toInt64) hx hb dX6_numberOf_3 rfl ?_
  refine lv_ldc2 hx hb hown k_0 dX6_numberOf_4 ?_
  refine lv_lmul hx hb dX6_numberOf_7 ?_
  refine lv_lload_n hx hb dX6_numberOf_8 rfl (lv_at hl 1 rfl) ?_
  refine lv_ladd hx hb dX6_numberOf_9 ?_
  exact W.lret (v := ((((p0 + 1).toInt64) * 27512614111) + p1)) hx hb hr (fun t9 ht9 hW9 => ⟨⟨_, (), rfl, rfl, trivial⟩, hS.F ht9⟩) hS.2.2 dX6_numberOf_10

set_option maxHeartbeats 4000000 in
set_option maxRecDepth 100000 in
theorem cc_X6_serviceOf (l : Launch) (D : va_G) (z : zG) (sz : Nat) (p0 : Int64)  : Met l yX6_serviceOf wsX6_serviceOf ({ frames := 0, cells := 0, slots := 0, locals := 0 }) (zPre D z [.long p0] sz [] [] (va_A [] sz)) (va_Ql (fun (r : Int64) (u : Unit) => r = zsvc p0) zT (va_A [] sz)) 0 0 (va_A [] sz) := by
  refine Met.ofW (cc := cX6_serviceOf) (maxL := 2) (ret := (some .long)) (by decide) rfl ?_
  intro p e s m args below meth c s₁ B hml hv
  obtain ⟨rfl, hsz, hP, hK, hD, hC⟩ := hv
  have hx := B.exec
  have hb := B.bytes
  have hr := B.returns
  have hts := atoms_spec (ws := wsX6_serviceOf) B.pre
  have hown : s.vm.findClass RX6 = some m.cls := findClass_of_methodNamed B.named
  have hlocks := B.notSynchronized
  subst hsz
  generalize hAe : va_A [] s.heap.size = A at hC ⊢
  have hA : ∀ q : Nat, s.heap.size ≤ q → A q := fun q h => by rw [← hAe]; exact Or.inr h
  have hS : va_S A s.heap s.heap [] := va_S.rf
  have hP : va_P D vwCl [] s.heap := hP
  have hl := lv_entry ([.long p0]) (n := 2) (Nat.le_of_ble_eq_true rfl)
  rw [lg_entry_eq]
  generalize (lg_sl ([.long p0]) ++ List.replicate (2 - (lg_sl ([.long p0])).length) Slot.unset).toArray = ls at hl ⊢
  have hl : lv_has ls 2 [(0, .long p0)] := hl
  refine zNameH (D := D) (A := A) (ws := []) (fun H locs hP hS => ?_) hP hS
  have k_0 := hts (.constantLong RX6 116 (27512614111)) (by decide +kernel)
  refine lv_lload_n hx hb dX6_serviceOf_0 rfl (lv_at hl 0 rfl) ?_
  refine lv_ldc2 hx hb hown k_0 dX6_serviceOf_1 ?_
  refine lv_ldiv hx hb dX6_serviceOf_4 (by decide) ?_
  refine lv_lconst (v := 1) hx hb dX6_serviceOf_5 (by decide) ?_
  refine lv_lsub hx hb dX6_serviceOf_6 ?_
  exact W.lret (v := ((p0 / 27512614111) - 1)) hx hb hr (fun t9 ht9 hW9 => ⟨⟨_, (), rfl, rfl, trivial⟩, hS.F ht9⟩) hS.2.2 dX6_serviceOf_7

set_option maxHeartbeats 4000000 in
set_option maxRecDepth 100000 in
theorem cc_X6_serialOf (l : Launch) (D : va_G) (z : zG) (sz : Nat) (p0 : Int64)  : Met l yX6_serialOf wsX6_serialOf ({ frames := 0, cells := 0, slots := 0, locals := 0 }) (zPre D z [.long p0] sz [] [] (va_A [] sz)) (va_Ql (fun (r : Int64) (u : Unit) => r = zser p0) zT (va_A [] sz)) 0 0 (va_A [] sz) := by
  refine Met.ofW (cc := cX6_serialOf) (maxL := 2) (ret := (some .long)) (by decide) rfl ?_
  intro p e s m args below meth c s₁ B hml hv
  obtain ⟨rfl, hsz, hP, hK, hD, hC⟩ := hv
  have hx := B.exec
  have hb := B.bytes
  have hr := B.returns
  have hts := atoms_spec (ws := wsX6_serialOf) B.pre
  have hown : s.vm.findClass RX6 = some m.cls := findClass_of_methodNamed B.named
  have hlocks := B.notSynchronized
  subst hsz
  generalize hAe : va_A [] s.heap.size = A at hC ⊢
  have hA : ∀ q : Nat, s.heap.size ≤ q → A q := fun q h => by rw [← hAe]; exact Or.inr h
  have hS : va_S A s.heap s.heap [] := va_S.rf
  have hP : va_P D vwCl [] s.heap := hP
  have hl := lv_entry ([.long p0]) (n := 2) (Nat.le_of_ble_eq_true rfl)
  rw [lg_entry_eq]
  generalize (lg_sl ([.long p0]) ++ List.replicate (2 - (lg_sl ([.long p0])).length) Slot.unset).toArray = ls at hl ⊢
  have hl : lv_has ls 2 [(0, .long p0)] := hl
  refine zNameH (D := D) (A := A) (ws := []) (fun H locs hP hS => ?_) hP hS
  have k_0 := hts (.constantLong RX6 116 (27512614111)) (by decide +kernel)
  refine lv_lload_n hx hb dX6_serialOf_0 rfl (lv_at hl 0 rfl) ?_
  refine lv_ldc2 hx hb hown k_0 dX6_serialOf_1 ?_
  refine lv_lrem hx hb dX6_serialOf_4 (by decide) ?_
  exact W.lret (v := (p0 - p0 / 27512614111 * 27512614111)) hx hb hr (fun t9 ht9 hW9 => ⟨⟨_, (), rfl, rfl, trivial⟩, hS.F ht9⟩) hS.2.2 dX6_serialOf_5
end
section
/-- a block that an office passes by -/
def zSkip (nr : Nat) (qf ql : Nat → Int64) (bo : Nat → Int32) (bl : Nat → Int64) (o : Int32) (br g : Nat → Int64) (j : Nat) : Prop := (g j = br j ∧ (¬ bo j = o ∨ bl j < br j)) ∨ (bo j = o ∧ br j ≤ bl j ∧ zFF nr qf ql (br j) (g j) ∧ bl j < g j)
def zTake (nr : Nat) (qf ql : Nat → Int64) (n : Nat) (bo : Nat → Int32) (bl : Nat → Int64) (o : Int32) (br g : Nat → Int64) (r : Int64) : Prop :=
  (∃ i, i < n ∧ (∀ j, j < i → zSkip nr qf ql bo bl o br g j) ∧ bo i = o ∧ br i ≤ bl i ∧ zFF nr qf ql (br i) r ∧ r ≤ bl i ∧ g i = r + 1 ∧ ∀ j, i < j → g j = br j) ∨ ((∀ j, j < n → zSkip nr qf ql bo bl o br g j) ∧ r = -1)
def zTkI (nr : Nat) (qf ql : Nat → Int64) (n : Nat) (bo : Nat → Int32) (bl : Nat → Int64) (o : Int32) (br g : Nat → Int64) (i : Nat) : Prop := i ≤ n ∧ (∀ j, j < i → zSkip nr qf ql bo bl o br g j) ∧ ∀ j, i ≤ j → g j = br j
theorem zTkI_skip {nr : Nat} {qf ql : Nat → Int64} {n : Nat} {bo : Nat → Int32} {bl : Nat → Int64} {o : Int32} {br g : Nat → Int64} {i : Nat} (h : zTkI nr qf ql n bo bl o br g i) (hi : i < n) (hs : ¬ bo i = o ∨ bl i < g i) : zTkI nr qf ql n bo bl o br g (i + 1) := by
  obtain ⟨h1, h2, h3⟩ := h
  have e := h3 i (Nat.le_refl i)
  refine ⟨hi, lt_s h2 (Or.inl ⟨e, ?_⟩), fun j hj => h3 j (by omega)⟩
  rw [← e]; exact hs
theorem zTkI_used {nr : Nat} {qf ql : Nat → Int64} {n : Nat} {bo : Nat → Int32} {bl : Nat → Int64} {o : Int32} {br g : Nat → Int64} {i : Nat} {x : Int64} (h : zTkI nr qf ql n bo bl o br g i) (hi : i < n) (ho : bo i = o) (hb : ¬ bl i < g i) (hf : zFF nr qf ql (g i) x) (hx : bl i < x) : zTkI nr qf ql n bo bl o br (vp_updL g i x) (i + 1) := by
  obtain ⟨h1, h2, h3⟩ := h
  have e := h3 i (Nat.le_refl i)
  rw [e] at hb hf
  refine ⟨hi, lt_s (fun j hj => ?_) (Or.inr ⟨ho, Int64.not_lt.mp hb, ?_, ?_⟩), fun j hj => by rw [pk_uLn (by omega)]; exact h3 j (by omega)⟩
  · have q := h2 j hj
    unfold zSkip at q ⊢
    rw [pk_uLn (by omega)]; exact q
  · rw [pk_uLs]; exact hf
  · rw [pk_uLs]; exact hx
theorem zTkI_take {nr : Nat} {qf ql : Nat → Int64} {n : Nat} {bo : Nat → Int32} {bl : Nat → Int64} {o : Int32} {br g : Nat → Int64} {i : Nat} {x : Int64} (h : zTkI nr qf ql n bo bl o br g i) (hi : i < n) (ho : bo i = o) (hb : ¬ bl i < g i) (hf : zFF nr qf ql (g i) x) (hx : ¬ bl i < x) : zTake nr qf ql n bo bl o br (vp_updL g i (x + 1)) x := by
  obtain ⟨h1, h2, h3⟩ := h
  have e := h3 i (Nat.le_refl i)
  rw [e] at hb hf
  refine Or.inl ⟨i, hi, fun j hj => ?_, ho, Int64.not_lt.mp hb, hf, Int64.not_lt.mp hx, pk_uLs, fun j hj => by rw [pk_uLn (by omega)]; exact h3 j (by omega)⟩
  have q := h2 j hj
  unfold zSkip at q ⊢
  rw [pk_uLn (by omega)]; exact q

set_option maxHeartbeats 4000000 in
set_option maxRecDepth 100000 in
theorem cc_X1_isFull (l : Launch) (D : va_G) (z : zG) (sz : Nat) (h : Nat) (a1 : Nat) (a2 : Nat) (a3 : Nat) (a4 : Nat) (k1 : ClassId) (k2 : ClassId) (k3 : ClassId) (k4 : ClassId) (n : Nat) (bo : Nat → Int32) (bf : Nat → Int64) (bl : Nat → Int64) (br : Nat → Int64) (hn : n ≤ 50) : Met l yX1_isFull wsX1_isFull ({ frames := 0, cells := 0, slots := 0, locals := 0 }) (zPre D z [.ref h] sz [(h, .inr (2, [.ref a1, .ref a2, .ref a3, .ref a4, .int (nI n)])), (a1, .inl (k1, 50, .inl bo)), (a2, .inl (k2, 50, .inr (.inl bf))), (a3, .inl (k3, 50, .inr (.inl bl))), (a4, .inl (k4, 50, .inr (.inl br)))] [(k1, .int), (k2, .long), (k3, .long), (k4, .long)] (va_A [] sz)) (va_Qi (fun (r : Int32) (u : Unit) => zB r (50 ≤ n)) zT (va_A [] sz)) 0 0 (va_A [] sz) := by
  refine Met.ofW (cc := cX1_isFull) (maxL := 1) (ret := (some .boolean)) (by decide) rfl ?_
  intro p e s m args below meth c s₁ B hml hv
  obtain ⟨rfl, hsz, hP, hK, hD, hC⟩ := hv
  have hx := B.exec
  have hb := B.bytes
  have hr := B.returns
  have hts := atoms_spec (ws := wsX1_isFull) B.pre
  have hown : s.vm.findClass RX1 = some m.cls := findClass_of_methodNamed B.named
  have hlocks := B.notSynchronized
  subst hsz
  generalize hAe : va_A [] s.heap.size = A at hC ⊢
  have hA : ∀ q : Nat, s.heap.size ≤ q → A q := fun q h => by rw [← hAe]; exact Or.inr h
  have hS : va_S A s.heap s.heap [] := va_S.rf
  have hP : va_P D vwCl [(h, .inr (2, [.ref a1, .ref a2, .ref a3, .ref a4, .int (nI n)])), (a1, .inl (k1, 50, .inl bo)), (a2, .inl (k2, 50, .inr (.inl bf))), (a3, .inl (k3, 50, .inr (.inl bl))), (a4, .inl (k4, 50, .inr (.inl br)))] s.heap := hP
  have hl := lv_entry ([.ref h]) (n := 1) (Nat.le_of_ble_eq_true rfl)
  rw [lg_entry_eq]
  generalize (lg_sl ([.ref h]) ++ List.replicate (1 - (lg_sl ([.ref h])).length) Slot.unset).toArray = ls at hl ⊢
  have hl : lv_has ls 1 [(0, .ref h)] := hl
  refine zNameH (D := D) (A := A) (ws := [(h, .inr (2, [.ref a1, .ref a2, .ref a3, .ref a4, .int (nI n)])), (a1, .inl (k1, 50, .inl bo)), (a2, .inl (k2, 50, .inr (.inl bf))), (a3, .inl (k3, 50, .inr (.inl bl))), (a4, .inl (k4, 50, .inr (.inl br)))]) (fun H locs hP hS => ?_) hP hS
  have k_0 := hts (.fieldLink RX1 25 "NumberRows2$Blocks" "count" "I") (by decide +kernel)
  have k_1 : ∀ w ∈ wsX10, w ∈ wsX1_isFull := by decide +kernel
  refine lv_aload_n hx hb dX1_isFull_0 rfl (lv_at hl 0 rfl) ?_
  refine va_get (D := D) (ci := 2) (v := .int (nI n)) (C := RX1) (T := TX1) (N := 5) hx hb hts k_1 hown hK hP 0 rfl rfl 4 (by decide) k_0 (fun _ h9 => h9) rfl dX1_isFull_1 ?_
  refine lv_bipush (v := 50) hx hb dX1_isFull_4 (by decide) ?_
  refine lv_icmp_lt (tgt := 13) hx hb dX1_isFull_6 (by decide) (fun c_6 => ?_) (fun c_6 => ?_)
  · have c_6 : n < 50 := (nI_ltI (a := n) (b := 50) (by omega) (by omega)).mp c_6
    refine lv_iconst (v := 0) hx hb dX1_isFull_13 (by decide) ?_
    exact W.zret (v := 0) hx hb hr rfl (fun t9 ht9 hW9 => ⟨⟨_, (), rfl, zB_f (by omega), trivial⟩, hS.F ht9⟩) hS.2.2 dX1_isFull_14
  · have c_6 : ¬ (n < 50) := fun q9 => c_6 ((nI_ltI (a := n) (b := 50) (by omega) (by omega)).mpr q9)
    refine lv_iconst (v := 1) hx hb dX1_isFull_9 (by decide) ?_
    refine lv_goto (tgt := 14) hx hb dX1_isFull_10 (by decide) ?_
    exact W.zret (v := 1) hx hb hr rfl (fun t9 ht9 hW9 => ⟨⟨_, (), rfl, zB_t (by omega), trivial⟩, hS.F ht9⟩) hS.2.2 dX1_isFull_14

set_option maxHeartbeats 4000000 in
set_option maxRecDepth 100000 in
theorem cc_X1_touches (l : Launch) (D : va_G) (z : zG) (sz : Nat) (h : Nat) (a1 : Nat) (a2 : Nat) (a3 : Nat) (a4 : Nat) (k1 : ClassId) (k2 : ClassId) (k3 : ClassId) (k4 : ClassId) (n : Nat) (bo : Nat → Int32) (bf : Nat → Int64) (bl : Nat → Int64) (br : Nat → Int64) (p0 : Int64) (p1 : Int64) (hn : n ≤ 50) : Met l yX1_touches wsX1_touches ({ frames := 0, cells := 0, slots := 0, locals := 0 }) (zPre D z [.ref h, .long p0, .long p1] sz [(h, .inr (2, [.ref a1, .ref a2, .ref a3, .ref a4, .int (nI n)])), (a1, .inl (k1, 50, .inl bo)), (a2, .inl (k2, 50, .inr (.inl bf))), (a3, .inl (k3, 50, .inr (.inl bl))), (a4, .inl (k4, 50, .inr (.inl br)))] [(k1, .int), (k2, .long), (k3, .long), (k4, .long)] (va_A [] sz)) (va_Qi (fun (r : Int32) (u : Unit) => zB r (∃ j, j < n ∧ p0 ≤ bl j ∧ bf j ≤ p1)) zT (va_A [] sz)) 0 0 (va_A [] sz) := by
  refine Met.ofW (cc := cX1_touches) (maxL := 6) (ret := (some .boolean)) (by decide) rfl ?_
  intro p e s m args below meth c s₁ B hml hv
  obtain ⟨rfl, hsz, hP, hK, hD, hC⟩ := hv
  have hx := B.exec
  have hb := B.bytes
  have hr := B.returns
  have hts := atoms_spec (ws := wsX1_touches) B.pre
  have hown : s.vm.findClass RX1 = some m.cls := findClass_of_methodNamed B.named
  have hlocks := B.notSynchronized
  subst hsz
  generalize hAe : va_A [] s.heap.size = A at hC ⊢
  have hA : ∀ q : Nat, s.heap.size ≤ q → A q := fun q h => by rw [← hAe]; exact Or.inr h
  have hS : va_S A s.heap s.heap [] := va_S.rf
  have hP : va_P D vwCl [(h, .inr (2, [.ref a1, .ref a2, .ref a3, .ref a4, .int (nI n)])), (a1, .inl (k1, 50, .inl bo)), (a2, .inl (k2, 50, .inr (.inl bf))), (a3, .inl (k3, 50, .inr (.inl bl))), (a4, .inl (k4, 50, .inr (.inl br)))] s.heap := hP
  have hl := lv_entry ([.ref h, .long p0, .long p1]) (n := 6) (Nat.le_of_ble_eq_true rfl)
  rw [lg_entry_eq]
  generalize (lg_sl ([.ref h, .long p0, .long p1]) ++ List.replicate (6 - (lg_sl ([.ref h, .long p0, .long p1])).length) Slot.unset).toArray = ls at hl ⊢
  have hl : lv_has ls 6 [(0, .ref h), (1, .long p0), (3, .long p1)] := hl
  refine zNameH (D := D) (A := A) (ws := [(h, .inr (2, [.ref a1, .ref a2, .ref a3, .ref a4, .int (nI n)])), (a1, .inl (k1, 50, .inl bo)), (a2, .inl (k2, 50, .inr (.inl bf))), (a3, .inl (k3, 50, .inr (.inl bl))), (a4, .inl (k4, 50, .inr (.inl br)))]) (fun H locs hP hS => ?_) hP hS
  have k_0 := hts (.fieldLink RX1 25 "NumberRows2$Blocks" "count" "I") (by decide +kernel)
  have k_1 : ∀ w ∈ wsX10, w ∈ wsX1_touches := by decide +kernel
  have k_2 := hts (.fieldLink RX1 19 "NumberRows2$Blocks" "lasts" "[J") (by decide +kernel)
  have k_3 := hts (.fieldLink RX1 15 "NumberRows2$Blocks" "firsts" "[J") (by decide +kernel)
  refine lv_iconst (v := 0) hx hb dX1_touches_0 (by decide) ?_
  refine lv_istore (lv' := [(5, .int 0), (0, .ref h), (1, .long p0), (3, .long p1)]) hx hb dX1_touches_1 hl (by decide) rfl (fun ls hl => ?_)
  refine zLoop (σ := Nat) (nL := 6) (μ := fun (i : Nat) => n - i) (lv := fun (i : Nat) => [(5, .int (nI i)), (0, .ref h), (1, .long p0), (3, .long p1)]) (wf := fun (i : Nat) => [(h, .inr (2, [.ref a1, .ref a2, .ref a3, .ref a4, .int (nI n)])), (a1, .inl (k1, 50, .inl bo)), (a2, .inl (k2, 50, .inr (.inl bf))), (a3, .inl (k3, 50, .inr (.inl bl))), (a4, .inl (k4, 50, .inr (.inl br)))]) (I := fun (i : Nat) => i ≤ n ∧ ∀ j, j < i → ¬ (p0 ≤ bl j ∧ bf j ≤ p1)) (fun x H locs ls hI hP hD hS hl ih => ?_) 0 ⟨Nat.zero_le _, fun j hj => absurd hj (Nat.not_lt_zero j)⟩ hP hD hS (lv_sub hl [0, 1, 2, 3] rfl)
  obtain ⟨i, rfl⟩ : ∃ y9, y9 = x := ⟨_, rfl⟩
  have hI : i ≤ n ∧ ∀ j, j < i → ¬ (p0 ≤ bl j ∧ bf j ≤ p1) := hI
  have hl : lv_has ls 6 [(5, .int (nI i)), (0, .ref h), (1, .long p0), (3, .long p1)] := hl
  have hP : va_P D vwCl [(h, .inr (2, [.ref a1, .ref a2, .ref a3, .ref a4, .int (nI n)])), (a1, .inl (k1, 50, .inl bo)), (a2, .inl (k2, 50, .inr (.inl bf))), (a3, .inl (k3, 50, .inr (.inl bl))), (a4, .inl (k4, 50, .inr (.inl br)))] H := hP
  have hD : va_D (fun _ => True) [(h, .inr (2, [.ref a1, .ref a2, .ref a3, .ref a4, .int (nI n)])), (a1, .inl (k1, 50, .inl bo)), (a2, .inl (k2, 50, .inr (.inl bf))), (a3, .inl (k3, 50, .inr (.inl bl))), (a4, .inl (k4, 50, .inr (.inl br)))] := hD
  refine lv_iload hx hb dX1_touches_3 (lv_at hl 0 rfl) ?_
  refine lv_aload_n hx hb dX1_touches_5 rfl (lv_at hl 1 rfl) ?_
  refine va_get (D := D) (ci := 2) (v := .int (nI n)) (C := RX1) (T := TX1) (N := 5) hx hb hts k_1 hown hK hP 0 rfl rfl 4 (by decide) k_0 (fun _ h9 => h9) rfl dX1_touches_6 ?_
  refine lv_icmp_ge (tgt := 44) hx hb dX1_touches_9 (by decide) (fun c_9 => ?_) (fun c_9 => ?_)
  · have c_9 : n ≤ i := (nI_leI (a := n) (b := i) (by omega) (by omega)).mp c_9
    refine lv_iconst (v := 0) hx hb dX1_touches_44 (by decide) ?_
    exact W.zret (v := 0) hx hb hr rfl (fun t9 ht9 hW9 => ⟨⟨_, (), rfl, zB_f (fun ⟨j, q1, q2⟩ => hI.2 j (by omega) q2), trivial⟩, hS.F ht9⟩) hS.2.2 dX1_touches_45
  · have c_9 : ¬ (n ≤ i) := fun q9 => c_9 ((nI_leI (a := n) (b := i) (by omega) (by omega)).mpr q9)
    refine lv_lload_n hx hb dX1_touches_12 rfl (lv_at hl 2 rfl) ?_
    refine lv_aload_n hx hb dX1_touches_13 rfl (lv_at hl 1 rfl) ?_
    refine va_get (D := D) (ci := 2) (v := .ref a3) (C := RX1) (T := TX1) (N := 5) hx hb hts k_1 hown hK hP 0 rfl rfl 2 (by decide) k_2 (fun _ h9 => h9) rfl dX1_touches_14 ?_
    refine lv_iload hx hb dX1_touches_17 (lv_at hl 0 rfl) ?_
    refine z_lald (k := i) hx hb hK hP 3 2 rfl rfl (by omega) (by decide) dX1_touches_19 ?_
    refine W.lcmp hx hb dX1_touches_20 ?_
    refine lv_if_gt (tgt := 38) hx hb dX1_touches_21 (by decide) (fun c_21 => ?_) (fun c_21 => ?_)
    · have c_21 : (bl i) < p0 := (lg_cmp_gt _ _).mp c_21
      have i_21 : (bl i).toInt < p0.toInt := zl_lt.mp c_21
      refine lv_iinc (v := (nI (i + 1))) (lv' := [(5, .int (nI (i + 1))), (0, .ref h), (1, .long p0), (3, .long p1)]) hx hb dX1_touches_38 hl (k := 0) rfl (by first | exact nI_1 _ | rfl) (by decide) rfl (fun ls hl => ?_)
      refine lv_goto (tgt := 3) hx hb dX1_touches_41 (by decide) ?_
      exact ih (i + 1) _ _ _ (show n - (i + 1) < n - i from (by omega)) ⟨by omega, lt_s hI.2 (fun q => Int64.not_le.mpr c_21 q.1)⟩ hP hD hS (lv_sub hl [0, 1, 2, 3] rfl)
    · have c_21 : ¬ ((bl i) < p0) := fun q9 => c_21 ((lg_cmp_gt _ _).mpr q9)
      have i_21 : ¬ ((bl i).toInt < p0.toInt) := fun q9 => c_21 (zl_lt.mpr q9)
      refine lv_aload_n hx hb dX1_touches_24 rfl (lv_at hl 1 rfl) ?_
      refine va_get (D := D) (ci := 2) (v := .ref a2) (C := RX1) (T := TX1) (N := 5) hx hb hts k_1 hown hK hP 0 rfl rfl 1 (by decide) k_3 (fun _ h9 => h9) rfl dX1_touches_25 ?_
      refine lv_iload hx hb dX1_touches_28 (lv_at hl 0 rfl) ?_
      refine z_lald (k := i) hx hb hK hP 2 1 rfl rfl (by omega) (by decide) dX1_touches_30 ?_
      refine lv_lload_n hx hb dX1_touches_31 rfl (lv_at hl 3 rfl) ?_
      refine W.lcmp hx hb dX1_touches_32 ?_
      refine lv_if_gt (tgt := 38) hx hb dX1_touches_33 (by decide) (fun c_33 => ?_) (fun c_33 => ?_)
      · have c_33 : p1 < (bf i) := (lg_cmp_gt _ _).mp c_33
        have i_33 : p1.toInt < (bf i).toInt := zl_lt.mp c_33
        refine lv_iinc (v := (nI (i + 1))) (lv' := [(5, .int (nI (i + 1))), (0, .ref h), (1, .long p0), (3, .long p1)]) hx hb dX1_touches_38 hl (k := 0) rfl (by first | exact nI_1 _ | rfl) (by decide) rfl (fun ls hl => ?_)
        refine lv_goto (tgt := 3) hx hb dX1_touches_41 (by decide) ?_
        exact ih (i + 1) _ _ _ (show n - (i + 1) < n - i from (by omega)) ⟨by omega, lt_s hI.2 (fun q => Int64.not_le.mpr c_33 q.2)⟩ hP hD hS (lv_sub hl [0, 1, 2, 3] rfl)
      · have c_33 : ¬ (p1 < (bf i)) := fun q9 => c_33 ((lg_cmp_gt _ _).mpr q9)
        have i_33 : ¬ (p1.toInt < (bf i).toInt) := fun q9 => c_33 (zl_lt.mpr q9)
        refine lv_iconst (v := 1) hx hb dX1_touches_36 (by decide) ?_
        exact W.zret (v := 1) hx hb hr rfl (fun t9 ht9 hW9 => ⟨⟨_, (), rfl, zB_t ⟨i, by omega, Int64.not_lt.mp c_21, Int64.not_lt.mp c_33⟩, trivial⟩, hS.F ht9⟩) hS.2.2 dX1_touches_37

set_option maxHeartbeats 4000000 in
set_option maxRecDepth 100000 in
theorem cc_X1_add (l : Launch) (D : va_G) (z : zG) (sz : Nat) (h : Nat) (a1 : Nat) (a2 : Nat) (a3 : Nat) (a4 : Nat) (k1 : ClassId) (k2 : ClassId) (k3 : ClassId) (k4 : ClassId) (n : Nat) (bo : Nat → Int32) (bf : Nat → Int64) (bl : Nat → Int64) (br : Nat → Int64) (p0 : Int32) (p1 : Int64) (p2 : Int64) (hn : n < 50) : Met l yX1_add wsX1_add ({ frames := 0, cells := 0, slots := 0, locals := 0 }) (zPre D z [.ref h, .int p0, .long p1, .long p2] sz [(h, .inr (2, [.ref a1, .ref a2, .ref a3, .ref a4, .int (nI n)])), (a1, .inl (k1, 50, .inl bo)), (a2, .inl (k2, 50, .inr (.inl bf))), (a3, .inl (k3, 50, .inr (.inl bl))), (a4, .inl (k4, 50, .inr (.inl br)))] [(k1, .int), (k2, .long), (k3, .long), (k4, .long)] (va_A [(h, .inr (2, [.ref a1, .ref a2, .ref a3, .ref a4, .int (nI n)])), (a1, .inl (k1, 50, .inl bo)), (a2, .inl (k2, 50, .inr (.inl bf))), (a3, .inl (k3, 50, .inr (.inl bl))), (a4, .inl (k4, 50, .inr (.inl br)))] sz)) (va_Qi (fun (r : Int32) (u : Nat × (Nat → Int32) × (Nat → Int64) × (Nat → Int64) × (Nat → Int64)) => r = nI (n + 1) ∧ u.1 = n + 1 ∧ u.2.1 = upd bo n p0 ∧ u.2.2.1 = vp_updL bf n p1 ∧ u.2.2.2.1 = vp_updL bl n p2 ∧ u.2.2.2.2 = vp_updL br n p1) (zAt D [(k1, .int), (k2, .long), (k3, .long), (k4, .long)] (va_A [(h, .inr (2, [.ref a1, .ref a2, .ref a3, .ref a4, .int (nI n)])), (a1, .inl (k1, 50, .inl bo)), (a2, .inl (k2, 50, .inr (.inl bf))), (a3, .inl (k3, 50, .inr (.inl bl))), (a4, .inl (k4, 50, .inr (.inl br)))] sz) (fun u : Nat × (Nat → Int32) × (Nat → Int64) × (Nat → Int64) × (Nat → Int64) => [(h, .inr (2, [.ref a1, .ref a2, .ref a3, .ref a4, .int (nI u.1)])), (a1, .inl (k1, 50, .inl u.2.1)), (a2, .inl (k2, 50, .inr (.inl u.2.2.1))), (a3, .inl (k3, 50, .inr (.inl u.2.2.2.1))), (a4, .inl (k4, 50, .inr (.inl u.2.2.2.2)))])) (va_A [(h, .inr (2, [.ref a1, .ref a2, .ref a3, .ref a4, .int (nI n)])), (a1, .inl (k1, 50, .inl bo)), (a2, .inl (k2, 50, .inr (.inl bf))), (a3, .inl (k3, 50, .inr (.inl bl))), (a4, .inl (k4, 50, .inr (.inl br)))] sz)) 0 0 (va_A [(h, .inr (2, [.ref a1, .ref a2, .ref a3, .ref a4, .int (nI n)])), (a1, .inl (k1, 50, .inl bo)), (a2, .inl (k2, 50, .inr (.inl bf))), (a3, .inl (k3, 50, .inr (.inl bl))), (a4, .inl (k4, 50, .inr (.inl br)))] sz) := by
  refine Met.ofW (cc := cX1_add) (maxL := 6) (ret := (some .int)) (by decide) rfl ?_
  intro p e s m args below meth c s₁ B hml hv
  obtain ⟨rfl, hsz, hP, hK, hD, hC⟩ := hv
  have hx := B.exec
  have hb := B.bytes
  have hr := B.returns
  have hts := atoms_spec (ws := wsX1_add) B.pre
  have hown : s.vm.findClass RX1 = some m.cls := findClass_of_methodNamed B.named
  have hlocks := B.notSynchronized
  subst hsz
  have hD := hD.self (sz := s.heap.size)
  generalize hAe : va_A [(h, .inr (2, [.ref a1, .ref a2, .ref a3, .ref a4, .int (nI n)])), (a1, .inl (k1, 50, .inl bo)), (a2, .inl (k2, 50, .inr (.inl bf))), (a3, .inl (k3, 50, .inr (.inl bl))), (a4, .inl (k4, 50, .inr (.inl br)))] s.heap.size = A at hC hD ⊢
  have hA : ∀ q : Nat, s.heap.size ≤ q → A q := fun q h => by rw [← hAe]; exact Or.inr h
  have hS : va_S A s.heap s.heap [] := va_S.rf
  have hP : va_P D vwCl [(h, .inr (2, [.ref a1, .ref a2, .ref a3, .ref a4, .int (nI n)])), (a1, .inl (k1, 50, .inl bo)), (a2, .inl (k2, 50, .inr (.inl bf))), (a3, .inl (k3, 50, .inr (.inl bl))), (a4, .inl (k4, 50, .inr (.inl br)))] s.heap := hP
  have hl := lv_entry ([.ref h, .int p0, .long p1, .long p2]) (n := 6) (Nat.le_of_ble_eq_true rfl)
  rw [lg_entry_eq]
  generalize (lg_sl ([.ref h, .int p0, .long p1, .long p2]) ++ List.replicate (6 - (lg_sl ([.ref h, .int p0, .long p1, .long p2])).length) Slot.unset).toArray = ls at hl ⊢
  have hl : lv_has ls 6 [(0, .ref h), (1, .int p0), (2, .long p1), (4, .long p2)] := hl
  refine zNameH (D := D) (A := A) (ws := [(h, .inr (2, [.ref a1, .ref a2, .ref a3, .ref a4, .int (nI n)])), (a1, .inl (k1, 50, .inl bo)), (a2, .inl (k2, 50, .inr (.inl bf))), (a3, .inl (k3, 50, .inr (.inl bl))), (a4, .inl (k4, 50, .inr (.inl br)))]) (fun H locs hP hS => ?_) hP hS
  have k_0 := hts (.fieldLink RX1 25 "NumberRows2$Blocks" "count" "I") (by decide +kernel)
  have k_1 : ∀ w ∈ wsX10, w ∈ wsX1_add := by decide +kernel
  have k_2 := hts (.fieldLink RX1 9 "NumberRows2$Blocks" "offices" "[I") (by decide +kernel)
  have k_3 := hts (.fieldLink RX1 15 "NumberRows2$Blocks" "firsts" "[J") (by decide +kernel)
  have k_4 := hts (.fieldLink RX1 19 "NumberRows2$Blocks" "lasts" "[J") (by decide +kernel)
  have k_5 := hts (.fieldLink RX1 22 "NumberRows2$Blocks" "fresh" "[J") (by decide +kernel)
  refine lv_aload_n hx hb dX1_add_0 rfl (lv_at hl 0 rfl) ?_
  refine va_get (D := D) (ci := 2) (v := .int (nI n)) (C := RX1) (T := TX1) (N := 5) hx hb hts k_1 hown hK hP 0 rfl rfl 4 (by decide) k_0 (fun _ h9 => h9) rfl dX1_add_1 ?_
  refine lv_bipush (v := 50) hx hb dX1_add_4 (by decide) ?_
  refine lv_icmp_ge (tgt := 60) hx hb dX1_add_6 (by decide) (fun c_6 => ?_) (fun c_6 => ?_)
  · have c_6 : 50 ≤ n := (nI_leI (a := 50) (b := n) (by omega) (by omega)).mp c_6
    exact absurd c_6 (by omega)
  · have c_6 : ¬ (50 ≤ n) := fun q9 => c_6 ((nI_leI (a := 50) (b := n) (by omega) (by omega)).mpr q9)
    refine lv_aload_n hx hb dX1_add_9 rfl (lv_at hl 0 rfl) ?_
    refine va_get (D := D) (ci := 2) (v := .ref a1) (C := RX1) (T := TX1) (N := 5) hx hb hts k_1 hown hK hP 0 rfl rfl 0 (by decide) k_2 (fun _ h9 => h9) rfl dX1_add_10 ?_
    refine lv_aload_n hx hb dX1_add_13 rfl (lv_at hl 0 rfl) ?_
    refine va_get (D := D) (ci := 2) (v := .int (nI n)) (C := RX1) (T := TX1) (N := 5) hx hb hts k_1 hown hK hP 0 rfl rfl 4 (by decide) k_0 (fun _ h9 => h9) rfl dX1_add_14 ?_
    refine lv_iload_n hx hb dX1_add_17 rfl (lv_at hl 1 rfl) ?_
    refine z_iast (k := n) hx hb hK hP hD hS 1 0 rfl rfl (by omega) (by decide) dX1_add_18 (fun H locs hP hD hS => ?_)
    have hP : va_P D vwCl [(h, .inr (2, [.ref a1, .ref a2, .ref a3, .ref a4, .int (nI n)])), (a1, .inl (k1, 50, .inl (upd bo n p0))), (a2, .inl (k2, 50, .inr (.inl bf))), (a3, .inl (k3, 50, .inr (.inl bl))), (a4, .inl (k4, 50, .inr (.inl br)))] H := hP
    have hD : va_D A [(h, .inr (2, [.ref a1, .ref a2, .ref a3, .ref a4, .int (nI n)])), (a1, .inl (k1, 50, .inl (upd bo n p0))), (a2, .inl (k2, 50, .inr (.inl bf))), (a3, .inl (k3, 50, .inr (.inl bl))), (a4, .inl (k4, 50, .inr (.inl br)))] := hD
    refine lv_aload_n hx hb dX1_add_19 rfl (lv_at hl 0 rfl) ?_
    refine va_get (D := D) (ci := 2) (v := .ref a2) (C := RX1) (T := TX1) (N := 5) hx hb hts k_1 hown hK hP 0 rfl rfl 1 (by decide) k_3 (fun _ h9 => h9) rfl dX1_add_20 ?_
    refine lv_aload_n hx hb dX1_add_23 rfl (lv_at hl 0 rfl) ?_
    refine va_get (D := D) (ci := 2) (v := .int (nI n)) (C := RX1) (T := TX1) (N := 5) hx hb hts k_1 hown hK hP 0 rfl rfl 4 (by decide) k_0 (fun _ h9 => h9) rfl dX1_add_24 ?_
    refine lv_lload_n hx hb dX1_add_27 rfl (lv_at hl 2 rfl) ?_
    refine z_last (k := n) hx hb hK hP hD hS 2 1 rfl rfl (by omega) (by decide) dX1_add_28 (fun H locs hP hD hS => ?_)
    have hP : va_P D vwCl [(h, .inr (2, [.ref a1, .ref a2, .ref a3, .ref a4, .int (nI n)])), (a1, .inl (k1, 50, .inl (upd bo n p0))), (a2, .inl (k2, 50, .inr (.inl (vp_updL bf n p1)))), (a3, .inl (k3, 50, .inr (.inl bl))), (a4, .inl (k4, 50, .inr (.inl br)))] H := hP
    have hD : va_D A [(h, .inr (2, [.ref a1, .ref a2, .ref a3, .ref a4, .int (nI n)])), (a1, .inl (k1, 50, .inl (upd bo n p0))), (a2, .inl (k2, 50, .inr (.inl (vp_updL bf n p1)))), (a3, .inl (k3, 50, .inr (.inl bl))), (a4, .inl (k4, 50, .inr (.inl br)))] := hD
    refine lv_aload_n hx hb dX1_add_29 rfl (lv_at hl 0 rfl) ?_
    refine va_get (D := D) (ci := 2) (v := .ref a3) (C := RX1) (T := TX1) (N := 5) hx hb hts k_1 hown hK hP 0 rfl rfl 2 (by decide) k_4 (fun _ h9 => h9) rfl dX1_add_30 ?_
    refine lv_aload_n hx hb dX1_add_33 rfl (lv_at hl 0 rfl) ?_
    refine va_get (D := D) (ci := 2) (v := .int (nI n)) (C := RX1) (T := TX1) (N := 5) hx hb hts k_1 hown hK hP 0 rfl rfl 4 (by decide) k_0 (fun _ h9 => h9) rfl dX1_add_34 ?_
    refine lv_lload hx hb dX1_add_37 (lv_at hl 3 rfl) ?_
    refine z_last (k := n) hx hb hK hP hD hS 3 2 rfl rfl (by omega) (by decide) dX1_add_39 (fun H locs hP hD hS => ?_)
    have hP : va_P D vwCl [(h, .inr (2, [.ref a1, .ref a2, .ref a3, .ref a4, .int (nI n)])), (a1, .inl (k1, 50, .inl (upd bo n p0))), (a2, .inl (k2, 50, .inr (.inl (vp_updL bf n p1)))), (a3, .inl (k3, 50, .inr (.inl (vp_updL bl n p2)))), (a4, .inl (k4, 50, .inr (.inl br)))] H := hP
    have hD : va_D A [(h, .inr (2, [.ref a1, .ref a2, .ref a3, .ref a4, .int (nI n)])), (a1, .inl (k1, 50, .inl (upd bo n p0))), (a2, .inl (k2, 50, .inr (.inl (vp_updL bf n p1)))), (a3, .inl (k3, 50, .inr (.inl (vp_updL bl n p2)))), (a4, .inl (k4, 50, .inr (.inl br)))] := hD
    refine lv_aload_n hx hb dX1_add_40 rfl (lv_at hl 0 rfl) ?_
    refine va_get (D := D) (ci := 2) (v := .ref a4) (C := RX1) (T := TX1) (N := 5) hx hb hts k_1 hown hK hP 0 rfl rfl 3 (by decide) k_5 (fun _ h9 => h9) rfl dX1_add_41 ?_
    refine lv_aload_n hx hb dX1_add_44 rfl (lv_at hl 0 rfl) ?_
    refine va_get (D := D) (ci := 2) (v := .int (nI n)) (C := RX1) (T := TX1) (N := 5) hx hb hts k_1 hown hK hP 0 rfl rfl 4 (by decide) k_0 (fun _ h9 => h9) rfl dX1_add_45 ?_
    refine lv_lload_n hx hb dX1_add_48 rfl (lv_at hl 2 rfl) ?_
    refine z_last (k := n) hx hb hK hP hD hS 4 3 rfl rfl (by omega) (by decide) dX1_add_49 (fun H locs hP hD hS => ?_)
    have hP : va_P D vwCl [(h, .inr (2, [.ref a1, .ref a2, .ref a3, .ref a4, .int (nI n)])), (a1, .inl (k1, 50, .inl (upd bo n p0))), (a2, .inl (k2, 50, .inr (.inl (vp_updL bf n p1)))), (a3, .inl (k3, 50, .inr (.inl (vp_updL bl n p2)))), (a4, .inl (k4, 50, .inr (.inl (vp_updL br n p1))))] H := hP
    have hD : va_D A [(h, .inr (2, [.ref a1, .ref a2, .ref a3, .ref a4, .int (nI n)])), (a1, .inl (k1, 50, .inl (upd bo n p0))), (a2, .inl (k2, 50, .inr (.inl (vp_updL bf n p1)))), (a3, .inl (k3, 50, .inr (.inl (vp_updL bl n p2)))), (a4, .inl (k4, 50, .inr (.inl (vp_updL br n p1))))] := hD
    refine lv_aload_n hx hb dX1_add_50 rfl (lv_at hl 0 rfl) ?_
    refine lv_dup hx hb dX1_add_51 rfl ?_
    refine va_get (D := D) (ci := 2) (v := .int (nI n)) (C := RX1) (T := TX1) (N := 5) hx hb hts k_1 hown hK hP 0 rfl rfl 4 (by decide) k_0 (fun _ h9 => h9) rfl dX1_add_52 ?_
    refine lv_iconst (v := 1) hx hb dX1_add_55 (by decide) ?_
    refine lv_iadd hx hb dX1_add_56 ?_
    refine lv_topi (fun y_1 e_1 => ?_)
    obtain rfl : y_1 = nI (n + 1) := e_1.trans (by first | exact nI_1 _ | exact nI_add _ 1)
    refine va_put (D := D) (ci := 2) (v := .int (nI (n + 1))) (ty := .int) (C := RX1) (T := TX1) (N := 5) hx hb hts k_1 tyX1 tyX1_ok nmX1 hown hK hP hD hS 0 rfl rfl 4 (by decide) k_0 (fun _ h9 => h9) rfl (by decide +kernel) rfl rfl (Nat.le_of_ble_eq_true rfl) dX1_add_57 (fun H locs hP hD hS => ?_)
    have hP : va_P D vwCl [(h, .inr (2, [.ref a1, .ref a2, .ref a3, .ref a4, .int (nI (n + 1))])), (a1, .inl (k1, 50, .inl (upd bo n p0))), (a2, .inl (k2, 50, .inr (.inl (vp_updL bf n p1)))), (a3, .inl (k3, 50, .inr (.inl (vp_updL bl n p2)))), (a4, .inl (k4, 50, .inr (.inl (vp_updL br n p1))))] H := hP
    have hD : va_D A [(h, .inr (2, [.ref a1, .ref a2, .ref a3, .ref a4, .int (nI (n + 1))])), (a1, .inl (k1, 50, .inl (upd bo n p0))), (a2, .inl (k2, 50, .inr (.inl (vp_updL bf n p1)))), (a3, .inl (k3, 50, .inr (.inl (vp_updL bl n p2)))), (a4, .inl (k4, 50, .inr (.inl (vp_updL br n p1))))] := hD
    refine lv_aload_n hx hb dX1_add_60 rfl (lv_at hl 0 rfl) ?_
    refine va_get (D := D) (ci := 2) (v := .int (nI (n + 1))) (C := RX1) (T := TX1) (N := 5) hx hb hts k_1 hown hK hP 0 rfl rfl 4 (by decide) k_0 (fun _ h9 => h9) rfl dX1_add_61 ?_
    exact W.iret (v := (nI (n + 1))) hx hb hr (fun t9 ht9 hW9 => ⟨⟨_, ((n + 1), (upd bo n p0), (vp_updL bf n p1), (vp_updL bl n p2), (vp_updL br n p1)), rfl, ⟨rfl, rfl, rfl, rfl, rfl, rfl⟩, by rw [ht9]; exact hP, va_K.moved hW9.alike hK, hD⟩, hS.F ht9⟩) hS.2.2 dX1_add_64

set_option maxHeartbeats 4000000 in
set_option maxRecDepth 100000 in
theorem cc_X1_takeSerial (l : Launch) (D : va_G) (z : zG) (sz : Nat) (h : Nat) (a1 : Nat) (a2 : Nat) (a3 : Nat) (a4 : Nat) (k1 : ClassId) (k2 : ClassId) (k3 : ClassId) (k4 : ClassId) (n : Nat) (bo : Nat → Int32) (bf : Nat → Int64) (bl : Nat → Int64) (br : Nat → Int64) (hq : Nat) (q1 : Nat) (q2 : Nat) (j1 : ClassId) (j2 : ClassId) (nr : Nat) (qf : Nat → Int64) (ql : Nat → Int64) (p0 : Int32) (hn : n ≤ 50) (hq9 : nr ≤ 50) (ht : zTop nr ql) : Met l yX1_takeSerial wsX1_takeSerial ({ frames := 2, cells := 0, slots := 0, locals := 50 }) (zPre D z [.ref h, .int p0, .ref hq] sz [(h, .inr (2, [.ref a1, .ref a2, .ref a3, .ref a4, .int (nI n)])), (a1, .inl (k1, 50, .inl bo)), (a2, .inl (k2, 50, .inr (.inl bf))), (a3, .inl (k3, 50, .inr (.inl bl))), (a4, .inl (k4, 50, .inr (.inl br))), (hq, .inr (1, [.ref q1, .ref q2, .int (nI nr)])), (q1, .inl (j1, 50, .inr (.inl qf))), (q2, .inl (j2, 50, .inr (.inl ql)))] [(k1, .int), (k2, .long), (k3, .long), (k4, .long), (j1, .long), (j2, .long)] (va_A [(h, .inr (2, [.ref a1, .ref a2, .ref a3, .ref a4, .int (nI n)])), (a1, .inl (k1, 50, .inl bo)), (a2, .inl (k2, 50, .inr (.inl bf))), (a3, .inl (k3, 50, .inr (.inl bl))), (a4, .inl (k4, 50, .inr (.inl br))), (hq, .inr (1, [.ref q1, .ref q2, .int (nI nr)])), (q1, .inl (j1, 50, .inr (.inl qf))), (q2, .inl (j2, 50, .inr (.inl ql)))] sz)) (va_Ql (fun (r : Int64) (u : (Nat → Int64)) => zTake nr qf ql n bo bl p0 br u r) (zAt D [(k1, .int), (k2, .long), (k3, .long), (k4, .long), (j1, .long), (j2, .long)] (va_A [(h, .inr (2, [.ref a1, .ref a2, .ref a3, .ref a4, .int (nI n)])), (a1, .inl (k1, 50, .inl bo)), (a2, .inl (k2, 50, .inr (.inl bf))), (a3, .inl (k3, 50, .inr (.inl bl))), (a4, .inl (k4, 50, .inr (.inl br))), (hq, .inr (1, [.ref q1, .ref q2, .int (nI nr)])), (q1, .inl (j1, 50, .inr (.inl qf))), (q2, .inl (j2, 50, .inr (.inl ql)))] sz) (fun u : (Nat → Int64) => [(h, .inr (2, [.ref a1, .ref a2, .ref a3, .ref a4, .int (nI n)])), (a1, .inl (k1, 50, .inl bo)), (a2, .inl (k2, 50, .inr (.inl bf))), (a3, .inl (k3, 50, .inr (.inl bl))), (a4, .inl (k4, 50, .inr (.inl u))), (hq, .inr (1, [.ref q1, .ref q2, .int (nI nr)])), (q1, .inl (j1, 50, .inr (.inl qf))), (q2, .inl (j2, 50, .inr (.inl ql)))])) (va_A [(h, .inr (2, [.ref a1, .ref a2, .ref a3, .ref a4, .int (nI n)])), (a1, .inl (k1, 50, .inl bo)), (a2, .inl (k2, 50, .inr (.inl bf))), (a3, .inl (k3, 50, .inr (.inl bl))), (a4, .inl (k4, 50, .inr (.inl br))), (hq, .inr (1, [.ref q1, .ref q2, .int (nI nr)])), (q1, .inl (j1, 50, .inr (.inl qf))), (q2, .inl (j2, 50, .inr (.inl ql)))] sz)) 0 0 (va_A [(h, .inr (2, [.ref a1, .ref a2, .ref a3, .ref a4, .int (nI n)])), (a1, .inl (k1, 50, .inl bo)), (a2, .inl (k2, 50, .inr (.inl bf))), (a3, .inl (k3, 50, .inr (.inl bl))), (a4, .inl (k4, 50, .inr (.inl br))), (hq, .inr (1, [.ref q1, .ref q2, .int (nI nr)])), (q1, .inl (j1, 50, .inr (.inl qf))), (q2, .inl (j2, 50, .inr (.inl ql)))] sz) := by
  refine Met.ofW (cc := cX1_takeSerial) (maxL := 6) (ret := (some .long)) (by decide) rfl ?_
  intro p e s m args below meth c s₁ B hml hv
  obtain ⟨rfl, hsz, hP, hK, hD, hC⟩ := hv
  have hx := B.exec
  have hb := B.bytes
  have hr := B.returns
  have hts := atoms_spec (ws := wsX1_takeSerial) B.pre
  have hown : s.vm.findClass RX1 = some m.cls := findClass_of_methodNamed B.named
  have hlocks := B.notSynchronized
  subst hsz
  have hD := hD.self (sz := s.heap.size)
  generalize hAe : va_A [(h, .inr (2, [.ref a1, .ref a2, .ref a3, .ref a4, .int (nI n)])), (a1, .inl (k1, 50, .inl bo)), (a2, .inl (k2, 50, .inr (.inl bf))), (a3, .inl (k3, 50, .inr (.inl bl))), (a4, .inl (k4, 50, .inr (.inl br))), (hq, .inr (1, [.ref q1, .ref q2, .int (nI nr)])), (q1, .inl (j1, 50, .inr (.inl qf))), (q2, .inl (j2, 50, .inr (.inl ql)))] s.heap.size = A at hC hD ⊢
  have hA : ∀ q : Nat, s.heap.size ≤ q → A q := fun q h => by rw [← hAe]; exact Or.inr h
  have hS : va_S A s.heap s.heap [] := va_S.rf
  have hP : va_P D vwCl [(h, .inr (2, [.ref a1, .ref a2, .ref a3, .ref a4, .int (nI n)])), (a1, .inl (k1, 50, .inl bo)), (a2, .inl (k2, 50, .inr (.inl bf))), (a3, .inl (k3, 50, .inr (.inl bl))), (a4, .inl (k4, 50, .inr (.inl br))), (hq, .inr (1, [.ref q1, .ref q2, .int (nI nr)])), (q1, .inl (j1, 50, .inr (.inl qf))), (q2, .inl (j2, 50, .inr (.inl ql)))] s.heap := hP
  have hl := lv_entry ([.ref h, .int p0, .ref hq]) (n := 6) (Nat.le_of_ble_eq_true rfl)
  rw [lg_entry_eq]
  generalize (lg_sl ([.ref h, .int p0, .ref hq]) ++ List.replicate (6 - (lg_sl ([.ref h, .int p0, .ref hq])).length) Slot.unset).toArray = ls at hl ⊢
  have hl : lv_has ls 6 [(0, .ref h), (1, .int p0), (2, .ref hq)] := hl
  refine zNameH (D := D) (A := A) (ws := [(h, .inr (2, [.ref a1, .ref a2, .ref a3, .ref a4, .int (nI n)])), (a1, .inl (k1, 50, .inl bo)), (a2, .inl (k2, 50, .inr (.inl bf))), (a3, .inl (k3, 50, .inr (.inl bl))), (a4, .inl (k4, 50, .inr (.inl br))), (hq, .inr (1, [.ref q1, .ref q2, .int (nI nr)])), (q1, .inl (j1, 50, .inr (.inl qf))), (q2, .inl (j2, 50, .inr (.inl ql)))]) (fun H locs hP hS => ?_) hP hS
  have k_0 := hts (.fieldLink RX1 25 "NumberRows2$Blocks" "count" "I") (by decide +kernel)
  have k_1 : ∀ w ∈ wsX10, w ∈ wsX1_takeSerial := by decide +kernel
  have k_2 := hts (.constantLong RX1 35 (-1)) (by decide +kernel)
  have k_3 := hts (.fieldLink RX1 9 "NumberRows2$Blocks" "offices" "[I") (by decide +kernel)
  have k_4 := hts (.fieldLink RX1 22 "NumberRows2$Blocks" "fresh" "[J") (by decide +kernel)
  have k_5 := hts (.fieldLink RX1 19 "NumberRows2$Blocks" "lasts" "[J") (by decide +kernel)
  refine lv_iconst (v := 0) hx hb dX1_takeSerial_0 (by decide) ?_
  refine lv_istore_n (lv' := [(3, .int 0), (0, .ref h), (1, .int p0), (2, .ref hq)]) hx hb dX1_takeSerial_1 rfl hl (by decide) rfl (fun ls hl => ?_)
  refine zLoop (σ := Nat × (Nat → Int64)) (nL := 6) (μ := fun (x : Nat × (Nat → Int64)) => match x with | (i, g) => n - i) (lv := fun (x : Nat × (Nat → Int64)) => match x with | (i, g) => [(3, .int (nI i)), (0, .ref h), (1, .int p0), (2, .ref hq)]) (wf := fun (x : Nat × (Nat → Int64)) => match x with | (i, g) => [(h, .inr (2, [.ref a1, .ref a2, .ref a3, .ref a4, .int (nI n)])), (a1, .inl (k1, 50, .inl bo)), (a2, .inl (k2, 50, .inr (.inl bf))), (a3, .inl (k3, 50, .inr (.inl bl))), (a4, .inl (k4, 50, .inr (.inl g))), (hq, .inr (1, [.ref q1, .ref q2, .int (nI nr)])), (q1, .inl (j1, 50, .inr (.inl qf))), (q2, .inl (j2, 50, .inr (.inl ql)))]) (I := fun (x : Nat × (Nat → Int64)) => match x with | (i, g) => zTkI nr qf ql n bo bl p0 br g i) (fun x H locs ls hI hP hD hS hl ih => ?_) (0, br) ⟨Nat.zero_le _, fun j hj => absurd hj (Nat.not_lt_zero j), fun j _ => rfl⟩ hP hD hS (lv_sub hl [0, 1, 2, 3] rfl)
  obtain ⟨i, g⟩ := x
  have hI : zTkI nr qf ql n bo bl p0 br g i := hI
  have hl : lv_has ls 6 [(3, .int (nI i)), (0, .ref h), (1, .int p0), (2, .ref hq)] := hl
  have hP : va_P D vwCl [(h, .inr (2, [.ref a1, .ref a2, .ref a3, .ref a4, .int (nI n)])), (a1, .inl (k1, 50, .inl bo)), (a2, .inl (k2, 50, .inr (.inl bf))), (a3, .inl (k3, 50, .inr (.inl bl))), (a4, .inl (k4, 50, .inr (.inl g))), (hq, .inr (1, [.ref q1, .ref q2, .int (nI nr)])), (q1, .inl (j1, 50, .inr (.inl qf))), (q2, .inl (j2, 50, .inr (.inl ql)))] H := hP
  have hD : va_D A [(h, .inr (2, [.ref a1, .ref a2, .ref a3, .ref a4, .int (nI n)])), (a1, .inl (k1, 50, .inl bo)), (a2, .inl (k2, 50, .inr (.inl bf))), (a3, .inl (k3, 50, .inr (.inl bl))), (a4, .inl (k4, 50, .inr (.inl g))), (hq, .inr (1, [.ref q1, .ref q2, .int (nI nr)])), (q1, .inl (j1, 50, .inr (.inl qf))), (q2, .inl (j2, 50, .inr (.inl ql)))] := hD
  have hi := hI.1
  refine lv_iload_n hx hb dX1_takeSerial_2 rfl (lv_at hl 0 rfl) ?_
  refine lv_aload_n hx hb dX1_takeSerial_3 rfl (lv_at hl 1 rfl) ?_
  refine va_get (D := D) (ci := 2) (v := .int (nI n)) (C := RX1) (T := TX1) (N := 5) hx hb hts k_1 hown hK hP 0 rfl rfl 4 (by decide) k_0 (fun _ h9 => h9) rfl dX1_takeSerial_4 ?_
  refine lv_icmp_ge (tgt := 87) hx hb dX1_takeSerial_7 (by decide) (fun c_7 => ?_) (fun c_7 => ?_)
  · have c_7 : n ≤ i := (nI_leI (a := n) (b := i) (by omega) (by omega)).mp c_7
    refine lv_ldc2 hx hb hown k_2 dX1_takeSerial_87 ?_
    exact W.lret (v := (-1)) hx hb hr (fun t9 ht9 hW9 => ⟨⟨_, g, rfl, Or.inr ⟨fun j hj => hI.2.1 j (by omega), rfl⟩, by rw [ht9]; exact hP, va_K.moved hW9.alike hK, hD⟩, hS.F ht9⟩) hS.2.2 dX1_takeSerial_90
  · have c_7 : ¬ (n ≤ i) := fun q9 => c_7 ((nI_leI (a := n) (b := i) (by omega) (by omega)).mpr q9)
    refine lv_aload_n hx hb dX1_takeSerial_10 rfl (lv_at hl 1 rfl) ?_
    refine va_get (D := D) (ci := 2) (v := .ref a1) (C := RX1) (T := TX1) (N := 5) hx hb hts k_1 hown hK hP 0 rfl rfl 0 (by decide) k_3 (fun _ h9 => h9) rfl dX1_takeSerial_11 ?_
    refine lv_iload_n hx hb dX1_takeSerial_14 rfl (lv_at hl 0 rfl) ?_
    refine z_iald (k := i) hx hb hK hP 1 0 rfl rfl (by omega) (by decide) dX1_takeSerial_15 ?_
    refine lv_iload_n hx hb dX1_takeSerial_16 rfl (lv_at hl 2 rfl) ?_
    refine lv_icmp_ne (tgt := 81) hx hb dX1_takeSerial_17 (by decide) (fun c_17 => ?_) (fun c_17 => ?_)
    · have i_17 : ¬ ((bo i).toInt = p0.toInt) := fun q9 => c_17 (zi_eq.mpr q9)
      refine lv_iinc (v := (nI (i + 1))) (lv' := [(3, .int (nI (i + 1))), (0, .ref h), (1, .int p0), (2, .ref hq)]) hx hb dX1_takeSerial_81 hl (k := 0) rfl (by first | exact nI_1 _ | rfl) (by decide) rfl (fun ls hl => ?_)
      refine lv_goto (tgt := 2) hx hb dX1_takeSerial_84 (by decide) ?_
      exact ih (i + 1, g) _ _ _ (show n - (i + 1) < n - i from (by omega)) (zTkI_skip hI (by omega) (Or.inl c_17)) hP hD hS (lv_sub hl [0, 1, 2, 3] rfl)
    · have i_17 : (bo i).toInt = p0.toInt := zi_eq.mp c_17
      refine lv_aload_n hx hb dX1_takeSerial_20 rfl (lv_at hl 1 rfl) ?_
      refine va_get (D := D) (ci := 2) (v := .ref a4) (C := RX1) (T := TX1) (N := 5) hx hb hts k_1 hown hK hP 0 rfl rfl 3 (by decide) k_4 (fun _ h9 => h9) rfl dX1_takeSerial_21 ?_
      refine lv_iload_n hx hb dX1_takeSerial_24 rfl (lv_at hl 0 rfl) ?_
      refine z_lald (k := i) hx hb hK hP 4 3 rfl rfl (by omega) (by decide) dX1_takeSerial_25 ?_
      refine lv_aload_n hx hb dX1_takeSerial_26 rfl (lv_at hl 1 rfl) ?_
      refine va_get (D := D) (ci := 2) (v := .ref a3) (C := RX1) (T := TX1) (N := 5) hx hb hts k_1 hown hK hP 0 rfl rfl 2 (by decide) k_5 (fun _ h9 => h9) rfl dX1_takeSerial_27 ?_
      refine lv_iload_n hx hb dX1_takeSerial_30 rfl (lv_at hl 0 rfl) ?_
      refine z_lald (k := i) hx hb hK hP 3 2 rfl rfl (by omega) (by decide) dX1_takeSerial_31 ?_
      refine W.lcmp hx hb dX1_takeSerial_32 ?_
      refine lv_if_gt (tgt := 81) hx hb dX1_takeSerial_33 (by decide) (fun c_33 => ?_) (fun c_33 => ?_)
      · have c_33 : (bl i) < (g i) := (lg_cmp_gt _ _).mp c_33
        have i_33 : (bl i).toInt < (g i).toInt := zl_lt.mp c_33
        refine lv_iinc (v := (nI (i + 1))) (lv' := [(3, .int (nI (i + 1))), (0, .ref h), (1, .int p0), (2, .ref hq)]) hx hb dX1_takeSerial_81 hl (k := 0) rfl (by first | exact nI_1 _ | rfl) (by decide) rfl (fun ls hl => ?_)
        refine lv_goto (tgt := 2) hx hb dX1_takeSerial_84 (by decide) ?_
        exact ih (i + 1, g) _ _ _ (show n - (i + 1) < n - i from (by omega)) (zTkI_skip hI (by omega) (Or.inr c_33)) hP hD hS (lv_sub hl [0, 1, 2, 3] rfl)
      · have c_33 : ¬ ((bl i) < (g i)) := fun q9 => c_33 ((lg_cmp_gt _ _).mpr q9)
        have i_33 : ¬ ((bl i).toInt < (g i).toInt) := fun q9 => c_33 (zl_lt.mpr q9)
        refine lv_aload_n hx hb dX1_takeSerial_36 rfl (lv_at hl 3 rfl) ?_
        refine lv_aload_n hx hb dX1_takeSerial_37 rfl (lv_at hl 1 rfl) ?_
        refine va_get (D := D) (ci := 2) (v := .ref a4) (C := RX1) (T := TX1) (N := 5) hx hb hts k_1 hown hK hP 0 rfl rfl 3 (by decide) k_4 (fun _ h9 => h9) rfl dX1_takeSerial_38 ?_
        refine lv_iload_n hx hb dX1_takeSerial_41 rfl (lv_at hl 0 rfl) ?_
        refine z_lald (k := i) hx hb hK hP 4 3 rfl rfl (by omega) (by decide) dX1_takeSerial_42 ?_
        refine zRo_l (va_runV (As := [.long (g i)]) (rest := []) ⟨hx, hb, hml, hown, hts⟩ (cc_X0_firstFree l D z H.size hq q1 q2 j1 j2 nr qf ql (g i) (by omega) (by omega)) (cwV 1 hts gX1_takeSerial_X0_firstFree rfl rfl rfl (by decide +kernel) ⟨Nat.le_of_ble_eq_true rfl, Nat.le_of_ble_eq_true rfl⟩) ⟨zPre_blind, va_recv hK hP (ci := 1) (q0 := 5) rfl rfl, (zPre_mk (wc := [(hq, .inr (1, [.ref q1, .ref q2, .int (nI nr)])), (q1, .inl (j1, 50, .inr (.inl qf))), (q2, .inl (j2, 50, .inr (.inl ql)))]) (tc := [(j1, .long), (j2, .long)]) hP hK hD hC hS [5, 6, 7] (by decide) rfl rfl [4, 5] rfl (zro_free hS hA))⟩ rfl rfl hl.1 rfl (lv_room (Nat.le_of_ble_eq_true rfl)) dX1_takeSerial_43 ⟨Nat.zero_le _, Nat.zero_le _⟩) hS hA hP (fun r_43 H locs hw hP hS => ?_)
        have hw_43 : zFF nr qf ql (g i) r_43 := hw
        refine lv_lstore (lv' := [(4, .long r_43), (3, .int (nI i)), (0, .ref h), (1, .int p0), (2, .ref hq)]) hx hb dX1_takeSerial_46 hl (by decide) rfl (fun ls hl => ?_)
        refine lv_lload hx hb dX1_takeSerial_48 (lv_at hl 0 rfl) ?_
        refine lv_aload_n hx hb dX1_takeSerial_50 rfl (lv_at hl 2 rfl) ?_
        refine va_get (D := D) (ci := 2) (v := .ref a3) (C := RX1) (T := TX1) (N := 5) hx hb hts k_1 hown hK hP 0 rfl rfl 2 (by decide) k_5 (fun _ h9 => h9) rfl dX1_takeSerial_51 ?_
        refine lv_iload_n hx hb dX1_takeSerial_54 rfl (lv_at hl 1 rfl) ?_
        refine z_lald (k := i) hx hb hK hP 3 2 rfl rfl (by omega) (by decide) dX1_takeSerial_55 ?_
        refine W.lcmp hx hb dX1_takeSerial_56 ?_
        refine lv_if_gt (tgt := 73) hx hb dX1_takeSerial_57 (by decide) (fun c_57 => ?_) (fun c_57 => ?_)
        · have c_57 : (bl i) < r_43 := (lg_cmp_gt _ _).mp c_57
          have i_57 : (bl i).toInt < r_43.toInt := zl_lt.mp c_57
          refine lv_aload_n hx hb dX1_takeSerial_73 rfl (lv_at hl 2 rfl) ?_
          refine va_get (D := D) (ci := 2) (v := .ref a4) (C := RX1) (T := TX1) (N := 5) hx hb hts k_1 hown hK hP 0 rfl rfl 3 (by decide) k_4 (fun _ h9 => h9) rfl dX1_takeSerial_74 ?_
          refine lv_iload_n hx hb dX1_takeSerial_77 rfl (lv_at hl 1 rfl) ?_
          refine lv_lload hx hb dX1_takeSerial_78 (lv_at hl 0 rfl) ?_
          refine z_last (k := i) hx hb hK hP hD hS 4 3 rfl rfl (by omega) (by decide) dX1_takeSerial_80 (fun H locs hP hD hS => ?_)
          have hP : va_P D vwCl [(h, .inr (2, [.ref a1, .ref a2, .ref a3, .ref a4, .int (nI n)])), (a1, .inl (k1, 50, .inl bo)), (a2, .inl (k2, 50, .inr (.inl bf))), (a3, .inl (k3, 50, .inr (.inl bl))), (a4, .inl (k4, 50, .inr (.inl (vp_updL g i r_43)))), (hq, .inr (1, [.ref q1, .ref q2, .int (nI nr)])), (q1, .inl (j1, 50, .inr (.inl qf))), (q2, .inl (j2, 50, .inr (.inl ql)))] H := hP
          have hD : va_D A [(h, .inr (2, [.ref a1, .ref a2, .ref a3, .ref a4, .int (nI n)])), (a1, .inl (k1, 50, .inl bo)), (a2, .inl (k2, 50, .inr (.inl bf))), (a3, .inl (k3, 50, .inr (.inl bl))), (a4, .inl (k4, 50, .inr (.inl (vp_updL g i r_43)))), (hq, .inr (1, [.ref q1, .ref q2, .int (nI nr)])), (q1, .inl (j1, 50, .inr (.inl qf))), (q2, .inl (j2, 50, .inr (.inl ql)))] := hD
          refine lv_iinc (v := (nI (i + 1))) (lv' := [(3, .int (nI (i + 1))), (4, .long r_43), (0, .ref h), (1, .int p0), (2, .ref hq)]) hx hb dX1_takeSerial_81 hl (k := 1) rfl (by first | exact nI_1 _ | rfl) (by decide) rfl (fun ls hl => ?_)
          refine lv_goto (tgt := 2) hx hb dX1_takeSerial_84 (by decide) ?_
          exact ih (i + 1, (vp_updL g i r_43)) _ _ _ (show n - (i + 1) < n - i from (by omega)) (zTkI_used hI (by omega) c_17 c_33 hw_43 c_57) hP hD hS (lv_sub hl [0, 2, 3, 4] rfl)
        · have c_57 : ¬ ((bl i) < r_43) := fun q9 => c_57 ((lg_cmp_gt _ _).mpr q9)
          have i_57 : ¬ ((bl i).toInt < r_43.toInt) := fun q9 => c_57 (zl_lt.mpr q9)
          refine lv_aload_n hx hb dX1_takeSerial_60 rfl (lv_at hl 2 rfl) ?_
          refine va_get (D := D) (ci := 2) (v := .ref a4) (C := RX1) (T := TX1) (N := 5) hx hb hts k_1 hown hK hP 0 rfl rfl 3 (by decide) k_4 (fun _ h9 => h9) rfl dX1_takeSerial_61 ?_
          refine lv_iload_n hx hb dX1_takeSerial_64 rfl (lv_at hl 1 rfl) ?_
          refine lv_lload hx hb dX1_takeSerial_65 (lv_at hl 0 rfl) ?_
          refine lv_lconst (v := 1) hx hb dX1_takeSerial_67 (by decide) ?_
          refine lv_ladd hx hb dX1_takeSerial_68 ?_
          refine z_last (k := i) hx hb hK hP hD hS 4 3 rfl rfl (by omega) (by decide) dX1_takeSerial_69 (fun H locs hP hD hS => ?_)
          have hP : va_P D vwCl [(h, .inr (2, [.ref a1, .ref a2, .ref a3, .ref a4, .int (nI n)])), (a1, .inl (k1, 50, .inl bo)), (a2, .inl (k2, 50, .inr (.inl bf))), (a3, .inl (k3, 50, .inr (.inl bl))), (a4, .inl (k4, 50, .inr (.inl (vp_updL g i (r_43 + 1))))), (hq, .inr (1, [.ref q1, .ref q2, .int (nI nr)])), (q1, .inl (j1, 50, .inr (.inl qf))), (q2, .inl (j2, 50, .inr (.inl ql)))] H := hP
          have hD : va_D A [(h, .inr (2, [.ref a1, .ref a2, .ref a3, .ref a4, .int (nI n)])), (a1, .inl (k1, 50, .inl bo)), (a2, .inl (k2, 50, .inr (.inl bf))), (a3, .inl (k3, 50, .inr (.inl bl))), (a4, .inl (k4, 50, .inr (.inl (vp_updL g i (r_43 + 1))))), (hq, .inr (1, [.ref q1, .ref q2, .int (nI nr)])), (q1, .inl (j1, 50, .inr (.inl qf))), (q2, .inl (j2, 50, .inr (.inl ql)))] := hD
          refine lv_lload hx hb dX1_takeSerial_70 (lv_at hl 0 rfl) ?_
          exact W.lret (v := r_43) hx hb hr (fun t9 ht9 hW9 => ⟨⟨_, (vp_updL g i (r_43 + 1)), rfl, zTkI_take hI (by omega) c_17 c_33 hw_43 c_57, by rw [ht9]; exact hP, va_K.moved hW9.alike hK, hD⟩, hS.F ht9⟩) hS.2.2 dX1_takeSerial_72
end
section
/-! numbers that are given -/
theorem zcnt_upd {F : Int64 → Bool} {g : Nat → Int64} {k : Nat} {v : Int64} : ∀ {n : Nat}, k < n → zcnt (fun j => F (vp_updL g k v j)) n + (if F (g k) then 1 else 0) = zcnt (fun j => F (g j)) n + (if F v then 1 else 0)
  | 0, h => absurd h (Nat.not_lt_zero _)
  | n + 1, h => by
    show zcnt _ n + _ + _ = zcnt _ n + _ + _
    dsimp only
    by_cases hk : k = n
    · subst hk
      have e : zcnt (fun j => F (vp_updL g k v j)) k = zcnt (fun j => F (g j)) k := zcnt_congr (fun j hj => by show F (vp_updL g k v j) = F (g j); rw [pk_uLn (by omega)])
      have e2 : vp_updL g k v k = v := pk_uLs
      simp only [e, e2]; omega
    · have ih := zcnt_upd (F := F) (g := g) (v := v) (n := n) (k := k) (by omega)
      have e2 : vp_updL g k v n = g n := pk_uLn (by omega)
      simp only [e2]; omega
/-- place k goes: the last one fills it -/
theorem zcnt_drop {F : Int64 → Bool} {g : Nat → Int64} {k q : Nat} (hk : k < q) : zcnt (fun j => F (vp_updL g k (g (q - 1)) j)) (q - 1) + (if F (g k) then 1 else 0) = zcnt (fun j => F (g j)) q := by
  obtain ⟨q, rfl⟩ : ∃ y, q = y + 1 := ⟨q - 1, by omega⟩
  show zcnt _ q + _ = zcnt _ q + _
  dsimp only
  by_cases h : k = q
  · subst h
    have e : zcnt (fun j => F (vp_updL g k (g (k + 1 - 1)) j)) k = zcnt (fun j => F (g j)) k := zcnt_congr (fun j hj => by show F (vp_updL g k _ j) = F (g j); rw [pk_uLn (by omega)])
    rw [e]
  · exact zcnt_upd (by omega)
def zIn (p0 p1 : Int64) (x : Int64) : Bool := decide (p0 ≤ zser x) && decide (zser x ≤ p1)
/-- how many of the first n have F -/
def zN (F : Int64 → Bool) (g : Nat → Int64) (n : Nat) : Nat := zcnt (fun j => F (g j)) n
def zRow (p0 p1 : Int64) (n : Nat) (gn : Nat → Int64) (q : Nat) (g : Nat → Int64) : Prop := q ≤ n ∧ (n - q = zN (zIn p0 p1) gn n) ∧ ∀ F : Int64 → Bool, zN F g q = zN (fun x => F x && !zIn p0 p1 x) gn n
def zRmI (p0 p1 : Int64) (n : Nat) (gn : Nat → Int64) (t q : Nat) (g : Nat → Int64) : Prop :=
  t ≤ q ∧ q ≤ n ∧ (∀ j, t ≤ j → j < q → zIn p0 p1 (g j) = false) ∧ zN (zIn p0 p1) g q + (n - q) = zN (zIn p0 p1) gn n ∧ ∀ F : Int64 → Bool, zN (fun x => F x && !zIn p0 p1 x) g q = zN (fun x => F x && !zIn p0 p1 x) gn n
theorem zRmI_0 {p0 p1 : Int64} {n : Nat} {gn : Nat → Int64} : zRmI p0 p1 n gn n n gn := ⟨Nat.le_refl _, Nat.le_refl _, fun j h1 h2 => by omega, by omega, fun _ => rfl⟩
theorem zRmI_stay {p0 p1 : Int64} {n t q : Nat} {gn g : Nat → Int64} (h : zRmI p0 p1 n gn (t + 1) q g) (hn : zIn p0 p1 (g t) = false) : zRmI p0 p1 n gn t q g := by
  obtain ⟨h1, h2, h3, h4, h5⟩ := h
  refine ⟨by omega, h2, fun j q1 q2 => ?_, h4, h5⟩
  by_cases e : j = t
  · rw [e]; exact hn
  · exact h3 j (by omega) q2
theorem zRmI_go {p0 p1 : Int64} {n t q : Nat} {gn g : Nat → Int64} (h : zRmI p0 p1 n gn (t + 1) q g) (hn : zIn p0 p1 (g t) = true) : zRmI p0 p1 n gn t (q - 1) (vp_updL g t (g (q - 1))) := by
  obtain ⟨h1, h2, h3, h4, h5⟩ := h
  have d1 := zcnt_drop (F := zIn p0 p1) (g := g) (k := t) (q := q) (by omega)
  rw [if_pos hn] at d1
  refine ⟨by omega, by omega, fun j q1 q2 => ?_, ?_, fun F => ?_⟩
  · by_cases e : j = t
    · subst e; rw [pk_uLs]; exact h3 (q - 1) (by omega) (by omega)
    · rw [pk_uLn e]; exact h3 j (by omega) (by omega)
  · unfold zN at h4 ⊢; omega
  · have d2 := zcnt_drop (F := fun x => F x && !zIn p0 p1 x) (g := g) (k := t) (q := q) (by omega)
    rw [if_neg (by simp [hn])] at d2
    have := h5 F
    dsimp only [zN] at this d2 ⊢; omega
theorem zRmI_end {p0 p1 : Int64} {n q : Nat} {gn g : Nat → Int64} (h : zRmI p0 p1 n gn 0 q g) : zRow p0 p1 n gn q g := by
  obtain ⟨h1, h2, h3, h4, h5⟩ := h
  have z0 : zN (zIn p0 p1) g q = 0 := by
    rcases Nat.eq_zero_or_pos (zN (zIn p0 p1) g q) with e | e
    · exact e
    · obtain ⟨j, q1, q2⟩ := zcnt_pos.mp e
      rw [h3 j (Nat.zero_le _) q1] at q2; cases q2
  refine ⟨h2, by omega, fun F => ?_⟩
  rw [← h5 F]
  exact zcnt_congr (fun j hj => by show F (g j) = (F (g j) && !zIn p0 p1 (g j)); rw [h3 j (Nat.zero_le _) hj]; simp)
theorem zIn_t {p0 p1 x y : Int64} (e : y = zser x) (h1 : ¬ y < p0) (h2 : ¬ p1 < y) : zIn p0 p1 x = true := by
  subst e; unfold zIn; rw [decide_eq_true (Int64.not_lt.mp h1), decide_eq_true (Int64.not_lt.mp h2)]; rfl
theorem zIn_f1 {p0 p1 x y : Int64} (e : y = zser x) (h1 : y < p0) : zIn p0 p1 x = false := by
  subst e; unfold zIn; rw [decide_eq_false (Int64.not_le.mpr h1)]; rfl
theorem zIn_f2 {p0 p1 x y : Int64} (e : y = zser x) (h1 : p1 < y) : zIn p0 p1 x = false := by
  subst e; unfold zIn; rw [decide_eq_false (Int64.not_le.mpr h1), Bool.and_false]
theorem zdn {t : Nat} {x : Int32} (ht : t ≤ 4000) (e : x = nI t - 1) (h : ¬ x < 0) : ∃ k, t = k + 1 ∧ x = nI k := by
  cases t with
  | zero => exact absurd (by rw [e]; decide) h
  | succ k => exact ⟨k, rfl, by rw [e, nI_pred]⟩
theorem zdn0 {t : Nat} {x : Int32} (ht : t ≤ 4000) (e : x = nI t - 1) (h : x < 0) : t = 0 := by
  cases t with
  | zero => rfl
  | succ k => rw [e, nI_pred] at h; exact absurd h (nI_pos (by omega))

set_option maxHeartbeats 4000000 in
set_option maxRecDepth 100000 in
theorem cc_X3_isFull (l : Launch) (D : va_G) (z : zG) (sz : Nat) (h : Nat) (a1 : Nat) (k1 : ClassId) (n : Nat) (gn : Nat → Int64) (hn : n ≤ 512) : Met l yX3_isFull wsX3_isFull ({ frames := 0, cells := 0, slots := 0, locals := 0 }) (zPre D z [.ref h] sz [(h, .inr (3, [.ref a1, .int (nI n)])), (a1, .inl (k1, 512, .inr (.inl gn)))] [(k1, .long)] (va_A [] sz)) (va_Qi (fun (r : Int32) (u : Unit) => zB r (512 ≤ n)) zT (va_A [] sz)) 0 0 (va_A [] sz) := by
  refine Met.ofW (cc := cX3_isFull) (maxL := 1) (ret := (some .boolean)) (by decide) rfl ?_
  intro p e s m args below meth c s₁ B hml hv
  obtain ⟨rfl, hsz, hP, hK, hD, hC⟩ := hv
  have hx := B.exec
  have hb := B.bytes
  have hr := B.returns
  have hts := atoms_spec (ws := wsX3_isFull) B.pre
  have hown : s.vm.findClass RX3 = some m.cls := findClass_of_methodNamed B.named
  have hlocks := B.notSynchronized
  subst hsz
  generalize hAe : va_A [] s.heap.size = A at hC ⊢
  have hA : ∀ q : Nat, s.heap.size ≤ q → A q := fun q h => by rw [← hAe]; exact Or.inr h
  have hS : va_S A s.heap s.heap [] := va_S.rf
  have hP : va_P D vwCl [(h, .inr (3, [.ref a1, .int (nI n)])), (a1, .inl (k1, 512, .inr (.inl gn)))] s.heap := hP
  have hl := lv_entry ([.ref h]) (n := 1) (Nat.le_of_ble_eq_true rfl)
  rw [lg_entry_eq]
  generalize (lg_sl ([.ref h]) ++ List.replicate (1 - (lg_sl ([.ref h])).length) Slot.unset).toArray = ls at hl ⊢
  have hl : lv_has ls 1 [(0, .ref h)] := hl
  refine zNameH (D := D) (A := A) (ws := [(h, .inr (3, [.ref a1, .int (nI n)])), (a1, .inl (k1, 512, .inr (.inl gn)))]) (fun H locs hP hS => ?_) hP hS
  have k_0 := hts (.fieldLink RX3 15 "NumberRows2$GivenNumbers" "count" "I") (by decide +kernel)
  have k_1 : ∀ w ∈ wsX30, w ∈ wsX3_isFull := by decide +kernel
  refine lv_aload_n hx hb dX3_isFull_0 rfl (lv_at hl 0 rfl) ?_
  refine va_get (D := D) (ci := 3) (v := .int (nI n)) (C := RX3) (T := TX3) (N := 2) hx hb hts k_1 hown hK hP 0 rfl rfl 1 (by decide) k_0 (fun _ h9 => h9) rfl dX3_isFull_1 ?_
  refine lv_sipush (v := 512) hx hb dX3_isFull_4 (by decide) ?_
  refine lv_icmp_lt (tgt := 14) hx hb dX3_isFull_7 (by decide) (fun c_7 => ?_) (fun c_7 => ?_)
  · have c_7 : n < 512 := (nI_ltI (a := n) (b := 512) (by omega) (by omega)).mp c_7
    refine lv_iconst (v := 0) hx hb dX3_isFull_14 (by decide) ?_
    exact W.zret (v := 0) hx hb hr rfl (fun t9 ht9 hW9 => ⟨⟨_, (), rfl, zB_f (by omega), trivial⟩, hS.F ht9⟩) hS.2.2 dX3_isFull_15
  · have c_7 : ¬ (n < 512) := fun q9 => c_7 ((nI_ltI (a := n) (b := 512) (by omega) (by omega)).mpr q9)
    refine lv_iconst (v := 1) hx hb dX3_isFull_10 (by decide) ?_
    refine lv_goto (tgt := 15) hx hb dX3_isFull_11 (by decide) ?_
    exact W.zret (v := 1) hx hb hr rfl (fun t9 ht9 hW9 => ⟨⟨_, (), rfl, zB_t (by omega), trivial⟩, hS.F ht9⟩) hS.2.2 dX3_isFull_15

set_option maxHeartbeats 4000000 in
set_option maxRecDepth 100000 in
theorem cc_X3_add (l : Launch) (D : va_G) (z : zG) (sz : Nat) (h : Nat) (a1 : Nat) (k1 : ClassId) (n : Nat) (gn : Nat → Int64) (p0 : Int64) (hn : n < 512) : Met l yX3_add wsX3_add ({ frames := 0, cells := 0, slots := 0, locals := 0 }) (zPre D z [.ref h, .long p0] sz [(h, .inr (3, [.ref a1, .int (nI n)])), (a1, .inl (k1, 512, .inr (.inl gn)))] [(k1, .long)] (va_A [(h, .inr (3, [.ref a1, .int (nI n)])), (a1, .inl (k1, 512, .inr (.inl gn)))] sz)) (va_Qv (fun u : Nat × (Nat → Int64) => u.1 = n + 1 ∧ u.2 = vp_updL gn n p0) (zAt D [(k1, .long)] (va_A [(h, .inr (3, [.ref a1, .int (nI n)])), (a1, .inl (k1, 512, .inr (.inl gn)))] sz) (fun u : Nat × (Nat → Int64) => [(h, .inr (3, [.ref a1, .int (nI u.1)])), (a1, .inl (k1, 512, .inr (.inl u.2)))])) (va_A [(h, .inr (3, [.ref a1, .int (nI n)])), (a1, .inl (k1, 512, .inr (.inl gn)))] sz)) 0 0 (va_A [(h, .inr (3, [.ref a1, .int (nI n)])), (a1, .inl (k1, 512, .inr (.inl gn)))] sz) := by
  refine Met.ofW (cc := cX3_add) (maxL := 3) (ret := none) (by decide) rfl ?_
  intro p e s m args below meth c s₁ B hml hv
  obtain ⟨rfl, hsz, hP, hK, hD, hC⟩ := hv
  have hx := B.exec
  have hb := B.bytes
  have hr := B.returns
  have hts := atoms_spec (ws := wsX3_add) B.pre
  have hown : s.vm.findClass RX3 = some m.cls := findClass_of_methodNamed B.named
  have hlocks := B.notSynchronized
  subst hsz
  have hD := hD.self (sz := s.heap.size)
  generalize hAe : va_A [(h, .inr (3, [.ref a1, .int (nI n)])), (a1, .inl (k1, 512, .inr (.inl gn)))] s.heap.size = A at hC hD ⊢
  have hA : ∀ q : Nat, s.heap.size ≤ q → A q := fun q h => by rw [← hAe]; exact Or.inr h
  have hS : va_S A s.heap s.heap [] := va_S.rf
  have hP : va_P D vwCl [(h, .inr (3, [.ref a1, .int (nI n)])), (a1, .inl (k1, 512, .inr (.inl gn)))] s.heap := hP
  have hl := lv_entry ([.ref h, .long p0]) (n := 3) (Nat.le_of_ble_eq_true rfl)
  rw [lg_entry_eq]
  generalize (lg_sl ([.ref h, .long p0]) ++ List.replicate (3 - (lg_sl ([.ref h, .long p0])).length) Slot.unset).toArray = ls at hl ⊢
  have hl : lv_has ls 3 [(0, .ref h), (1, .long p0)] := hl
  refine zNameH (D := D) (A := A) (ws := [(h, .inr (3, [.ref a1, .int (nI n)])), (a1, .inl (k1, 512, .inr (.inl gn)))]) (fun H locs hP hS => ?_) hP hS
  have k_0 := hts (.fieldLink RX3 15 "NumberRows2$GivenNumbers" "count" "I") (by decide +kernel)
  have k_1 : ∀ w ∈ wsX30, w ∈ wsX3_add := by decide +kernel
  have k_2 := hts (.fieldLink RX3 9 "NumberRows2$GivenNumbers" "numbers" "[J") (by decide +kernel)
  refine lv_aload_n hx hb dX3_add_0 rfl (lv_at hl 0 rfl) ?_
  refine va_get (D := D) (ci := 3) (v := .int (nI n)) (C := RX3) (T := TX3) (N := 2) hx hb hts k_1 hown hK hP 0 rfl rfl 1 (by decide) k_0 (fun _ h9 => h9) rfl dX3_add_1 ?_
  refine lv_sipush (v := 512) hx hb dX3_add_4 (by decide) ?_
  refine lv_icmp_ge (tgt := 30) hx hb dX3_add_7 (by decide) (fun c_7 => ?_) (fun c_7 => ?_)
  · have c_7 : 512 ≤ n := (nI_leI (a := 512) (b := n) (by omega) (by omega)).mp c_7
    exact absurd c_7 (by omega)
  · have c_7 : ¬ (512 ≤ n) := fun q9 => c_7 ((nI_leI (a := 512) (b := n) (by omega) (by omega)).mpr q9)
    refine lv_aload_n hx hb dX3_add_10 rfl (lv_at hl 0 rfl) ?_
    refine va_get (D := D) (ci := 3) (v := .ref a1) (C := RX3) (T := TX3) (N := 2) hx hb hts k_1 hown hK hP 0 rfl rfl 0 (by decide) k_2 (fun _ h9 => h9) rfl dX3_add_11 ?_
    refine lv_aload_n hx hb dX3_add_14 rfl (lv_at hl 0 rfl) ?_
    refine va_get (D := D) (ci := 3) (v := .int (nI n)) (C := RX3) (T := TX3) (N := 2) hx hb hts k_1 hown hK hP 0 rfl rfl 1 (by decide) k_0 (fun _ h9 => h9) rfl dX3_add_15 ?_
    refine lv_lload_n hx hb dX3_add_18 rfl (lv_at hl 1 rfl) ?_
    refine z_last (k := n) hx hb hK hP hD hS 1 0 rfl rfl (by omega) (by decide) dX3_add_19 (fun H locs hP hD hS => ?_)
    have hP : va_P D vwCl [(h, .inr (3, [.ref a1, .int (nI n)])), (a1, .inl (k1, 512, .inr (.inl (vp_updL gn n p0))))] H := hP
    have hD : va_D A [(h, .inr (3, [.ref a1, .int (nI n)])), (a1, .inl (k1, 512, .inr (.inl (vp_updL gn n p0))))] := hD
    refine lv_aload_n hx hb dX3_add_20 rfl (lv_at hl 0 rfl) ?_
    refine lv_dup hx hb dX3_add_21 rfl ?_
    refine va_get (D := D) (ci := 3) (v := .int (nI n)) (C := RX3) (T := TX3) (N := 2) hx hb hts k_1 hown hK hP 0 rfl rfl 1 (by decide) k_0 (fun _ h9 => h9) rfl dX3_add_22 ?_
    refine lv_iconst (v := 1) hx hb dX3_add_25 (by decide) ?_
    refine lv_iadd hx hb dX3_add_26 ?_
    refine lv_topi (fun y_1 e_1 => ?_)
    obtain rfl : y_1 = nI (n + 1) := e_1.trans (by first | exact nI_1 _ | exact nI_add _ 1)
    refine va_put (D := D) (ci := 3) (v := .int (nI (n + 1))) (ty := .int) (C := RX3) (T := TX3) (N := 2) hx hb hts k_1 tyX3 tyX3_ok nmX3 hown hK hP hD hS 0 rfl rfl 1 (by decide) k_0 (fun _ h9 => h9) rfl (by decide +kernel) rfl rfl (Nat.le_of_ble_eq_true rfl) dX3_add_27 (fun H locs hP hD hS => ?_)
    have hP : va_P D vwCl [(h, .inr (3, [.ref a1, .int (nI (n + 1))])), (a1, .inl (k1, 512, .inr (.inl (vp_updL gn n p0))))] H := hP
    have hD : va_D A [(h, .inr (3, [.ref a1, .int (nI (n + 1))])), (a1, .inl (k1, 512, .inr (.inl (vp_updL gn n p0))))] := hD
    exact W.vret hx hb hr (fun t9 ht9 hW9 => ⟨⟨((n + 1), (vp_updL gn n p0)), rfl, ⟨rfl, rfl⟩, by rw [ht9]; exact hP, va_K.moved hW9.alike hK, hD⟩, hS.F ht9⟩) hS.2.2 dX3_add_30

set_option maxHeartbeats 4000000 in
set_option maxRecDepth 100000 in
theorem cc_X3_contains (l : Launch) (D : va_G) (z : zG) (sz : Nat) (h : Nat) (a1 : Nat) (k1 : ClassId) (n : Nat) (gn : Nat → Int64) (p0 : Int64) (hn : n ≤ 512) : Met l yX3_contains wsX3_contains ({ frames := 0, cells := 0, slots := 0, locals := 0 }) (zPre D z [.ref h, .long p0] sz [(h, .inr (3, [.ref a1, .int (nI n)])), (a1, .inl (k1, 512, .inr (.inl gn)))] [(k1, .long)] (va_A [] sz)) (va_Qi (fun (r : Int32) (u : Unit) => zB r (∃ j, j < n ∧ gn j = p0)) zT (va_A [] sz)) 0 0 (va_A [] sz) := by
  refine Met.ofW (cc := cX3_contains) (maxL := 4) (ret := (some .boolean)) (by decide) rfl ?_
  intro p e s m args below meth c s₁ B hml hv
  obtain ⟨rfl, hsz, hP, hK, hD, hC⟩ := hv
  have hx := B.exec
  have hb := B.bytes
  have hr := B.returns
  have hts := atoms_spec (ws := wsX3_contains) B.pre
  have hown : s.vm.findClass RX3 = some m.cls := findClass_of_methodNamed B.named
  have hlocks := B.notSynchronized
  subst hsz
  generalize hAe : va_A [] s.heap.size = A at hC ⊢
  have hA : ∀ q : Nat, s.heap.size ≤ q → A q := fun q h => by rw [← hAe]; exact Or.inr h
  have hS : va_S A s.heap s.heap [] := va_S.rf
  have hP : va_P D vwCl [(h, .inr (3, [.ref a1, .int (nI n)])), (a1, .inl (k1, 512, .inr (.inl gn)))] s.heap := hP
  have hl := lv_entry ([.ref h, .long p0]) (n := 4) (Nat.le_of_ble_eq_true rfl)
  rw [lg_entry_eq]
  generalize (lg_sl ([.ref h, .long p0]) ++ List.replicate (4 - (lg_sl ([.ref h, .long p0])).length) Slot.unset).toArray = ls at hl ⊢
  have hl : lv_has ls 4 [(0, .ref h), (1, .long p0)] := hl
  refine zNameH (D := D) (A := A) (ws := [(h, .inr (3, [.ref a1, .int (nI n)])), (a1, .inl (k1, 512, .inr (.inl gn)))]) (fun H locs hP hS => ?_) hP hS
  have k_0 := hts (.fieldLink RX3 15 "NumberRows2$GivenNumbers" "count" "I") (by decide +kernel)
  have k_1 : ∀ w ∈ wsX30, w ∈ wsX3_contains := by decide +kernel
  have k_2 := hts (.fieldLink RX3 9 "NumberRows2$GivenNumbers" "numbers" "[J") (by decide +kernel)
  refine lv_iconst (v := 0) hx hb dX3_contains_0 (by decide) ?_
  refine lv_istore_n (lv' := [(3, .int 0), (0, .ref h), (1, .long p0)]) hx hb dX3_contains_1 rfl hl (by decide) rfl (fun ls hl => ?_)
  refine zLoop (σ := Nat) (nL := 4) (μ := fun (i : Nat) => n - i) (lv := fun (i : Nat) => [(3, .int (nI i)), (0, .ref h), (1, .long p0)]) (wf := fun (i : Nat) => [(h, .inr (3, [.ref a1, .int (nI n)])), (a1, .inl (k1, 512, .inr (.inl gn)))]) (I := fun (i : Nat) => i ≤ n ∧ ∀ j, j < i → ¬ gn j = p0) (fun x H locs ls hI hP hD hS hl ih => ?_) 0 ⟨Nat.zero_le _, fun j hj => absurd hj (Nat.not_lt_zero j)⟩ hP hD hS (lv_sub hl [0, 1, 2] rfl)
  obtain ⟨i, rfl⟩ : ∃ y9, y9 = x := ⟨_, rfl⟩
  have hI : i ≤ n ∧ ∀ j, j < i → ¬ gn j = p0 := hI
  have hl : lv_has ls 4 [(3, .int (nI i)), (0, .ref h), (1, .long p0)] := hl
  have hP : va_P D vwCl [(h, .inr (3, [.ref a1, .int (nI n)])), (a1, .inl (k1, 512, .inr (.inl gn)))] H := hP
  have hD : va_D (fun _ => True) [(h, .inr (3, [.ref a1, .int (nI n)])), (a1, .inl (k1, 512, .inr (.inl gn)))] := hD
  refine lv_iload_n hx hb dX3_contains_2 rfl (lv_at hl 0 rfl) ?_
  refine lv_aload_n hx hb dX3_contains_3 rfl (lv_at hl 1 rfl) ?_
  refine va_get (D := D) (ci := 3) (v := .int (nI n)) (C := RX3) (T := TX3) (N := 2) hx hb hts k_1 hown hK hP 0 rfl rfl 1 (by decide) k_0 (fun _ h9 => h9) rfl dX3_contains_4 ?_
  refine lv_icmp_ge (tgt := 29) hx hb dX3_contains_7 (by decide) (fun c_7 => ?_) (fun c_7 => ?_)
  · have c_7 : n ≤ i := (nI_leI (a := n) (b := i) (by omega) (by omega)).mp c_7
    refine lv_iconst (v := 0) hx hb dX3_contains_29 (by decide) ?_
    exact W.zret (v := 0) hx hb hr rfl (fun t9 ht9 hW9 => ⟨⟨_, (), rfl, zB_f (fun ⟨j, q1, q2⟩ => hI.2 j (by omega) q2), trivial⟩, hS.F ht9⟩) hS.2.2 dX3_contains_30
  · have c_7 : ¬ (n ≤ i) := fun q9 => c_7 ((nI_leI (a := n) (b := i) (by omega) (by omega)).mpr q9)
    refine lv_aload_n hx hb dX3_contains_10 rfl (lv_at hl 1 rfl) ?_
    refine va_get (D := D) (ci := 3) (v := .ref a1) (C := RX3) (T := TX3) (N := 2) hx hb hts k_1 hown hK hP 0 rfl rfl 0 (by decide) k_2 (fun _ h9 => h9) rfl dX3_contains_11 ?_
    refine lv_iload_n hx hb dX3_contains_14 rfl (lv_at hl 0 rfl) ?_
    refine z_lald (k := i) hx hb hK hP 1 0 rfl rfl (by omega) (by decide) dX3_contains_15 ?_
    refine lv_lload_n hx hb dX3_contains_16 rfl (lv_at hl 2 rfl) ?_
    refine W.lcmp hx hb dX3_contains_17 ?_
    refine lv_if_ne (tgt := 23) hx hb dX3_contains_18 (by decide) (fun c_18 => ?_) (fun c_18 => ?_)
    · have c_18 : ¬ ((gn i) = p0) := fun q9 => c_18 ((lg_cmp_eq _ _).mpr q9)
      have i_18 : ¬ ((gn i).toInt = p0.toInt) := fun q9 => c_18 (zl_eq.mpr q9)
      refine lv_iinc (v := (nI (i + 1))) (lv' := [(3, .int (nI (i + 1))), (0, .ref h), (1, .long p0)]) hx hb dX3_contains_23 hl (k := 0) rfl (by first | exact nI_1 _ | rfl) (by decide) rfl (fun ls hl => ?_)
      refine lv_goto (tgt := 2) hx hb dX3_contains_26 (by decide) ?_
      exact ih (i + 1) _ _ _ (show n - (i + 1) < n - i from (by omega)) ⟨by omega, lt_s hI.2 c_18⟩ hP hD hS (lv_sub hl [0, 1, 2] rfl)
    · have c_18 : (gn i) = p0 := (lg_cmp_eq _ _).mp c_18
      have i_18 : (gn i).toInt = p0.toInt := zl_eq.mp c_18
      refine lv_iconst (v := 1) hx hb dX3_contains_21 (by decide) ?_
      exact W.zret (v := 1) hx hb hr rfl (fun t9 ht9 hW9 => ⟨⟨_, (), rfl, zB_t ⟨i, by omega, c_18⟩, trivial⟩, hS.F ht9⟩) hS.2.2 dX3_contains_22

set_option maxHeartbeats 4000000 in
set_option maxRecDepth 100000 in
theorem cc_X3_removeRow (l : Launch) (D : va_G) (z : zG) (sz : Nat) (h : Nat) (a1 : Nat) (k1 : ClassId) (n : Nat) (gn : Nat → Int64) (p0 : Int64) (p1 : Int64) (hn : n ≤ 512) : Met l yX3_removeRow wsX3_removeRow ({ frames := 1, cells := 0, slots := 0, locals := 21 }) (zPre D z [.ref h, .long p0, .long p1] sz [(h, .inr (3, [.ref a1, .int (nI n)])), (a1, .inl (k1, 512, .inr (.inl gn)))] [(k1, .long)] (va_A [(h, .inr (3, [.ref a1, .int (nI n)])), (a1, .inl (k1, 512, .inr (.inl gn)))] sz)) (va_Qi (fun (r : Int32) (u : Nat × (Nat → Int64)) => zRow p0 p1 n gn u.1 u.2 ∧ r = nI (n - u.1)) (zAt D [(k1, .long)] (va_A [(h, .inr (3, [.ref a1, .int (nI n)])), (a1, .inl (k1, 512, .inr (.inl gn)))] sz) (fun u : Nat × (Nat → Int64) => [(h, .inr (3, [.ref a1, .int (nI u.1)])), (a1, .inl (k1, 512, .inr (.inl u.2)))])) (va_A [(h, .inr (3, [.ref a1, .int (nI n)])), (a1, .inl (k1, 512, .inr (.inl gn)))] sz)) 0 0 (va_A [(h, .inr (3, [.ref a1, .int (nI n)])), (a1, .inl (k1, 512, .inr (.inl gn)))] sz) := by
  refine Met.ofW (cc := cX3_removeRow) (maxL := 9) (ret := (some .int)) (by decide) rfl ?_
  intro p e s m args below meth c s₁ B hml hv
  obtain ⟨rfl, hsz, hP, hK, hD, hC⟩ := hv
  have hx := B.exec
  have hb := B.bytes
  have hr := B.returns
  have hts := atoms_spec (ws := wsX3_removeRow) B.pre
  have hown : s.vm.findClass RX3 = some m.cls := findClass_of_methodNamed B.named
  have hlocks := B.notSynchronized
  subst hsz
  have hD := hD.self (sz := s.heap.size)
  generalize hAe : va_A [(h, .inr (3, [.ref a1, .int (nI n)])), (a1, .inl (k1, 512, .inr (.inl gn)))] s.heap.size = A at hC hD ⊢
  have hA : ∀ q : Nat, s.heap.size ≤ q → A q := fun q h => by rw [← hAe]; exact Or.inr h
  have hS : va_S A s.heap s.heap [] := va_S.rf
  have hP : va_P D vwCl [(h, .inr (3, [.ref a1, .int (nI n)])), (a1, .inl (k1, 512, .inr (.inl gn)))] s.heap := hP
  have hl := lv_entry ([.ref h, .long p0, .long p1]) (n := 9) (Nat.le_of_ble_eq_true rfl)
  rw [lg_entry_eq]
  generalize (lg_sl ([.ref h, .long p0, .long p1]) ++ List.replicate (9 - (lg_sl ([.ref h, .long p0, .long p1])).length) Slot.unset).toArray = ls at hl ⊢
  have hl : lv_has ls 9 [(0, .ref h), (1, .long p0), (3, .long p1)] := hl
  refine zNameH (D := D) (A := A) (ws := [(h, .inr (3, [.ref a1, .int (nI n)])), (a1, .inl (k1, 512, .inr (.inl gn)))]) (fun H locs hP hS => ?_) hP hS
  have k_0 := hts (.fieldLink RX3 15 "NumberRows2$GivenNumbers" "count" "I") (by decide +kernel)
  have k_1 : ∀ w ∈ wsX30, w ∈ wsX3_removeRow := by decide +kernel
  have k_2 := hts (.fieldLink RX3 9 "NumberRows2$GivenNumbers" "numbers" "[J") (by decide +kernel)
  have k_3 : va_Nw (.methodLinkNest RX3 19 yX6_serialOf RX6) s := hC.1 _ (by decide +kernel)
  have k_4 := hts (.initialized RX6) (by decide +kernel)
  have k_5 := hts (.static yX6_serialOf) (by decide +kernel)
  refine lv_aload_n hx hb dX3_removeRow_0 rfl (lv_at hl 0 rfl) ?_
  refine va_get (D := D) (ci := 3) (v := .int (nI n)) (C := RX3) (T := TX3) (N := 2) hx hb hts k_1 hown hK hP 0 rfl rfl 1 (by decide) k_0 (fun _ h9 => h9) rfl dX3_removeRow_1 ?_
  refine lv_istore (lv' := [(5, .int (nI n)), (0, .ref h), (1, .long p0), (3, .long p1)]) hx hb dX3_removeRow_4 hl (by decide) rfl (fun ls hl => ?_)
  refine lv_iload hx hb dX3_removeRow_6 (lv_at hl 0 rfl) ?_
  refine lv_iconst (v := 1) hx hb dX3_removeRow_8 (by decide) ?_
  refine lv_isub hx hb dX3_removeRow_9 ?_
  refine lv_istore (lv' := [(6, .int ((nI n) - 1)), (5, .int (nI n)), (0, .ref h), (1, .long p0), (3, .long p1)]) hx hb dX3_removeRow_10 hl (by decide) rfl (fun ls hl => ?_)
  refine zLoop (σ := Nat × Int32 × Nat × (Nat → Int64)) (nL := 9) (μ := fun (x : Nat × Int32 × Nat × (Nat → Int64)) => match x with | (t, x6, q, g) => t) (lv := fun (x : Nat × Int32 × Nat × (Nat → Int64)) => match x with | (t, x6, q, g) => [(6, .int x6), (0, .ref h), (1, .long p0), (3, .long p1), (5, .int (nI n))]) (wf := fun (x : Nat × Int32 × Nat × (Nat → Int64)) => match x with | (t, x6, q, g) => [(h, .inr (3, [.ref a1, .int (nI q)])), (a1, .inl (k1, 512, .inr (.inl g)))]) (I := fun (x : Nat × Int32 × Nat × (Nat → Int64)) => match x with | (t, x6, q, g) => zRmI p0 p1 n gn t q g ∧ x6 = nI t - 1) (fun x H locs ls hI hP hD hS hl ih => ?_) (n, (nI n - 1), n, gn) ⟨zRmI_0, rfl⟩ hP hD hS (lv_sub hl [0, 2, 3, 4, 1] rfl)
  obtain ⟨t, x6, q, g⟩ := x
  have hI : zRmI p0 p1 n gn t q g ∧ x6 = nI t - 1 := hI
  have hl : lv_has ls 9 [(6, .int x6), (0, .ref h), (1, .long p0), (3, .long p1), (5, .int (nI n))] := hl
  have hP : va_P D vwCl [(h, .inr (3, [.ref a1, .int (nI q)])), (a1, .inl (k1, 512, .inr (.inl g)))] H := hP
  have hD : va_D A [(h, .inr (3, [.ref a1, .int (nI q)])), (a1, .inl (k1, 512, .inr (.inl g)))] := hD
  have hi := hI.1.1
  have hi2 := hI.1.2.1
  refine lv_iload hx hb dX3_removeRow_12 (lv_at hl 0 rfl) ?_
  refine lv_if_lt (tgt := 75) hx hb dX3_removeRow_14 (by decide) (fun c_14 => ?_) (fun c_14 => ?_)
  · have i_14 : x6.toInt < 0 := zi_lt.mp c_14
    refine lv_iload hx hb dX3_removeRow_75 (lv_at hl 4 rfl) ?_
    refine lv_aload_n hx hb dX3_removeRow_77 rfl (lv_at hl 1 rfl) ?_
    refine va_get (D := D) (ci := 3) (v := .int (nI q)) (C := RX3) (T := TX3) (N := 2) hx hb hts k_1 hown hK hP 0 rfl rfl 1 (by decide) k_0 (fun _ h9 => h9) rfl dX3_removeRow_78 ?_
    refine lv_isub hx hb dX3_removeRow_81 ?_
    exact W.iret (v := ((nI n) - (nI q))) hx hb hr (fun t9 ht9 hW9 => ⟨⟨_, (q, g), rfl, ⟨by obtain rfl := zdn0 (by omega) hI.2 c_14; exact zRmI_end hI.1, pk_sub (by omega)⟩, by rw [ht9]; exact hP, va_K.moved hW9.alike hK, hD⟩, hS.F ht9⟩) hS.2.2 dX3_removeRow_82
  · have i_14 : ¬ (x6.toInt < 0) := fun q9 => c_14 (zi_lt.mpr q9)
    obtain ⟨t1, rfl, rfl⟩ := zdn (by omega) hI.2 c_14
    replace hI := hI.1
    have hi := hI.1
    have hl : lv_has ls 9 [(6, .int (nI t1)), (0, .ref h), (1, .long p0), (3, .long p1), (5, .int (nI n))] := hl
    refine lv_aload_n hx hb dX3_removeRow_17 rfl (lv_at hl 1 rfl) ?_
    refine va_get (D := D) (ci := 3) (v := .ref a1) (C := RX3) (T := TX3) (N := 2) hx hb hts k_1 hown hK hP 0 rfl rfl 0 (by decide) k_2 (fun _ h9 => h9) rfl dX3_removeRow_18 ?_
    refine lv_iload hx hb dX3_removeRow_21 (lv_at hl 0 rfl) ?_
    refine z_lald (k := t1) hx hb hK hP 1 0 rfl rfl (by omega) (by decide) dX3_removeRow_23 ?_
    refine zRo_l (va_runSN (As := [.long (g t1)]) (rest := []) ⟨hx, hb, hml, hown, hts⟩ (cc_X6_serialOf l D z H.size (g t1) ) ⟨va_cnB 1 hts gX3_removeRow_X6_serialOf_n19 rfl rfl rfl k_3 k_4 (by decide +kernel) ⟨Nat.le_of_ble_eq_true rfl, Nat.le_of_ble_eq_true rfl⟩, k_5, trivial⟩ ⟨zPre_blind, (zPre_mk (wc := []) (tc := []) hP hK hD hC hS [] (by decide) rfl rfl [] rfl (zro_free hS hA))⟩ rfl rfl hl.1 rfl (lv_room (Nat.le_of_ble_eq_true rfl)) dX3_removeRow_24 ⟨Nat.zero_le _, Nat.zero_le _⟩) hS hA hP (fun r_24 H locs hw hP hS => ?_)
    have hw_24 : r_24 = zser (g t1) := hw
    refine lv_lstore (lv' := [(7, .long r_24), (6, .int (nI t1)), (0, .ref h), (1, .long p0), (3, .long p1), (5, .int (nI n))]) hx hb dX3_removeRow_27 hl (by decide) rfl (fun ls hl => ?_)
    refine lv_lload_n hx hb dX3_removeRow_29 rfl (lv_at hl 3 rfl) ?_
    refine lv_lload hx hb dX3_removeRow_30 (lv_at hl 0 rfl) ?_
    refine W.lcmp hx hb dX3_removeRow_32 ?_
    refine lv_if_gt (tgt := 69) hx hb dX3_removeRow_33 (by decide) (fun c_33 => ?_) (fun c_33 => ?_)
    · have c_33 : r_24 < p0 := (lg_cmp_gt _ _).mp c_33
      have i_33 : r_24.toInt < p0.toInt := zl_lt.mp c_33
      refine lv_iinc (v := (nI t1 - 1)) (lv' := [(6, .int (nI t1 - 1)), (7, .long r_24), (0, .ref h), (1, .long p0), (3, .long p1), (5, .int (nI n))]) hx hb dX3_removeRow_69 hl (k := 1) rfl (by rw [Int32.sub_eq_add_neg]; rfl) (by decide) rfl (fun ls hl => ?_)
      refine lv_goto (tgt := 12) hx hb dX3_removeRow_72 (by decide) ?_
      exact ih (t1, nI t1 - 1, q, g) _ _ _ (show t1 < t1 + 1 from by omega) ⟨zRmI_stay hI (zIn_f1 hw_24 c_33), rfl⟩ hP hD hS (lv_sub hl [0, 2, 3, 4, 5] rfl)
    · have c_33 : ¬ (r_24 < p0) := fun q9 => c_33 ((lg_cmp_gt _ _).mpr q9)
      have i_33 : ¬ (r_24.toInt < p0.toInt) := fun q9 => c_33 (zl_lt.mpr q9)
      refine lv_lload hx hb dX3_removeRow_36 (lv_at hl 0 rfl) ?_
      refine lv_lload_n hx hb dX3_removeRow_38 rfl (lv_at hl 4 rfl) ?_
      refine W.lcmp hx hb dX3_removeRow_39 ?_
      refine lv_if_gt (tgt := 69) hx hb dX3_removeRow_40 (by decide) (fun c_40 => ?_) (fun c_40 => ?_)
      · have c_40 : p1 < r_24 := (lg_cmp_gt _ _).mp c_40
        have i_40 : p1.toInt < r_24.toInt := zl_lt.mp c_40
        refine lv_iinc (v := (nI t1 - 1)) (lv' := [(6, .int (nI t1 - 1)), (7, .long r_24), (0, .ref h), (1, .long p0), (3, .long p1), (5, .int (nI n))]) hx hb dX3_removeRow_69 hl (k := 1) rfl (by rw [Int32.sub_eq_add_neg]; rfl) (by decide) rfl (fun ls hl => ?_)
        refine lv_goto (tgt := 12) hx hb dX3_removeRow_72 (by decide) ?_
        exact ih (t1, nI t1 - 1, q, g) _ _ _ (show t1 < t1 + 1 from by omega) ⟨zRmI_stay hI (zIn_f2 hw_24 c_40), rfl⟩ hP hD hS (lv_sub hl [0, 2, 3, 4, 5] rfl)
      · have c_40 : ¬ (p1 < r_24) := fun q9 => c_40 ((lg_cmp_gt _ _).mpr q9)
        have i_40 : ¬ (p1.toInt < r_24.toInt) := fun q9 => c_40 (zl_lt.mpr q9)
        refine lv_aload_n hx hb dX3_removeRow_43 rfl (lv_at hl 2 rfl) ?_
        refine lv_dup hx hb dX3_removeRow_44 rfl ?_
        refine va_get (D := D) (ci := 3) (v := .int (nI q)) (C := RX3) (T := TX3) (N := 2) hx hb hts k_1 hown hK hP 0 rfl rfl 1 (by decide) k_0 (fun _ h9 => h9) rfl dX3_removeRow_45 ?_
        refine lv_iconst (v := 1) hx hb dX3_removeRow_48 (by decide) ?_
        refine lv_isub hx hb dX3_removeRow_49 ?_
        refine lv_topi (fun t_49 et_49 => ?_)
        obtain rfl : t_49 = nI (q - 1) := et_49.trans (pk_sub (b := 1) (by omega))
        refine va_put (D := D) (ci := 3) (v := .int (nI (q - 1))) (ty := .int) (C := RX3) (T := TX3) (N := 2) hx hb hts k_1 tyX3 tyX3_ok nmX3 hown hK hP hD hS 0 rfl rfl 1 (by decide) k_0 (fun _ h9 => h9) rfl (by decide +kernel) rfl rfl (Nat.le_of_ble_eq_true rfl) dX3_removeRow_50 (fun H locs hP hD hS => ?_)
        have hP : va_P D vwCl [(h, .inr (3, [.ref a1, .int (nI (q - 1))])), (a1, .inl (k1, 512, .inr (.inl g)))] H := hP
        have hD : va_D A [(h, .inr (3, [.ref a1, .int (nI (q - 1))])), (a1, .inl (k1, 512, .inr (.inl g)))] := hD
        refine lv_aload_n hx hb dX3_removeRow_53 rfl (lv_at hl 2 rfl) ?_
        refine va_get (D := D) (ci := 3) (v := .ref a1) (C := RX3) (T := TX3) (N := 2) hx hb hts k_1 hown hK hP 0 rfl rfl 0 (by decide) k_2 (fun _ h9 => h9) rfl dX3_removeRow_54 ?_
        refine lv_iload hx hb dX3_removeRow_57 (lv_at hl 1 rfl) ?_
        refine lv_aload_n hx hb dX3_removeRow_59 rfl (lv_at hl 2 rfl) ?_
        refine va_get (D := D) (ci := 3) (v := .ref a1) (C := RX3) (T := TX3) (N := 2) hx hb hts k_1 hown hK hP 0 rfl rfl 0 (by decide) k_2 (fun _ h9 => h9) rfl dX3_removeRow_60 ?_
        refine lv_aload_n hx hb dX3_removeRow_63 rfl (lv_at hl 2 rfl) ?_
        refine va_get (D := D) (ci := 3) (v := .int (nI (q - 1))) (C := RX3) (T := TX3) (N := 2) hx hb hts k_1 hown hK hP 0 rfl rfl 1 (by decide) k_0 (fun _ h9 => h9) rfl dX3_removeRow_64 ?_
        refine z_lald (k := q - 1) hx hb hK hP 1 0 rfl rfl (by omega) (by decide) dX3_removeRow_67 ?_
        refine z_last (k := t1) hx hb hK hP hD hS 1 0 rfl rfl (by omega) (by decide) dX3_removeRow_68 (fun H locs hP hD hS => ?_)
        have hP : va_P D vwCl [(h, .inr (3, [.ref a1, .int (nI (q - 1))])), (a1, .inl (k1, 512, .inr (.inl (vp_updL g t1 (g (q - 1))))))] H := hP
        have hD : va_D A [(h, .inr (3, [.ref a1, .int (nI (q - 1))])), (a1, .inl (k1, 512, .inr (.inl (vp_updL g t1 (g (q - 1))))))] := hD
        refine lv_iinc (v := (nI t1 - 1)) (lv' := [(6, .int (nI t1 - 1)), (7, .long r_24), (0, .ref h), (1, .long p0), (3, .long p1), (5, .int (nI n))]) hx hb dX3_removeRow_69 hl (k := 1) rfl (by rw [Int32.sub_eq_add_neg]; rfl) (by decide) rfl (fun ls hl => ?_)
        refine lv_goto (tgt := 12) hx hb dX3_removeRow_72 (by decide) ?_
        exact ih (t1, nI t1 - 1, q - 1, vp_updL g t1 (g (q - 1))) _ _ _ (show t1 < t1 + 1 from by omega) ⟨zRmI_go hI (zIn_t hw_24 c_33 c_40), rfl⟩ hP hD hS (lv_sub hl [0, 2, 3, 4, 5] rfl)
end
section
set_option maxHeartbeats 4000000 in
set_option maxRecDepth 100000 in
theorem cc_X4_isFull (l : Launch) (D : va_G) (z : zG) (sz : Nat) (h : Nat) (a1 : Nat) (a2 : Nat) (a3 : Nat) (k1 : ClassId) (k2 : ClassId) (k3 : ClassId) (n : Nat) (sd : Nat → Int32) (rf : Nat → Int64) (nm : Nat → Int64) (hn : n ≤ 300) : Met l yX4_isFull wsX4_isFull ({ frames := 0, cells := 0, slots := 0, locals := 0 }) (zPre D z [.ref h] sz [(h, .inr (4, [.ref a1, .ref a2, .ref a3, .int (nI n)])), (a1, .inl (k1, 300, .inl sd)), (a2, .inl (k2, 300, .inr (.inl rf))), (a3, .inl (k3, 300, .inr (.inl nm)))] [(k1, .int), (k2, .long), (k3, .long)] (va_A [] sz)) (va_Qi (fun (r : Int32) (u : Unit) => zB r (300 ≤ n)) zT (va_A [] sz)) 0 0 (va_A [] sz) := by
  refine Met.ofW (cc := cX4_isFull) (maxL := 1) (ret := (some .boolean)) (by decide) rfl ?_
  intro p e s m args below meth c s₁ B hml hv
  obtain ⟨rfl, hsz, hP, hK, hD, hC⟩ := hv
  have hx := B.exec
  have hb := B.bytes
  have hr := B.returns
  have hts := atoms_spec (ws := wsX4_isFull) B.pre
  have hown : s.vm.findClass RX4 = some m.cls := findClass_of_methodNamed B.named
  have hlocks := B.notSynchronized
  subst hsz
  generalize hAe : va_A [] s.heap.size = A at hC ⊢
  have hA : ∀ q : Nat, s.heap.size ≤ q → A q := fun q h => by rw [← hAe]; exact Or.inr h
  have hS : va_S A s.heap s.heap [] := va_S.rf
  have hP : va_P D vwCl [(h, .inr (4, [.ref a1, .ref a2, .ref a3, .int (nI n)])), (a1, .inl (k1, 300, .inl sd)), (a2, .inl (k2, 300, .inr (.inl rf))), (a3, .inl (k3, 300, .inr (.inl nm)))] s.heap := hP
  have hl := lv_entry ([.ref h]) (n := 1) (Nat.le_of_ble_eq_true rfl)
  rw [lg_entry_eq]
  generalize (lg_sl ([.ref h]) ++ List.replicate (1 - (lg_sl ([.ref h])).length) Slot.unset).toArray = ls at hl ⊢
  have hl : lv_has ls 1 [(0, .ref h)] := hl
  refine zNameH (D := D) (A := A) (ws := [(h, .inr (4, [.ref a1, .ref a2, .ref a3, .int (nI n)])), (a1, .inl (k1, 300, .inl sd)), (a2, .inl (k2, 300, .inr (.inl rf))), (a3, .inl (k3, 300, .inr (.inl nm)))]) (fun H locs hP hS => ?_) hP hS
  have k_0 := hts (.fieldLink RX4 22 "NumberRows2$Names" "count" "I") (by decide +kernel)
  have k_1 : ∀ w ∈ wsX40, w ∈ wsX4_isFull := by decide +kernel
  refine lv_aload_n hx hb dX4_isFull_0 rfl (lv_at hl 0 rfl) ?_
  refine va_get (D := D) (ci := 4) (v := .int (nI n)) (C := RX4) (T := TX4) (N := 4) hx hb hts k_1 hown hK hP 0 rfl rfl 3 (by decide) k_0 (fun _ h9 => h9) rfl dX4_isFull_1 ?_
  refine lv_sipush (v := 300) hx hb dX4_isFull_4 (by decide) ?_
  refine lv_icmp_lt (tgt := 14) hx hb dX4_isFull_7 (by decide) (fun c_7 => ?_) (fun c_7 => ?_)
  · have c_7 : n < 300 := (nI_ltI (a := n) (b := 300) (by omega) (by omega)).mp c_7
    refine lv_iconst (v := 0) hx hb dX4_isFull_14 (by decide) ?_
    exact W.zret (v := 0) hx hb hr rfl (fun t9 ht9 hW9 => ⟨⟨_, (), rfl, zB_f (by omega), trivial⟩, hS.F ht9⟩) hS.2.2 dX4_isFull_15
  · have c_7 : ¬ (n < 300) := fun q9 => c_7 ((nI_ltI (a := n) (b := 300) (by omega) (by omega)).mpr q9)
    refine lv_iconst (v := 1) hx hb dX4_isFull_10 (by decide) ?_
    refine lv_goto (tgt := 15) hx hb dX4_isFull_11 (by decide) ?_
    exact W.zret (v := 1) hx hb hr rfl (fun t9 ht9 hW9 => ⟨⟨_, (), rfl, zB_t (by omega), trivial⟩, hS.F ht9⟩) hS.2.2 dX4_isFull_15

set_option maxHeartbeats 4000000 in
set_option maxRecDepth 100000 in
theorem cc_X4_numberOfReference (l : Launch) (D : va_G) (z : zG) (sz : Nat) (h : Nat) (a1 : Nat) (a2 : Nat) (a3 : Nat) (k1 : ClassId) (k2 : ClassId) (k3 : ClassId) (n : Nat) (sd : Nat → Int32) (rf : Nat → Int64) (nm : Nat → Int64) (p0 : Int32) (p1 : Int64) (hn : n ≤ 300) : Met l yX4_numberOfReference wsX4_numberOfReference ({ frames := 0, cells := 0, slots := 0, locals := 0 }) (zPre D z [.ref h, .int p0, .long p1] sz [(h, .inr (4, [.ref a1, .ref a2, .ref a3, .int (nI n)])), (a1, .inl (k1, 300, .inl sd)), (a2, .inl (k2, 300, .inr (.inl rf))), (a3, .inl (k3, 300, .inr (.inl nm)))] [(k1, .int), (k2, .long), (k3, .long)] (va_A [] sz)) (va_Ql (fun (r : Int64) (u : Unit) => (∃ j, j < n ∧ sd j = p0 ∧ rf j = p1 ∧ r = nm j) ∨ ((∀ j, j < n → ¬ (sd j = p0 ∧ rf j = p1)) ∧ r = -101)) zT (va_A [] sz)) 0 0 (va_A [] sz) := by
  refine Met.ofW (cc := cX4_numberOfReference) (maxL := 5) (ret := (some .long)) (by decide) rfl ?_
  intro p e s m args below meth c s₁ B hml hv
  obtain ⟨rfl, hsz, hP, hK, hD, hC⟩ := hv
  have hx := B.exec
  have hb := B.bytes
  have hr := B.returns
  have hts := atoms_spec (ws := wsX4_numberOfReference) B.pre
  have hown : s.vm.findClass RX4 = some m.cls := findClass_of_methodNamed B.named
  have hlocks := B.notSynchronized
  subst hsz
  generalize hAe : va_A [] s.heap.size = A at hC ⊢
  have hA : ∀ q : Nat, s.heap.size ≤ q → A q := fun q h => by rw [← hAe]; exact Or.inr h
  have hS : va_S A s.heap s.heap [] := va_S.rf
  have hP : va_P D vwCl [(h, .inr (4, [.ref a1, .ref a2, .ref a3, .int (nI n)])), (a1, .inl (k1, 300, .inl sd)), (a2, .inl (k2, 300, .inr (.inl rf))), (a3, .inl (k3, 300, .inr (.inl nm)))] s.heap := hP
  have hl := lv_entry ([.ref h, .int p0, .long p1]) (n := 5) (Nat.le_of_ble_eq_true rfl)
  rw [lg_entry_eq]
  generalize (lg_sl ([.ref h, .int p0, .long p1]) ++ List.replicate (5 - (lg_sl ([.ref h, .int p0, .long p1])).length) Slot.unset).toArray = ls at hl ⊢
  have hl : lv_has ls 5 [(0, .ref h), (1, .int p0), (2, .long p1)] := hl
  refine zNameH (D := D) (A := A) (ws := [(h, .inr (4, [.ref a1, .ref a2, .ref a3, .int (nI n)])), (a1, .inl (k1, 300, .inl sd)), (a2, .inl (k2, 300, .inr (.inl rf))), (a3, .inl (k3, 300, .inr (.inl nm)))]) (fun H locs hP hS => ?_) hP hS
  have k_0 := hts (.fieldLink RX4 22 "NumberRows2$Names" "count" "I") (by decide +kernel)
  have k_1 : ∀ w ∈ wsX40, w ∈ wsX4_numberOfReference := by decide +kernel
  have k_2 := hts (.constantLong RX4 26 (-101)) (by decide +kernel)
  have k_3 := hts (.fieldLink RX4 9 "NumberRows2$Names" "senders" "[I") (by decide +kernel)
  have k_4 := hts (.fieldLink RX4 15 "NumberRows2$Names" "references" "[J") (by decide +kernel)
  have k_5 := hts (.fieldLink RX4 19 "NumberRows2$Names" "numbers" "[J") (by decide +kernel)
  refine lv_iconst (v := 0) hx hb dX4_numberOfReference_0 (by decide) ?_
  refine lv_istore (lv' := [(4, .int 0), (0, .ref h), (1, .int p0), (2, .long p1)]) hx hb dX4_numberOfReference_1 hl (by decide) rfl (fun ls hl => ?_)
  refine zLoop (σ := Nat) (nL := 5) (μ := fun (i : Nat) => n - i) (lv := fun (i : Nat) => [(4, .int (nI i)), (0, .ref h), (1, .int p0), (2, .long p1)]) (wf := fun (i : Nat) => [(h, .inr (4, [.ref a1, .ref a2, .ref a3, .int (nI n)])), (a1, .inl (k1, 300, .inl sd)), (a2, .inl (k2, 300, .inr (.inl rf))), (a3, .inl (k3, 300, .inr (.inl nm)))]) (I := fun (i : Nat) => i ≤ n ∧ ∀ j, j < i → ¬ (sd j = p0 ∧ rf j = p1)) (fun x H locs ls hI hP hD hS hl ih => ?_) 0 ⟨Nat.zero_le _, fun j hj => absurd hj (Nat.not_lt_zero j)⟩ hP hD hS (lv_sub hl [0, 1, 2, 3] rfl)
  obtain ⟨i, rfl⟩ : ∃ y9, y9 = x := ⟨_, rfl⟩
  have hI : i ≤ n ∧ ∀ j, j < i → ¬ (sd j = p0 ∧ rf j = p1) := hI
  have hl : lv_has ls 5 [(4, .int (nI i)), (0, .ref h), (1, .int p0), (2, .long p1)] := hl
  have hP : va_P D vwCl [(h, .inr (4, [.ref a1, .ref a2, .ref a3, .int (nI n)])), (a1, .inl (k1, 300, .inl sd)), (a2, .inl (k2, 300, .inr (.inl rf))), (a3, .inl (k3, 300, .inr (.inl nm)))] H := hP
  have hD : va_D (fun _ => True) [(h, .inr (4, [.ref a1, .ref a2, .ref a3, .int (nI n)])), (a1, .inl (k1, 300, .inl sd)), (a2, .inl (k2, 300, .inr (.inl rf))), (a3, .inl (k3, 300, .inr (.inl nm)))] := hD
  refine lv_iload hx hb dX4_numberOfReference_3 (lv_at hl 0 rfl) ?_
  refine lv_aload_n hx hb dX4_numberOfReference_5 rfl (lv_at hl 1 rfl) ?_
  refine va_get (D := D) (ci := 4) (v := .int (nI n)) (C := RX4) (T := TX4) (N := 4) hx hb hts k_1 hown hK hP 0 rfl rfl 3 (by decide) k_0 (fun _ h9 => h9) rfl dX4_numberOfReference_6 ?_
  refine lv_icmp_ge (tgt := 49) hx hb dX4_numberOfReference_9 (by decide) (fun c_9 => ?_) (fun c_9 => ?_)
  · have c_9 : n ≤ i := (nI_leI (a := n) (b := i) (by omega) (by omega)).mp c_9
    refine lv_ldc2 hx hb hown k_2 dX4_numberOfReference_49 ?_
    exact W.lret (v := (-101)) hx hb hr (fun t9 ht9 hW9 => ⟨⟨_, (), rfl, Or.inr ⟨fun j hj => hI.2 j (by omega), rfl⟩, trivial⟩, hS.F ht9⟩) hS.2.2 dX4_numberOfReference_52
  · have c_9 : ¬ (n ≤ i) := fun q9 => c_9 ((nI_leI (a := n) (b := i) (by omega) (by omega)).mpr q9)
    refine lv_aload_n hx hb dX4_numberOfReference_12 rfl (lv_at hl 1 rfl) ?_
    refine va_get (D := D) (ci := 4) (v := .ref a1) (C := RX4) (T := TX4) (N := 4) hx hb hts k_1 hown hK hP 0 rfl rfl 0 (by decide) k_3 (fun _ h9 => h9) rfl dX4_numberOfReference_13 ?_
    refine lv_iload hx hb dX4_numberOfReference_16 (lv_at hl 0 rfl) ?_
    refine z_iald (k := i) hx hb hK hP 1 0 rfl rfl (by omega) (by decide) dX4_numberOfReference_18 ?_
    refine lv_iload_n hx hb dX4_numberOfReference_19 rfl (lv_at hl 2 rfl) ?_
    refine lv_icmp_ne (tgt := 43) hx hb dX4_numberOfReference_20 (by decide) (fun c_20 => ?_) (fun c_20 => ?_)
    · have i_20 : ¬ ((sd i).toInt = p0.toInt) := fun q9 => c_20 (zi_eq.mpr q9)
      refine lv_iinc (v := (nI (i + 1))) (lv' := [(4, .int (nI (i + 1))), (0, .ref h), (1, .int p0), (2, .long p1)]) hx hb dX4_numberOfReference_43 hl (k := 0) rfl (by first | exact nI_1 _ | rfl) (by decide) rfl (fun ls hl => ?_)
      refine lv_goto (tgt := 3) hx hb dX4_numberOfReference_46 (by decide) ?_
      exact ih (i + 1) _ _ _ (show n - (i + 1) < n - i from (by omega)) ⟨by omega, lt_s hI.2 (fun q => c_20 q.1)⟩ hP hD hS (lv_sub hl [0, 1, 2, 3] rfl)
    · have i_20 : (sd i).toInt = p0.toInt := zi_eq.mp c_20
      refine lv_aload_n hx hb dX4_numberOfReference_23 rfl (lv_at hl 1 rfl) ?_
      refine va_get (D := D) (ci := 4) (v := .ref a2) (C := RX4) (T := TX4) (N := 4) hx hb hts k_1 hown hK hP 0 rfl rfl 1 (by decide) k_4 (fun _ h9 => h9) rfl dX4_numberOfReference_24 ?_
      refine lv_iload hx hb dX4_numberOfReference_27 (lv_at hl 0 rfl) ?_
      refine z_lald (k := i) hx hb hK hP 2 1 rfl rfl (by omega) (by decide) dX4_numberOfReference_29 ?_
      refine lv_lload_n hx hb dX4_numberOfReference_30 rfl (lv_at hl 3 rfl) ?_
      refine W.lcmp hx hb dX4_numberOfReference_31 ?_
      refine lv_if_ne (tgt := 43) hx hb dX4_numberOfReference_32 (by decide) (fun c_32 => ?_) (fun c_32 => ?_)
      · have c_32 : ¬ ((rf i) = p1) := fun q9 => c_32 ((lg_cmp_eq _ _).mpr q9)
        have i_32 : ¬ ((rf i).toInt = p1.toInt) := fun q9 => c_32 (zl_eq.mpr q9)
        refine lv_iinc (v := (nI (i + 1))) (lv' := [(4, .int (nI (i + 1))), (0, .ref h), (1, .int p0), (2, .long p1)]) hx hb dX4_numberOfReference_43 hl (k := 0) rfl (by first | exact nI_1 _ | rfl) (by decide) rfl (fun ls hl => ?_)
        refine lv_goto (tgt := 3) hx hb dX4_numberOfReference_46 (by decide) ?_
        exact ih (i + 1) _ _ _ (show n - (i + 1) < n - i from (by omega)) ⟨by omega, lt_s hI.2 (fun q => c_32 q.2)⟩ hP hD hS (lv_sub hl [0, 1, 2, 3] rfl)
      · have c_32 : (rf i) = p1 := (lg_cmp_eq _ _).mp c_32
        have i_32 : (rf i).toInt = p1.toInt := zl_eq.mp c_32
        refine lv_aload_n hx hb dX4_numberOfReference_35 rfl (lv_at hl 1 rfl) ?_
        refine va_get (D := D) (ci := 4) (v := .ref a3) (C := RX4) (T := TX4) (N := 4) hx hb hts k_1 hown hK hP 0 rfl rfl 2 (by decide) k_5 (fun _ h9 => h9) rfl dX4_numberOfReference_36 ?_
        refine lv_iload hx hb dX4_numberOfReference_39 (lv_at hl 0 rfl) ?_
        refine z_lald (k := i) hx hb hK hP 3 2 rfl rfl (by omega) (by decide) dX4_numberOfReference_41 ?_
        exact W.lret (v := (nm i)) hx hb hr (fun t9 ht9 hW9 => ⟨⟨_, (), rfl, Or.inl ⟨i, by omega, c_20, c_32, rfl⟩, trivial⟩, hS.F ht9⟩) hS.2.2 dX4_numberOfReference_42

set_option maxHeartbeats 4000000 in
set_option maxRecDepth 100000 in
theorem cc_X4_replace (l : Launch) (D : va_G) (z : zG) (sz : Nat) (h : Nat) (a1 : Nat) (a2 : Nat) (a3 : Nat) (k1 : ClassId) (k2 : ClassId) (k3 : ClassId) (n : Nat) (sd : Nat → Int32) (rf : Nat → Int64) (nm : Nat → Int64) (p0 : Int32) (p1 : Int64) (p2 : Int64) (hn : n ≤ 300) : Met l yX4_replace wsX4_replace ({ frames := 0, cells := 0, slots := 0, locals := 0 }) (zPre D z [.ref h, .int p0, .long p1, .long p2] sz [(h, .inr (4, [.ref a1, .ref a2, .ref a3, .int (nI n)])), (a1, .inl (k1, 300, .inl sd)), (a2, .inl (k2, 300, .inr (.inl rf))), (a3, .inl (k3, 300, .inr (.inl nm)))] [(k1, .int), (k2, .long), (k3, .long)] (va_A [(h, .inr (4, [.ref a1, .ref a2, .ref a3, .int (nI n)])), (a1, .inl (k1, 300, .inl sd)), (a2, .inl (k2, 300, .inr (.inl rf))), (a3, .inl (k3, 300, .inr (.inl nm)))] sz)) (va_Qi (fun (r : Int32) (u : (Nat → Int64)) => (∃ j, j < n ∧ sd j = p0 ∧ nm j = p2 ∧ u = vp_updL rf j p1 ∧ r = 1) ∨ ((∀ j, j < n → ¬ (sd j = p0 ∧ nm j = p2)) ∧ u = rf ∧ r = 0)) (zAt D [(k1, .int), (k2, .long), (k3, .long)] (va_A [(h, .inr (4, [.ref a1, .ref a2, .ref a3, .int (nI n)])), (a1, .inl (k1, 300, .inl sd)), (a2, .inl (k2, 300, .inr (.inl rf))), (a3, .inl (k3, 300, .inr (.inl nm)))] sz) (fun u : (Nat → Int64) => [(h, .inr (4, [.ref a1, .ref a2, .ref a3, .int (nI n)])), (a1, .inl (k1, 300, .inl sd)), (a2, .inl (k2, 300, .inr (.inl u))), (a3, .inl (k3, 300, .inr (.inl nm)))])) (va_A [(h, .inr (4, [.ref a1, .ref a2, .ref a3, .int (nI n)])), (a1, .inl (k1, 300, .inl sd)), (a2, .inl (k2, 300, .inr (.inl rf))), (a3, .inl (k3, 300, .inr (.inl nm)))] sz)) 0 0 (va_A [(h, .inr (4, [.ref a1, .ref a2, .ref a3, .int (nI n)])), (a1, .inl (k1, 300, .inl sd)), (a2, .inl (k2, 300, .inr (.inl rf))), (a3, .inl (k3, 300, .inr (.inl nm)))] sz) := by
  refine Met.ofW (cc := cX4_replace) (maxL := 7) (ret := (some .boolean)) (by decide) rfl ?_
  intro p e s m args below meth c s₁ B hml hv
  obtain ⟨rfl, hsz, hP, hK, hD, hC⟩ := hv
  have hx := B.exec
  have hb := B.bytes
  have hr := B.returns
  have hts := atoms_spec (ws := wsX4_replace) B.pre
  have hown : s.vm.findClass RX4 = some m.cls := findClass_of_methodNamed B.named
  have hlocks := B.notSynchronized
  subst hsz
  have hD := hD.self (sz := s.heap.size)
  generalize hAe : va_A [(h, .inr (4, [.ref a1, .ref a2, .ref a3, .int (nI n)])), (a1, .inl (k1, 300, .inl sd)), (a2, .inl (k2, 300, .inr (.inl rf))), (a3, .inl (k3, 300, .inr (.inl nm)))] s.heap.size = A at hC hD ⊢
  have hA : ∀ q : Nat, s.heap.size ≤ q → A q := fun q h => by rw [← hAe]; exact Or.inr h
  have hS : va_S A s.heap s.heap [] := va_S.rf
  have hP : va_P D vwCl [(h, .inr (4, [.ref a1, .ref a2, .ref a3, .int (nI n)])), (a1, .inl (k1, 300, .inl sd)), (a2, .inl (k2, 300, .inr (.inl rf))), (a3, .inl (k3, 300, .inr (.inl nm)))] s.heap := hP
  have hl := lv_entry ([.ref h, .int p0, .long p1, .long p2]) (n := 7) (Nat.le_of_ble_eq_true rfl)
  rw [lg_entry_eq]
  generalize (lg_sl ([.ref h, .int p0, .long p1, .long p2]) ++ List.replicate (7 - (lg_sl ([.ref h, .int p0, .long p1, .long p2])).length) Slot.unset).toArray = ls at hl ⊢
  have hl : lv_has ls 7 [(0, .ref h), (1, .int p0), (2, .long p1), (4, .long p2)] := hl
  refine zNameH (D := D) (A := A) (ws := [(h, .inr (4, [.ref a1, .ref a2, .ref a3, .int (nI n)])), (a1, .inl (k1, 300, .inl sd)), (a2, .inl (k2, 300, .inr (.inl rf))), (a3, .inl (k3, 300, .inr (.inl nm)))]) (fun H locs hP hS => ?_) hP hS
  have k_0 := hts (.fieldLink RX4 22 "NumberRows2$Names" "count" "I") (by decide +kernel)
  have k_1 : ∀ w ∈ wsX40, w ∈ wsX4_replace := by decide +kernel
  have k_2 := hts (.fieldLink RX4 9 "NumberRows2$Names" "senders" "[I") (by decide +kernel)
  have k_3 := hts (.fieldLink RX4 19 "NumberRows2$Names" "numbers" "[J") (by decide +kernel)
  have k_4 := hts (.fieldLink RX4 15 "NumberRows2$Names" "references" "[J") (by decide +kernel)
  refine lv_iconst (v := 0) hx hb dX4_replace_0 (by decide) ?_
  refine lv_istore (lv' := [(6, .int 0), (0, .ref h), (1, .int p0), (2, .long p1), (4, .long p2)]) hx hb dX4_replace_1 hl (by decide) rfl (fun ls hl => ?_)
  refine zLoop (σ := Nat) (nL := 7) (μ := fun (i : Nat) => n - i) (lv := fun (i : Nat) => [(6, .int (nI i)), (0, .ref h), (1, .int p0), (2, .long p1), (4, .long p2)]) (wf := fun (i : Nat) => [(h, .inr (4, [.ref a1, .ref a2, .ref a3, .int (nI n)])), (a1, .inl (k1, 300, .inl sd)), (a2, .inl (k2, 300, .inr (.inl rf))), (a3, .inl (k3, 300, .inr (.inl nm)))]) (I := fun (i : Nat) => i ≤ n ∧ ∀ j, j < i → ¬ (sd j = p0 ∧ nm j = p2)) (fun x H locs ls hI hP hD hS hl ih => ?_) 0 ⟨Nat.zero_le _, fun j hj => absurd hj (Nat.not_lt_zero j)⟩ hP hD hS (lv_sub hl [0, 1, 2, 3, 4] rfl)
  obtain ⟨i, rfl⟩ : ∃ y9, y9 = x := ⟨_, rfl⟩
  have hI : i ≤ n ∧ ∀ j, j < i → ¬ (sd j = p0 ∧ nm j = p2) := hI
  have hl : lv_has ls 7 [(6, .int (nI i)), (0, .ref h), (1, .int p0), (2, .long p1), (4, .long p2)] := hl
  have hP : va_P D vwCl [(h, .inr (4, [.ref a1, .ref a2, .ref a3, .int (nI n)])), (a1, .inl (k1, 300, .inl sd)), (a2, .inl (k2, 300, .inr (.inl rf))), (a3, .inl (k3, 300, .inr (.inl nm)))] H := hP
  have hD : va_D A [(h, .inr (4, [.ref a1, .ref a2, .ref a3, .int (nI n)])), (a1, .inl (k1, 300, .inl sd)), (a2, .inl (k2, 300, .inr (.inl rf))), (a3, .inl (k3, 300, .inr (.inl nm)))] := hD
  refine lv_iload hx hb dX4_replace_3 (lv_at hl 0 rfl) ?_
  refine lv_aload_n hx hb dX4_replace_5 rfl (lv_at hl 1 rfl) ?_
  refine va_get (D := D) (ci := 4) (v := .int (nI n)) (C := RX4) (T := TX4) (N := 4) hx hb hts k_1 hown hK hP 0 rfl rfl 3 (by decide) k_0 (fun _ h9 => h9) rfl dX4_replace_6 ?_
  refine lv_icmp_ge (tgt := 52) hx hb dX4_replace_9 (by decide) (fun c_9 => ?_) (fun c_9 => ?_)
  · have c_9 : n ≤ i := (nI_leI (a := n) (b := i) (by omega) (by omega)).mp c_9
    refine lv_iconst (v := 0) hx hb dX4_replace_52 (by decide) ?_
    exact W.zret (v := 0) hx hb hr rfl (fun t9 ht9 hW9 => ⟨⟨_, rf, rfl, Or.inr ⟨fun j hj => hI.2 j (by omega), rfl, rfl⟩, by rw [ht9]; exact hP, va_K.moved hW9.alike hK, hD⟩, hS.F ht9⟩) hS.2.2 dX4_replace_53
  · have c_9 : ¬ (n ≤ i) := fun q9 => c_9 ((nI_leI (a := n) (b := i) (by omega) (by omega)).mpr q9)
    refine lv_aload_n hx hb dX4_replace_12 rfl (lv_at hl 1 rfl) ?_
    refine va_get (D := D) (ci := 4) (v := .ref a1) (C := RX4) (T := TX4) (N := 4) hx hb hts k_1 hown hK hP 0 rfl rfl 0 (by decide) k_2 (fun _ h9 => h9) rfl dX4_replace_13 ?_
    refine lv_iload hx hb dX4_replace_16 (lv_at hl 0 rfl) ?_
    refine z_iald (k := i) hx hb hK hP 1 0 rfl rfl (by omega) (by decide) dX4_replace_18 ?_
    refine lv_iload_n hx hb dX4_replace_19 rfl (lv_at hl 2 rfl) ?_
    refine lv_icmp_ne (tgt := 46) hx hb dX4_replace_20 (by decide) (fun c_20 => ?_) (fun c_20 => ?_)
    · have i_20 : ¬ ((sd i).toInt = p0.toInt) := fun q9 => c_20 (zi_eq.mpr q9)
      refine lv_iinc (v := (nI (i + 1))) (lv' := [(6, .int (nI (i + 1))), (0, .ref h), (1, .int p0), (2, .long p1), (4, .long p2)]) hx hb dX4_replace_46 hl (k := 0) rfl (by first | exact nI_1 _ | rfl) (by decide) rfl (fun ls hl => ?_)
      refine lv_goto (tgt := 3) hx hb dX4_replace_49 (by decide) ?_
      exact ih (i + 1) _ _ _ (show n - (i + 1) < n - i from (by omega)) ⟨by omega, lt_s hI.2 (fun q => c_20 q.1)⟩ hP hD hS (lv_sub hl [0, 1, 2, 3, 4] rfl)
    · have i_20 : (sd i).toInt = p0.toInt := zi_eq.mp c_20
      refine lv_aload_n hx hb dX4_replace_23 rfl (lv_at hl 1 rfl) ?_
      refine va_get (D := D) (ci := 4) (v := .ref a3) (C := RX4) (T := TX4) (N := 4) hx hb hts k_1 hown hK hP 0 rfl rfl 2 (by decide) k_3 (fun _ h9 => h9) rfl dX4_replace_24 ?_
      refine lv_iload hx hb dX4_replace_27 (lv_at hl 0 rfl) ?_
      refine z_lald (k := i) hx hb hK hP 3 2 rfl rfl (by omega) (by decide) dX4_replace_29 ?_
      refine lv_lload hx hb dX4_replace_30 (lv_at hl 4 rfl) ?_
      refine W.lcmp hx hb dX4_replace_32 ?_
      refine lv_if_ne (tgt := 46) hx hb dX4_replace_33 (by decide) (fun c_33 => ?_) (fun c_33 => ?_)
      · have c_33 : ¬ ((nm i) = p2) := fun q9 => c_33 ((lg_cmp_eq _ _).mpr q9)
        have i_33 : ¬ ((nm i).toInt = p2.toInt) := fun q9 => c_33 (zl_eq.mpr q9)
        refine lv_iinc (v := (nI (i + 1))) (lv' := [(6, .int (nI (i + 1))), (0, .ref h), (1, .int p0), (2, .long p1), (4, .long p2)]) hx hb dX4_replace_46 hl (k := 0) rfl (by first | exact nI_1 _ | rfl) (by decide) rfl (fun ls hl => ?_)
        refine lv_goto (tgt := 3) hx hb dX4_replace_49 (by decide) ?_
        exact ih (i + 1) _ _ _ (show n - (i + 1) < n - i from (by omega)) ⟨by omega, lt_s hI.2 (fun q => c_33 q.2)⟩ hP hD hS (lv_sub hl [0, 1, 2, 3, 4] rfl)
      · have c_33 : (nm i) = p2 := (lg_cmp_eq _ _).mp c_33
        have i_33 : (nm i).toInt = p2.toInt := zl_eq.mp c_33
        refine lv_aload_n hx hb dX4_replace_36 rfl (lv_at hl 1 rfl) ?_
        refine va_get (D := D) (ci := 4) (v := .ref a2) (C := RX4) (T := TX4) (N := 4) hx hb hts k_1 hown hK hP 0 rfl rfl 1 (by decide) k_4 (fun _ h9 => h9) rfl dX4_replace_37 ?_
        refine lv_iload hx hb dX4_replace_40 (lv_at hl 0 rfl) ?_
        refine lv_lload_n hx hb dX4_replace_42 rfl (lv_at hl 3 rfl) ?_
        refine z_last (k := i) hx hb hK hP hD hS 2 1 rfl rfl (by omega) (by decide) dX4_replace_43 (fun H locs hP hD hS => ?_)
        have hP : va_P D vwCl [(h, .inr (4, [.ref a1, .ref a2, .ref a3, .int (nI n)])), (a1, .inl (k1, 300, .inl sd)), (a2, .inl (k2, 300, .inr (.inl (vp_updL rf i p1)))), (a3, .inl (k3, 300, .inr (.inl nm)))] H := hP
        have hD : va_D A [(h, .inr (4, [.ref a1, .ref a2, .ref a3, .int (nI n)])), (a1, .inl (k1, 300, .inl sd)), (a2, .inl (k2, 300, .inr (.inl (vp_updL rf i p1)))), (a3, .inl (k3, 300, .inr (.inl nm)))] := hD
        refine lv_iconst (v := 1) hx hb dX4_replace_44 (by decide) ?_
        exact W.zret (v := 1) hx hb hr rfl (fun t9 ht9 hW9 => ⟨⟨_, (vp_updL rf i p1), rfl, Or.inl ⟨i, by omega, c_20, c_33, rfl, rfl⟩, by rw [ht9]; exact hP, va_K.moved hW9.alike hK, hD⟩, hS.F ht9⟩) hS.2.2 dX4_replace_45

set_option maxHeartbeats 4000000 in
set_option maxRecDepth 100000 in
theorem cc_X4_add (l : Launch) (D : va_G) (z : zG) (sz : Nat) (h : Nat) (a1 : Nat) (a2 : Nat) (a3 : Nat) (k1 : ClassId) (k2 : ClassId) (k3 : ClassId) (n : Nat) (sd : Nat → Int32) (rf : Nat → Int64) (nm : Nat → Int64) (p0 : Int32) (p1 : Int64) (p2 : Int64) (hn : n < 300) : Met l yX4_add wsX4_add ({ frames := 0, cells := 0, slots := 0, locals := 0 }) (zPre D z [.ref h, .int p0, .long p1, .long p2] sz [(h, .inr (4, [.ref a1, .ref a2, .ref a3, .int (nI n)])), (a1, .inl (k1, 300, .inl sd)), (a2, .inl (k2, 300, .inr (.inl rf))), (a3, .inl (k3, 300, .inr (.inl nm)))] [(k1, .int), (k2, .long), (k3, .long)] (va_A [(h, .inr (4, [.ref a1, .ref a2, .ref a3, .int (nI n)])), (a1, .inl (k1, 300, .inl sd)), (a2, .inl (k2, 300, .inr (.inl rf))), (a3, .inl (k3, 300, .inr (.inl nm)))] sz)) (va_Qv (fun u : Nat × (Nat → Int32) × (Nat → Int64) × (Nat → Int64) => u.1 = n + 1 ∧ u.2.1 = upd sd n p0 ∧ u.2.2.1 = vp_updL rf n p1 ∧ u.2.2.2 = vp_updL nm n p2) (zAt D [(k1, .int), (k2, .long), (k3, .long)] (va_A [(h, .inr (4, [.ref a1, .ref a2, .ref a3, .int (nI n)])), (a1, .inl (k1, 300, .inl sd)), (a2, .inl (k2, 300, .inr (.inl rf))), (a3, .inl (k3, 300, .inr (.inl nm)))] sz) (fun u : Nat × (Nat → Int32) × (Nat → Int64) × (Nat → Int64) => [(h, .inr (4, [.ref a1, .ref a2, .ref a3, .int (nI u.1)])), (a1, .inl (k1, 300, .inl u.2.1)), (a2, .inl (k2, 300, .inr (.inl u.2.2.1))), (a3, .inl (k3, 300, .inr (.inl u.2.2.2)))])) (va_A [(h, .inr (4, [.ref a1, .ref a2, .ref a3, .int (nI n)])), (a1, .inl (k1, 300, .inl sd)), (a2, .inl (k2, 300, .inr (.inl rf))), (a3, .inl (k3, 300, .inr (.inl nm)))] sz)) 0 0 (va_A [(h, .inr (4, [.ref a1, .ref a2, .ref a3, .int (nI n)])), (a1, .inl (k1, 300, .inl sd)), (a2, .inl (k2, 300, .inr (.inl rf))), (a3, .inl (k3, 300, .inr (.inl nm)))] sz) := by
  refine Met.ofW (cc := cX4_add) (maxL := 6) (ret := none) (by decide) rfl ?_
  intro p e s m args below meth c s₁ B hml hv
  obtain ⟨rfl, hsz, hP, hK, hD, hC⟩ := hv
  have hx := B.exec
  have hb := B.bytes
  have hr := B.returns
  have hts := atoms_spec (ws := wsX4_add) B.pre
  have hown : s.vm.findClass RX4 = some m.cls := findClass_of_methodNamed B.named
  have hlocks := B.notSynchronized
  subst hsz
  have hD := hD.self (sz := s.heap.size)
  generalize hAe : va_A [(h, .inr (4, [.ref a1, .ref a2, .ref a3, .int (nI n)])), (a1, .inl (k1, 300, .inl sd)), (a2, .inl (k2, 300, .inr (.inl rf))), (a3, .inl (k3, 300, .inr (.inl nm)))] s.heap.size = A at hC hD ⊢
  have hA : ∀ q : Nat, s.heap.size ≤ q → A q := fun q h => by rw [← hAe]; exact Or.inr h
  have hS : va_S A s.heap s.heap [] := va_S.rf
  have hP : va_P D vwCl [(h, .inr (4, [.ref a1, .ref a2, .ref a3, .int (nI n)])), (a1, .inl (k1, 300, .inl sd)), (a2, .inl (k2, 300, .inr (.inl rf))), (a3, .inl (k3, 300, .inr (.inl nm)))] s.heap := hP
  have hl := lv_entry ([.ref h, .int p0, .long p1, .long p2]) (n := 6) (Nat.le_of_ble_eq_true rfl)
  rw [lg_entry_eq]
  generalize (lg_sl ([.ref h, .int p0, .long p1, .long p2]) ++ List.replicate (6 - (lg_sl ([.ref h, .int p0, .long p1, .long p2])).length) Slot.unset).toArray = ls at hl ⊢
  have hl : lv_has ls 6 [(0, .ref h), (1, .int p0), (2, .long p1), (4, .long p2)] := hl
  refine zNameH (D := D) (A := A) (ws := [(h, .inr (4, [.ref a1, .ref a2, .ref a3, .int (nI n)])), (a1, .inl (k1, 300, .inl sd)), (a2, .inl (k2, 300, .inr (.inl rf))), (a3, .inl (k3, 300, .inr (.inl nm)))]) (fun H locs hP hS => ?_) hP hS
  have k_0 := hts (.fieldLink RX4 22 "NumberRows2$Names" "count" "I") (by decide +kernel)
  have k_1 : ∀ w ∈ wsX40, w ∈ wsX4_add := by decide +kernel
  have k_2 := hts (.fieldLink RX4 9 "NumberRows2$Names" "senders" "[I") (by decide +kernel)
  have k_3 := hts (.fieldLink RX4 15 "NumberRows2$Names" "references" "[J") (by decide +kernel)
  have k_4 := hts (.fieldLink RX4 19 "NumberRows2$Names" "numbers" "[J") (by decide +kernel)
  refine lv_aload_n hx hb dX4_add_0 rfl (lv_at hl 0 rfl) ?_
  refine va_get (D := D) (ci := 4) (v := .int (nI n)) (C := RX4) (T := TX4) (N := 4) hx hb hts k_1 hown hK hP 0 rfl rfl 3 (by decide) k_0 (fun _ h9 => h9) rfl dX4_add_1 ?_
  refine lv_sipush (v := 300) hx hb dX4_add_4 (by decide) ?_
  refine lv_icmp_ge (tgt := 51) hx hb dX4_add_7 (by decide) (fun c_7 => ?_) (fun c_7 => ?_)
  · have c_7 : 300 ≤ n := (nI_leI (a := 300) (b := n) (by omega) (by omega)).mp c_7
    exact absurd c_7 (by omega)
  · have c_7 : ¬ (300 ≤ n) := fun q9 => c_7 ((nI_leI (a := 300) (b := n) (by omega) (by omega)).mpr q9)
    refine lv_aload_n hx hb dX4_add_10 rfl (lv_at hl 0 rfl) ?_
    refine va_get (D := D) (ci := 4) (v := .ref a1) (C := RX4) (T := TX4) (N := 4) hx hb hts k_1 hown hK hP 0 rfl rfl 0 (by decide) k_2 (fun _ h9 => h9) rfl dX4_add_11 ?_
    refine lv_aload_n hx hb dX4_add_14 rfl (lv_at hl 0 rfl) ?_
    refine va_get (D := D) (ci := 4) (v := .int (nI n)) (C := RX4) (T := TX4) (N := 4) hx hb hts k_1 hown hK hP 0 rfl rfl 3 (by decide) k_0 (fun _ h9 => h9) rfl dX4_add_15 ?_
    refine lv_iload_n hx hb dX4_add_18 rfl (lv_at hl 1 rfl) ?_
    refine z_iast (k := n) hx hb hK hP hD hS 1 0 rfl rfl (by omega) (by decide) dX4_add_19 (fun H locs hP hD hS => ?_)
    have hP : va_P D vwCl [(h, .inr (4, [.ref a1, .ref a2, .ref a3, .int (nI n)])), (a1, .inl (k1, 300, .inl (upd sd n p0))), (a2, .inl (k2, 300, .inr (.inl rf))), (a3, .inl (k3, 300, .inr (.inl nm)))] H := hP
    have hD : va_D A [(h, .inr (4, [.ref a1, .ref a2, .ref a3, .int (nI n)])), (a1, .inl (k1, 300, .inl (upd sd n p0))), (a2, .inl (k2, 300, .inr (.inl rf))), (a3, .inl (k3, 300, .inr (.inl nm)))] := hD
    refine lv_aload_n hx hb dX4_add_20 rfl (lv_at hl 0 rfl) ?_
    refine va_get (D := D) (ci := 4) (v := .ref a2) (C := RX4) (T := TX4) (N := 4) hx hb hts k_1 hown hK hP 0 rfl rfl 1 (by decide) k_3 (fun _ h9 => h9) rfl dX4_add_21 ?_
    refine lv_aload_n hx hb dX4_add_24 rfl (lv_at hl 0 rfl) ?_
    refine va_get (D := D) (ci := 4) (v := .int (nI n)) (C := RX4) (T := TX4) (N := 4) hx hb hts k_1 hown hK hP 0 rfl rfl 3 (by decide) k_0 (fun _ h9 => h9) rfl dX4_add_25 ?_
    refine lv_lload_n hx hb dX4_add_28 rfl (lv_at hl 2 rfl) ?_
    refine z_last (k := n) hx hb hK hP hD hS 2 1 rfl rfl (by omega) (by decide) dX4_add_29 (fun H locs hP hD hS => ?_)
    have hP : va_P D vwCl [(h, .inr (4, [.ref a1, .ref a2, .ref a3, .int (nI n)])), (a1, .inl (k1, 300, .inl (upd sd n p0))), (a2, .inl (k2, 300, .inr (.inl (vp_updL rf n p1)))), (a3, .inl (k3, 300, .inr (.inl nm)))] H := hP
    have hD : va_D A [(h, .inr (4, [.ref a1, .ref a2, .ref a3, .int (nI n)])), (a1, .inl (k1, 300, .inl (upd sd n p0))), (a2, .inl (k2, 300, .inr (.inl (vp_updL rf n p1)))), (a3, .inl (k3, 300, .inr (.inl nm)))] := hD
    refine lv_aload_n hx hb dX4_add_30 rfl (lv_at hl 0 rfl) ?_
    refine va_get (D := D) (ci := 4) (v := .ref a3) (C := RX4) (T := TX4) (N := 4) hx hb hts k_1 hown hK hP 0 rfl rfl 2 (by decide) k_4 (fun _ h9 => h9) rfl dX4_add_31 ?_
    refine lv_aload_n hx hb dX4_add_34 rfl (lv_at hl 0 rfl) ?_
    refine va_get (D := D) (ci := 4) (v := .int (nI n)) (C := RX4) (T := TX4) (N := 4) hx hb hts k_1 hown hK hP 0 rfl rfl 3 (by decide) k_0 (fun _ h9 => h9) rfl dX4_add_35 ?_
    refine lv_lload hx hb dX4_add_38 (lv_at hl 3 rfl) ?_
    refine z_last (k := n) hx hb hK hP hD hS 3 2 rfl rfl (by omega) (by decide) dX4_add_40 (fun H locs hP hD hS => ?_)
    have hP : va_P D vwCl [(h, .inr (4, [.ref a1, .ref a2, .ref a3, .int (nI n)])), (a1, .inl (k1, 300, .inl (upd sd n p0))), (a2, .inl (k2, 300, .inr (.inl (vp_updL rf n p1)))), (a3, .inl (k3, 300, .inr (.inl (vp_updL nm n p2))))] H := hP
    have hD : va_D A [(h, .inr (4, [.ref a1, .ref a2, .ref a3, .int (nI n)])), (a1, .inl (k1, 300, .inl (upd sd n p0))), (a2, .inl (k2, 300, .inr (.inl (vp_updL rf n p1)))), (a3, .inl (k3, 300, .inr (.inl (vp_updL nm n p2))))] := hD
    refine lv_aload_n hx hb dX4_add_41 rfl (lv_at hl 0 rfl) ?_
    refine lv_dup hx hb dX4_add_42 rfl ?_
    refine va_get (D := D) (ci := 4) (v := .int (nI n)) (C := RX4) (T := TX4) (N := 4) hx hb hts k_1 hown hK hP 0 rfl rfl 3 (by decide) k_0 (fun _ h9 => h9) rfl dX4_add_43 ?_
    refine lv_iconst (v := 1) hx hb dX4_add_46 (by decide) ?_
    refine lv_iadd hx hb dX4_add_47 ?_
    refine lv_topi (fun y_1 e_1 => ?_)
    obtain rfl : y_1 = nI (n + 1) := e_1.trans (by first | exact nI_1 _ | exact nI_add _ 1)
    refine va_put (D := D) (ci := 4) (v := .int (nI (n + 1))) (ty := .int) (C := RX4) (T := TX4) (N := 4) hx hb hts k_1 tyX4 tyX4_ok nmX4 hown hK hP hD hS 0 rfl rfl 3 (by decide) k_0 (fun _ h9 => h9) rfl (by decide +kernel) rfl rfl (Nat.le_of_ble_eq_true rfl) dX4_add_48 (fun H locs hP hD hS => ?_)
    have hP : va_P D vwCl [(h, .inr (4, [.ref a1, .ref a2, .ref a3, .int (nI (n + 1))])), (a1, .inl (k1, 300, .inl (upd sd n p0))), (a2, .inl (k2, 300, .inr (.inl (vp_updL rf n p1)))), (a3, .inl (k3, 300, .inr (.inl (vp_updL nm n p2))))] H := hP
    have hD : va_D A [(h, .inr (4, [.ref a1, .ref a2, .ref a3, .int (nI (n + 1))])), (a1, .inl (k1, 300, .inl (upd sd n p0))), (a2, .inl (k2, 300, .inr (.inl (vp_updL rf n p1)))), (a3, .inl (k3, 300, .inr (.inl (vp_updL nm n p2))))] := hD
    exact W.vret hx hb hr (fun t9 ht9 hW9 => ⟨⟨((n + 1), (upd sd n p0), (vp_updL rf n p1), (vp_updL nm n p2)), rfl, ⟨rfl, rfl, rfl, rfl⟩, by rw [ht9]; exact hP, va_K.moved hW9.alike hK, hD⟩, hS.F ht9⟩) hS.2.2 dX4_add_51

set_option maxHeartbeats 4000000 in
set_option maxRecDepth 100000 in
theorem cc_X5_add (l : Launch) (D : va_G) (z : zG) (sz : Nat) (h : Nat) (a1 : Nat) (k1 : ClassId) (n : Nat) (ch : Nat → Int32) (p0 : Int32) (hn : n ≤ 60) : Met l yX5_add wsX5_add ({ frames := 0, cells := 0, slots := 0, locals := 0 }) (zPre D z [.ref h, .int p0] sz [(h, .inr (5, [.ref a1, .int (nI n)])), (a1, .inl (k1, 60, .inl ch))] [(k1, .int)] (va_A [(h, .inr (5, [.ref a1, .int (nI n)])), (a1, .inl (k1, 60, .inl ch))] sz)) (va_Qv (fun u : Nat × (Nat → Int32) => (n < 60 → u.1 = n + 1 ∧ u.2 = upd ch n p0) ∧ (¬ n < 60 → u.1 = n ∧ u.2 = ch)) (zAt D [(k1, .int)] (va_A [(h, .inr (5, [.ref a1, .int (nI n)])), (a1, .inl (k1, 60, .inl ch))] sz) (fun u : Nat × (Nat → Int32) => [(h, .inr (5, [.ref a1, .int (nI u.1)])), (a1, .inl (k1, 60, .inl u.2))])) (va_A [(h, .inr (5, [.ref a1, .int (nI n)])), (a1, .inl (k1, 60, .inl ch))] sz)) 0 0 (va_A [(h, .inr (5, [.ref a1, .int (nI n)])), (a1, .inl (k1, 60, .inl ch))] sz) := by
  refine Met.ofW (cc := cX5_add) (maxL := 2) (ret := none) (by decide) rfl ?_
  intro p e s m args below meth c s₁ B hml hv
  obtain ⟨rfl, hsz, hP, hK, hD, hC⟩ := hv
  have hx := B.exec
  have hb := B.bytes
  have hr := B.returns
  have hts := atoms_spec (ws := wsX5_add) B.pre
  have hown : s.vm.findClass RX5 = some m.cls := findClass_of_methodNamed B.named
  have hlocks := B.notSynchronized
  subst hsz
  have hD := hD.self (sz := s.heap.size)
  generalize hAe : va_A [(h, .inr (5, [.ref a1, .int (nI n)])), (a1, .inl (k1, 60, .inl ch))] s.heap.size = A at hC hD ⊢
  have hA : ∀ q : Nat, s.heap.size ≤ q → A q := fun q h => by rw [← hAe]; exact Or.inr h
  have hS : va_S A s.heap s.heap [] := va_S.rf
  have hP : va_P D vwCl [(h, .inr (5, [.ref a1, .int (nI n)])), (a1, .inl (k1, 60, .inl ch))] s.heap := hP
  have hl := lv_entry ([.ref h, .int p0]) (n := 2) (Nat.le_of_ble_eq_true rfl)
  rw [lg_entry_eq]
  generalize (lg_sl ([.ref h, .int p0]) ++ List.replicate (2 - (lg_sl ([.ref h, .int p0])).length) Slot.unset).toArray = ls at hl ⊢
  have hl : lv_has ls 2 [(0, .ref h), (1, .int p0)] := hl
  refine zNameH (D := D) (A := A) (ws := [(h, .inr (5, [.ref a1, .int (nI n)])), (a1, .inl (k1, 60, .inl ch))]) (fun H locs hP hS => ?_) hP hS
  have k_0 := hts (.fieldLink RX5 15 "NumberRows2$TypedText" "length" "I") (by decide +kernel)
  have k_1 : ∀ w ∈ wsX50, w ∈ wsX5_add := by decide +kernel
  have k_2 := hts (.fieldLink RX5 9 "NumberRows2$TypedText" "characters" "[I") (by decide +kernel)
  refine lv_aload_n hx hb dX5_add_0 rfl (lv_at hl 0 rfl) ?_
  refine va_get (D := D) (ci := 5) (v := .int (nI n)) (C := RX5) (T := TX5) (N := 2) hx hb hts k_1 hown hK hP 0 rfl rfl 1 (by decide) k_0 (fun _ h9 => h9) rfl dX5_add_1 ?_
  refine lv_bipush (v := 60) hx hb dX5_add_4 (by decide) ?_
  refine lv_icmp_ge (tgt := 29) hx hb dX5_add_6 (by decide) (fun c_6 => ?_) (fun c_6 => ?_)
  · have c_6 : 60 ≤ n := (nI_leI (a := 60) (b := n) (by omega) (by omega)).mp c_6
    exact W.vret hx hb hr (fun t9 ht9 hW9 => ⟨⟨(n, ch), rfl, ⟨fun q => absurd q (by omega), fun _ => ⟨rfl, rfl⟩⟩, by rw [ht9]; exact hP, va_K.moved hW9.alike hK, hD⟩, hS.F ht9⟩) hS.2.2 dX5_add_29
  · have c_6 : ¬ (60 ≤ n) := fun q9 => c_6 ((nI_leI (a := 60) (b := n) (by omega) (by omega)).mpr q9)
    refine lv_aload_n hx hb dX5_add_9 rfl (lv_at hl 0 rfl) ?_
    refine va_get (D := D) (ci := 5) (v := .ref a1) (C := RX5) (T := TX5) (N := 2) hx hb hts k_1 hown hK hP 0 rfl rfl 0 (by decide) k_2 (fun _ h9 => h9) rfl dX5_add_10 ?_
    refine lv_aload_n hx hb dX5_add_13 rfl (lv_at hl 0 rfl) ?_
    refine va_get (D := D) (ci := 5) (v := .int (nI n)) (C := RX5) (T := TX5) (N := 2) hx hb hts k_1 hown hK hP 0 rfl rfl 1 (by decide) k_0 (fun _ h9 => h9) rfl dX5_add_14 ?_
    refine lv_iload_n hx hb dX5_add_17 rfl (lv_at hl 1 rfl) ?_
    refine z_iast (k := n) hx hb hK hP hD hS 1 0 rfl rfl (by omega) (by decide) dX5_add_18 (fun H locs hP hD hS => ?_)
    have hP : va_P D vwCl [(h, .inr (5, [.ref a1, .int (nI n)])), (a1, .inl (k1, 60, .inl (upd ch n p0)))] H := hP
    have hD : va_D A [(h, .inr (5, [.ref a1, .int (nI n)])), (a1, .inl (k1, 60, .inl (upd ch n p0)))] := hD
    refine lv_aload_n hx hb dX5_add_19 rfl (lv_at hl 0 rfl) ?_
    refine lv_dup hx hb dX5_add_20 rfl ?_
    refine va_get (D := D) (ci := 5) (v := .int (nI n)) (C := RX5) (T := TX5) (N := 2) hx hb hts k_1 hown hK hP 0 rfl rfl 1 (by decide) k_0 (fun _ h9 => h9) rfl dX5_add_21 ?_
    refine lv_iconst (v := 1) hx hb dX5_add_24 (by decide) ?_
    refine lv_iadd hx hb dX5_add_25 ?_
    refine lv_topi (fun y_1 e_1 => ?_)
    obtain rfl : y_1 = nI (n + 1) := e_1.trans (by first | exact nI_1 _ | exact nI_add _ 1)
    refine va_put (D := D) (ci := 5) (v := .int (nI (n + 1))) (ty := .int) (C := RX5) (T := TX5) (N := 2) hx hb hts k_1 tyX5 tyX5_ok nmX5 hown hK hP hD hS 0 rfl rfl 1 (by decide) k_0 (fun _ h9 => h9) rfl (by decide +kernel) rfl rfl (Nat.le_of_ble_eq_true rfl) dX5_add_26 (fun H locs hP hD hS => ?_)
    have hP : va_P D vwCl [(h, .inr (5, [.ref a1, .int (nI (n + 1))])), (a1, .inl (k1, 60, .inl (upd ch n p0)))] H := hP
    have hD : va_D A [(h, .inr (5, [.ref a1, .int (nI (n + 1))])), (a1, .inl (k1, 60, .inl (upd ch n p0)))] := hD
    exact W.vret hx hb hr (fun t9 ht9 hW9 => ⟨⟨((n + 1), (upd ch n p0)), rfl, ⟨fun _ => ⟨rfl, rfl⟩, fun q => absurd q (by omega)⟩, by rw [ht9]; exact hP, va_K.moved hW9.alike hK, hD⟩, hS.F ht9⟩) hS.2.2 dX5_add_29

set_option maxHeartbeats 4000000 in
set_option maxRecDepth 100000 in
theorem cc_X5_clear (l : Launch) (D : va_G) (z : zG) (sz : Nat) (h : Nat) (a1 : Nat) (k1 : ClassId) (n : Nat) (ch : Nat → Int32) (hn : n ≤ 60) : Met l yX5_clear wsX5_clear ({ frames := 0, cells := 0, slots := 0, locals := 0 }) (zPre D z [.ref h] sz [(h, .inr (5, [.ref a1, .int (nI n)])), (a1, .inl (k1, 60, .inl ch))] [(k1, .int)] (va_A [(h, .inr (5, [.ref a1, .int (nI n)])), (a1, .inl (k1, 60, .inl ch))] sz)) (va_Qv (fun u : Unit => True) (zAt D [(k1, .int)] (va_A [(h, .inr (5, [.ref a1, .int (nI n)])), (a1, .inl (k1, 60, .inl ch))] sz) (fun u : Unit => [(h, .inr (5, [.ref a1, .int (nI 0)])), (a1, .inl (k1, 60, .inl ch))])) (va_A [(h, .inr (5, [.ref a1, .int (nI n)])), (a1, .inl (k1, 60, .inl ch))] sz)) 0 0 (va_A [(h, .inr (5, [.ref a1, .int (nI n)])), (a1, .inl (k1, 60, .inl ch))] sz) := by
  refine Met.ofW (cc := cX5_clear) (maxL := 1) (ret := none) (by decide) rfl ?_
  intro p e s m args below meth c s₁ B hml hv
  obtain ⟨rfl, hsz, hP, hK, hD, hC⟩ := hv
  have hx := B.exec
  have hb := B.bytes
  have hr := B.returns
  have hts := atoms_spec (ws := wsX5_clear) B.pre
  have hown : s.vm.findClass RX5 = some m.cls := findClass_of_methodNamed B.named
  have hlocks := B.notSynchronized
  subst hsz
  have hD := hD.self (sz := s.heap.size)
  generalize hAe : va_A [(h, .inr (5, [.ref a1, .int (nI n)])), (a1, .inl (k1, 60, .inl ch))] s.heap.size = A at hC hD ⊢
  have hA : ∀ q : Nat, s.heap.size ≤ q → A q := fun q h => by rw [← hAe]; exact Or.inr h
  have hS : va_S A s.heap s.heap [] := va_S.rf
  have hP : va_P D vwCl [(h, .inr (5, [.ref a1, .int (nI n)])), (a1, .inl (k1, 60, .inl ch))] s.heap := hP
  have hl := lv_entry ([.ref h]) (n := 1) (Nat.le_of_ble_eq_true rfl)
  rw [lg_entry_eq]
  generalize (lg_sl ([.ref h]) ++ List.replicate (1 - (lg_sl ([.ref h])).length) Slot.unset).toArray = ls at hl ⊢
  have hl : lv_has ls 1 [(0, .ref h)] := hl
  refine zNameH (D := D) (A := A) (ws := [(h, .inr (5, [.ref a1, .int (nI n)])), (a1, .inl (k1, 60, .inl ch))]) (fun H locs hP hS => ?_) hP hS
  have k_0 := hts (.fieldLink RX5 15 "NumberRows2$TypedText" "length" "I") (by decide +kernel)
  have k_1 : ∀ w ∈ wsX50, w ∈ wsX5_clear := by decide +kernel
  refine lv_aload_n hx hb dX5_clear_0 rfl (lv_at hl 0 rfl) ?_
  refine lv_iconst (v := 0) hx hb dX5_clear_1 (by decide) ?_
  refine va_put (D := D) (ci := 5) (v := .int 0) (ty := .int) (C := RX5) (T := TX5) (N := 2) hx hb hts k_1 tyX5 tyX5_ok nmX5 hown hK hP hD hS 0 rfl rfl 1 (by decide) k_0 (fun _ h9 => h9) rfl (by decide +kernel) rfl rfl (Nat.le_of_ble_eq_true rfl) dX5_clear_2 (fun H locs hP hD hS => ?_)
  have hP : va_P D vwCl [(h, .inr (5, [.ref a1, .int 0])), (a1, .inl (k1, 60, .inl ch))] H := hP
  have hD : va_D A [(h, .inr (5, [.ref a1, .int 0])), (a1, .inl (k1, 60, .inl ch))] := hD
  exact W.vret hx hb hr (fun t9 ht9 hW9 => ⟨⟨(), rfl, trivial, by rw [ht9]; exact hP, va_K.moved hW9.alike hK, hD⟩, hS.F ht9⟩) hS.2.2 dX5_clear_5
end
section
/-! String.charAt of the letters -/
theorem zrecv {z : zG} {A : Nat → Prop} {s : State} {H : Heap} {locs : List Loc} (hC : zC z A s) (hS : va_S A s.heap H locs) : ∃ cell : Cell, H[z.2.1]? = some cell ∧ cell.vm.isStatics = false ∧ s.vm.findClass "java/lang/String" = some cell.cls := by
  obtain ⟨cell, h1, h2, h3, -⟩ := (hC.2.2.2.2.2.2.2.1).kept hS.2.1
  exact ⟨cell, h1, h2, h3⟩
theorem zLt_c : ∀ i, i < 31 → ((zLt i &&& 255).toUInt32 % 65536).toInt32 = zLt i := by decide +kernel
theorem zLt_n : ∀ i, i < 31 → narrow .char (.int (zLt i)) = .int (zLt i) := by
  intro i hi
  have h := zLt_c i hi
  have h2 : ∀ i, i < 31 → (zLt i).toUInt32.toUInt16.toUInt32.toInt32 = zLt i := by decide +kernel
  show Value.int _ = _
  exact congrArg Value.int (h2 i hi)

set_option maxHeartbeats 4000000 in
set_option maxRecDepth 100000 in
theorem cc_J3_checkIndex_r (l : Launch) (D : va_G) (z : zG) (sz : Nat) (i : Nat) (n : Nat) (t : Nat) (hi : i < n) (hn : n < 2 ^ 31) : Met l yJ3_checkIndex_8e157 wsJ3_checkIndex_8e157 ({ frames := 0, cells := 0, slots := 0, locals := 0 }) (zPre D z [.int (nI i), .int (nI n), .ref t] sz [] [] (va_A [] sz)) (va_Qi (fun (r : Int32) (u : Unit) => r = nI i) zT (va_A [] sz)) 0 0 (va_A [] sz) := by
  refine Met.ofW (cc := cJ3_checkIndex_8e157) (maxL := 3) (ret := (some .int)) (by decide) rfl ?_
  intro p e s m args below meth c s₁ B hml hv
  obtain ⟨rfl, hsz, hP, hK, hD, hC⟩ := hv
  have hx := B.exec
  have hb := B.bytes
  have hr := B.returns
  have hts := atoms_spec (ws := wsJ3_checkIndex_8e157) B.pre
  have hown : s.vm.findClass RJ3 = some m.cls := findClass_of_methodNamed B.named
  have hlocks := B.notSynchronized
  subst hsz
  generalize hAe : va_A [] s.heap.size = A at hC ⊢
  have hA : ∀ q : Nat, s.heap.size ≤ q → A q := fun q h => by rw [← hAe]; exact Or.inr h
  have hS : va_S A s.heap s.heap [] := va_S.rf
  have hP : va_P D vwCl [] s.heap := hP
  have hl := lv_entry ([.int (nI i), .int (nI n), .ref t]) (n := 3) (Nat.le_of_ble_eq_true rfl)
  rw [lg_entry_eq]
  generalize (lg_sl ([.int (nI i), .int (nI n), .ref t]) ++ List.replicate (3 - (lg_sl ([.int (nI i), .int (nI n), .ref t])).length) Slot.unset).toArray = ls at hl ⊢
  have hl : lv_has ls 3 [(0, .int (nI i)), (1, .int (nI n)), (2, .ref t)] := hl
  refine zNameH (D := D) (A := A) (ws := []) (fun H locs hP hS => ?_) hP hS
  refine lv_iload_n hx hb dJ3_checkIndex_8e157_0 rfl (lv_at hl 0 rfl) ?_
  refine lv_if_lt (tgt := 9) hx hb dJ3_checkIndex_8e157_1 (by decide) (fun c_1 => ?_) (fun c_1 => ?_)
  · have c_1 : i < 0 := (nI_ltI (a := i) (b := 0) (by omega) (by omega)).mp c_1
    exact absurd c_1 (by omega)
  · have c_1 : ¬ (i < 0) := fun q9 => c_1 ((nI_ltI (a := i) (b := 0) (by omega) (by omega)).mpr q9)
    refine lv_iload_n hx hb dJ3_checkIndex_8e157_4 rfl (lv_at hl 0 rfl) ?_
    refine lv_iload_n hx hb dJ3_checkIndex_8e157_5 rfl (lv_at hl 1 rfl) ?_
    refine lv_icmp_lt (tgt := 16) hx hb dJ3_checkIndex_8e157_6 (by decide) (fun c_6 => ?_) (fun c_6 => ?_)
    · have c_6 : i < n := (nI_ltI (a := i) (b := n) (by omega) (by omega)).mp c_6
      refine lv_iload_n hx hb dJ3_checkIndex_8e157_16 rfl (lv_at hl 0 rfl) ?_
      exact W.iret (v := (nI i)) hx hb hr (fun t9 ht9 hW9 => ⟨⟨_, (), rfl, rfl, trivial⟩, hS.F ht9⟩) hS.2.2 dJ3_checkIndex_8e157_17
    · have c_6 : ¬ (i < n) := fun q9 => c_6 ((nI_ltI (a := i) (b := n) (by omega) (by omega)).mpr q9)
      exact absurd c_6 (by omega)

set_option maxHeartbeats 4000000 in
set_option maxRecDepth 100000 in
theorem cc_J3_checkIndex_n (l : Launch) (D : va_G) (z : zG) (sz : Nat) (i : Nat) (n : Nat) (hi : i < n) (hn : n < 2 ^ 31) : Met l yJ3_checkIndex_8e157 wsJ3_checkIndex_8e157 ({ frames := 0, cells := 0, slots := 0, locals := 0 }) (zPre D z [.int (nI i), .int (nI n), .null] sz [] [] (va_A [] sz)) (va_Qi (fun (r : Int32) (u : Unit) => r = nI i) zT (va_A [] sz)) 0 0 (va_A [] sz) := by
  refine Met.ofW (cc := cJ3_checkIndex_8e157) (maxL := 3) (ret := (some .int)) (by decide) rfl ?_
  intro p e s m args below meth c s₁ B hml hv
  obtain ⟨rfl, hsz, hP, hK, hD, hC⟩ := hv
  have hx := B.exec
  have hb := B.bytes
  have hr := B.returns
  have hts := atoms_spec (ws := wsJ3_checkIndex_8e157) B.pre
  have hown : s.vm.findClass RJ3 = some m.cls := findClass_of_methodNamed B.named
  have hlocks := B.notSynchronized
  subst hsz
  generalize hAe : va_A [] s.heap.size = A at hC ⊢
  have hA : ∀ q : Nat, s.heap.size ≤ q → A q := fun q h => by rw [← hAe]; exact Or.inr h
  have hS : va_S A s.heap s.heap [] := va_S.rf
  have hP : va_P D vwCl [] s.heap := hP
  have hl := lv_entry ([.int (nI i), .int (nI n), .null]) (n := 3) (Nat.le_of_ble_eq_true rfl)
  rw [lg_entry_eq]
  generalize (lg_sl ([.int (nI i), .int (nI n), .null]) ++ List.replicate (3 - (lg_sl ([.int (nI i), .int (nI n), .null])).length) Slot.unset).toArray = ls at hl ⊢
  have hl : lv_has ls 3 [(0, .int (nI i)), (1, .int (nI n)), (2, .null)] := hl
  refine zNameH (D := D) (A := A) (ws := []) (fun H locs hP hS => ?_) hP hS
  refine lv_iload_n hx hb dJ3_checkIndex_8e157_0 rfl (lv_at hl 0 rfl) ?_
  refine lv_if_lt (tgt := 9) hx hb dJ3_checkIndex_8e157_1 (by decide) (fun c_1 => ?_) (fun c_1 => ?_)
  · have c_1 : i < 0 := (nI_ltI (a := i) (b := 0) (by omega) (by omega)).mp c_1
    exact absurd c_1 (by omega)
  · have c_1 : ¬ (i < 0) := fun q9 => c_1 ((nI_ltI (a := i) (b := 0) (by omega) (by omega)).mpr q9)
    refine lv_iload_n hx hb dJ3_checkIndex_8e157_4 rfl (lv_at hl 0 rfl) ?_
    refine lv_iload_n hx hb dJ3_checkIndex_8e157_5 rfl (lv_at hl 1 rfl) ?_
    refine lv_icmp_lt (tgt := 16) hx hb dJ3_checkIndex_8e157_6 (by decide) (fun c_6 => ?_) (fun c_6 => ?_)
    · have c_6 : i < n := (nI_ltI (a := i) (b := n) (by omega) (by omega)).mp c_6
      refine lv_iload_n hx hb dJ3_checkIndex_8e157_16 rfl (lv_at hl 0 rfl) ?_
      exact W.iret (v := (nI i)) hx hb hr (fun t9 ht9 hW9 => ⟨⟨_, (), rfl, rfl, trivial⟩, hS.F ht9⟩) hS.2.2 dJ3_checkIndex_8e157_17
    · have c_6 : ¬ (i < n) := fun q9 => c_6 ((nI_ltI (a := i) (b := n) (by omega) (by omega)).mpr q9)
      exact absurd c_6 (by omega)

set_option maxHeartbeats 4000000 in
set_option maxRecDepth 100000 in
theorem cc_J0_checkIndex (l : Launch) (D : va_G) (z : zG) (sz : Nat) (i : Nat) (n : Nat) (hi : i < n) (hn : n < 2 ^ 31) : Met l yJ0_checkIndex_df160 wsJ0_checkIndex_df160 ({ frames := 1, cells := 0, slots := 0, locals := 22 }) (zPre D z [.int (nI i), .int (nI n)] sz [] [] (va_A [] sz)) (va_Qv (fun u : Unit => True) zT (va_A [] sz)) 0 0 (va_A [] sz) := by
  refine Met.ofW (cc := cJ0_checkIndex_df160) (maxL := 2) (ret := none) (by decide) rfl ?_
  intro p e s m args below meth c s₁ B hml hv
  obtain ⟨rfl, hsz, hP, hK, hD, hC⟩ := hv
  have hx := B.exec
  have hb := B.bytes
  have hr := B.returns
  have hts := atoms_spec (ws := wsJ0_checkIndex_df160) B.pre
  have hown : s.vm.findClass RJ0 = some m.cls := findClass_of_methodNamed B.named
  have hlocks := B.notSynchronized
  subst hsz
  generalize hAe : va_A [] s.heap.size = A at hC ⊢
  have hA : ∀ q : Nat, s.heap.size ≤ q → A q := fun q h => by rw [← hAe]; exact Or.inr h
  have hS : va_S A s.heap s.heap [] := va_S.rf
  have hP : va_P D vwCl [] s.heap := hP
  have hl := lv_entry ([.int (nI i), .int (nI n)]) (n := 2) (Nat.le_of_ble_eq_true rfl)
  rw [lg_entry_eq]
  generalize (lg_sl ([.int (nI i), .int (nI n)]) ++ List.replicate (2 - (lg_sl ([.int (nI i), .int (nI n)])).length) Slot.unset).toArray = ls at hl ⊢
  have hl : lv_has ls 2 [(0, .int (nI i)), (1, .int (nI n))] := hl
  refine zNameH (D := D) (A := A) (ws := []) (fun H locs hP hS => ?_) hP hS
  have k_0 := hts (.fieldLink RJ0 1053 "jdk/internal/util/Preconditions" "SIOOBE_FORMATTER" "Ljava/util/function/BiFunction;") (by decide +kernel)
  refine lv_iload_n hx hb dJ0_checkIndex_df160_0 rfl (lv_at hl 0 rfl) ?_
  refine lv_iload_n hx hb dJ0_checkIndex_df160_1 rfl (lv_at hl 1 rfl) ?_
  rcases hC.2.2.2.2.2.2.1 with hZ | ⟨t7, hZ⟩
  · refine va_gets hx hb hZ hS hown k_0 (fun _ h9 => h9) dJ0_checkIndex_df160_2 ?_
    refine zRo_i (va_runS (As := [.int (nI i), .int (nI n), .null]) (rest := []) ⟨hx, hb, hml, hown, hts⟩ (cc_J3_checkIndex_n l D z H.size i n (by omega) (by omega)) (va_cwS 3 hts gJ0_checkIndex_df160_J3_checkIndex_8e157 rfl rfl rfl (by decide +kernel) ⟨Nat.le_of_ble_eq_true rfl, Nat.le_of_ble_eq_true rfl⟩) ⟨zPre_blind, (zPre_mk (wc := []) (tc := []) hP hK hD hC hS [] (by decide) rfl rfl [] rfl (zro_free hS hA))⟩ rfl rfl hl.1 rfl (lv_room (Nat.le_of_ble_eq_true rfl)) dJ0_checkIndex_df160_5 ⟨Nat.zero_le _, Nat.zero_le _⟩) hS hA hP (fun r_5 H locs hw hP hS => ?_)
    have hw_5 : r_5 = nI i := hw
    refine lv_pop hx hb dJ0_checkIndex_df160_8 rfl ?_
    exact W.vret hx hb hr (fun t9 ht9 hW9 => ⟨⟨(), rfl, trivial, trivial⟩, hS.F ht9⟩) hS.2.2 dJ0_checkIndex_df160_9
  · refine va_gets hx hb hZ hS hown k_0 (fun _ h9 => h9) dJ0_checkIndex_df160_2 ?_
    refine zRo_i (va_runS (As := [.int (nI i), .int (nI n), .ref t7]) (rest := []) ⟨hx, hb, hml, hown, hts⟩ (cc_J3_checkIndex_r l D z H.size i n t7 (by omega) (by omega)) (va_cwS 3 hts gJ0_checkIndex_df160_J3_checkIndex_8e157 rfl rfl rfl (by decide +kernel) ⟨Nat.le_of_ble_eq_true rfl, Nat.le_of_ble_eq_true rfl⟩) ⟨zPre_blind, (zPre_mk (wc := []) (tc := []) hP hK hD hC hS [] (by decide) rfl rfl [] rfl (zro_free hS hA))⟩ rfl rfl hl.1 rfl (lv_room (Nat.le_of_ble_eq_true rfl)) dJ0_checkIndex_df160_5 ⟨Nat.zero_le _, Nat.zero_le _⟩) hS hA hP (fun r_5 H locs hw hP hS => ?_)
    have hw_5 : r_5 = nI i := hw
    refine lv_pop hx hb dJ0_checkIndex_df160_8 rfl ?_
    exact W.vret hx hb hr (fun t9 ht9 hW9 => ⟨⟨(), rfl, trivial, trivial⟩, hS.F ht9⟩) hS.2.2 dJ0_checkIndex_df160_9

set_option maxHeartbeats 4000000 in
set_option maxRecDepth 100000 in
theorem cc_J1_charAt (l : Launch) (D : va_G) (z : zG) (sz : Nat) (i : Nat) (hi : i < 31) : Met l yJ1_charAt_3b067 wsJ1_charAt_3b067 ({ frames := 2, cells := 0, slots := 0, locals := 43 }) (zPre D z [.ref z.2.2.1, .int (nI i)] sz [] [] (va_A [] sz)) (va_Qi (fun (r : Int32) (u : Unit) => r = zLt i) zT (va_A [] sz)) 0 0 (va_A [] sz) := by
  refine Met.ofW (cc := cJ1_charAt_3b067) (maxL := 2) (ret := (some .char)) (by decide) rfl ?_
  intro p e s m args below meth c s₁ B hml hv
  obtain ⟨rfl, hsz, hP, hK, hD, hC⟩ := hv
  have hx := B.exec
  have hb := B.bytes
  have hr := B.returns
  have hts := atoms_spec (ws := wsJ1_charAt_3b067) B.pre
  have hown : s.vm.findClass RJ1 = some m.cls := findClass_of_methodNamed B.named
  have hlocks := B.notSynchronized
  subst hsz
  generalize hAe : va_A [] s.heap.size = A at hC ⊢
  have hA : ∀ q : Nat, s.heap.size ≤ q → A q := fun q h => by rw [← hAe]; exact Or.inr h
  have hS : va_S A s.heap s.heap [] := va_S.rf
  have hP : va_P D vwCl [] s.heap := hP
  have hl := lv_entry ([.ref z.2.2.1, .int (nI i)]) (n := 2) (Nat.le_of_ble_eq_true rfl)
  rw [lg_entry_eq]
  generalize (lg_sl ([.ref z.2.2.1, .int (nI i)]) ++ List.replicate (2 - (lg_sl ([.ref z.2.2.1, .int (nI i)])).length) Slot.unset).toArray = ls at hl ⊢
  have hl : lv_has ls 2 [(0, .ref z.2.2.1), (1, .int (nI i))] := hl
  refine zNameH (D := D) (A := A) (ws := []) (fun H locs hP hS => ?_) hP hS
  refine lv_iload_n hx hb dJ1_charAt_3b067_0 rfl (lv_at hl 1 rfl) ?_
  refine lv_aload_n hx hb dJ1_charAt_3b067_1 rfl (lv_at hl 0 rfl) ?_
  refine va_tlen (v := nI 31) hx hb hC.2.2.2.2.2.2.2.2.2.2.1 hS rfl dJ1_charAt_3b067_2 ?_
  refine zRo_v (va_runS (As := [.int (nI i), .int (nI 31)]) (rest := []) ⟨hx, hb, hml, hown, hts⟩ (cc_J0_checkIndex l D z H.size i 31 (by omega) (by omega)) (va_cwS 2 hts gJ1_charAt_3b067_J0_checkIndex_df160 rfl rfl rfl (by decide +kernel) ⟨Nat.le_of_ble_eq_true rfl, Nat.le_of_ble_eq_true rfl⟩) ⟨zPre_blind, (zPre_mk (wc := []) (tc := []) hP hK hD hC hS [] (by decide) rfl rfl [] rfl (zro_free hS hA))⟩ rfl rfl hl.1 rfl (lv_room (Nat.le_of_ble_eq_true rfl)) dJ1_charAt_3b067_3 ⟨Nat.zero_le _, Nat.zero_le _⟩) hS hA hP (fun H locs hw hP hS => ?_)
  have hw_3 : True := hw
  refine lv_aload_n hx hb dJ1_charAt_3b067_6 rfl (lv_at hl 0 rfl) ?_
  refine lv_iload_n hx hb dJ1_charAt_3b067_7 rfl (lv_at hl 1 rfl) ?_
  refine va_tb (v := .int (zLt i)) hx hb hC.2.2.2.2.2.2.2.2.2.2.1 hS (vp_in_nI hi (by decide)) (by show Value.int (zLt _) = _; rw [nI_clamp (by omega)]) dJ1_charAt_3b067_8 ?_
  refine lv_sipush (v := 255) hx hb dJ1_charAt_3b067_9 (by decide) ?_
  refine lv_iand hx hb dJ1_charAt_3b067_12 ?_
  refine lv_i2c (v := (((zLt i) &&& 255).toUInt32 % 65536).toInt32) hx hb dJ1_charAt_3b067_13 rfl ?_
  exact W.zret (v := ((((zLt i) &&& 255).toUInt32 % 65536).toInt32)) hx hb hr (by rw [zLt_c i hi]; exact zLt_n i hi) (fun t9 ht9 hW9 => ⟨⟨_, (), rfl, zLt_c i hi, trivial⟩, hS.F ht9⟩) hS.2.2 dJ1_charAt_3b067_14

set_option maxHeartbeats 4000000 in
set_option maxRecDepth 100000 in
theorem cc_J0_isLatin1 (l : Launch) (D : va_G) (z : zG) (sz : Nat)   : Met l yJ0_isLatin1_aae02 wsJ0_isLatin1_aae02 ({ frames := 0, cells := 0, slots := 0, locals := 0 }) (zPre D z [.ref z.2.1] sz [] [] (va_A [] sz)) (va_Qi (fun (r : Int32) (u : Unit) => r = 1) zT (va_A [] sz)) 0 0 (va_A [] sz) := by
  refine Met.ofW (cc := cJ0_isLatin1_aae02) (maxL := 1) (ret := (some .boolean)) (by decide) rfl ?_
  intro p e s m args below meth c s₁ B hml hv
  obtain ⟨rfl, hsz, hP, hK, hD, hC⟩ := hv
  have hx := B.exec
  have hb := B.bytes
  have hr := B.returns
  have hts := atoms_spec (ws := wsJ0_isLatin1_aae02) B.pre
  have hown : s.vm.findClass RJ0 = some m.cls := findClass_of_methodNamed B.named
  have hlocks := B.notSynchronized
  subst hsz
  generalize hAe : va_A [] s.heap.size = A at hC ⊢
  have hA : ∀ q : Nat, s.heap.size ≤ q → A q := fun q h => by rw [← hAe]; exact Or.inr h
  have hS : va_S A s.heap s.heap [] := va_S.rf
  have hP : va_P D vwCl [] s.heap := hP
  have hl := lv_entry ([.ref z.2.1]) (n := 1) (Nat.le_of_ble_eq_true rfl)
  rw [lg_entry_eq]
  generalize (lg_sl ([.ref z.2.1]) ++ List.replicate (1 - (lg_sl ([.ref z.2.1])).length) Slot.unset).toArray = ls at hl ⊢
  have hl : lv_has ls 1 [(0, .ref z.2.1)] := hl
  refine zNameH (D := D) (A := A) (ws := []) (fun H locs hP hS => ?_) hP hS
  have k_0 := hts (.fieldLink RJ0 38 "java/lang/String" "COMPACT_STRINGS" "Z") (by decide +kernel)
  have k_1 := hts (.fieldLink RJ0 15 "java/lang/String" "coder" "B") (by decide +kernel)
  refine va_gets hx hb hC.2.2.2.2.2.1 hS hown k_0 (fun _ h9 => h9) dJ0_isLatin1_aae02_0 ?_
  refine lv_if_eq (tgt := 17) hx hb dJ0_isLatin1_aae02_3 (by decide) (fun c_3 => ?_) (fun c_3 => ?_)
  · exact absurd c_3 (by decide)
  · refine lv_aload_n hx hb dJ0_isLatin1_aae02_6 rfl (lv_at hl 0 rfl) ?_
    refine vk_getf hx hb hC.2.2.2.2.2.2.2.2.1 hS hown k_1 (fun _ h9 => h9) dJ0_isLatin1_aae02_7 ?_
    refine lv_if_ne (tgt := 17) hx hb dJ0_isLatin1_aae02_10 (by decide) (fun c_10 => ?_) (fun c_10 => ?_)
    · exact absurd c_10 (by decide)
    · refine lv_iconst (v := 1) hx hb dJ0_isLatin1_aae02_13 (by decide) ?_
      refine lv_goto (tgt := 18) hx hb dJ0_isLatin1_aae02_14 (by decide) ?_
      exact W.zret (v := 1) hx hb hr rfl (fun t9 ht9 hW9 => ⟨⟨_, (), rfl, rfl, trivial⟩, hS.F ht9⟩) hS.2.2 dJ0_isLatin1_aae02_18

set_option maxHeartbeats 4000000 in
set_option maxRecDepth 100000 in
theorem cc_J0_charAt (l : Launch) (D : va_G) (z : zG) (sz : Nat) (i : Nat) (hi : i < 31) : Met l yJ0_charAt_5068e wsJ0_charAt_5068e ({ frames := 3, cells := 0, slots := 0, locals := 64 }) (zPre D z [.ref z.2.1, .int (nI i)] sz [] [] (va_A [] sz)) (va_Qi (fun (r : Int32) (u : Unit) => r = zLt i) zT (va_A [] sz)) 0 0 (va_A [] sz) := by
  refine Met.ofW (cc := cJ0_charAt_5068e) (maxL := 2) (ret := (some .char)) (by decide) rfl ?_
  intro p e s m args below meth c s₁ B hml hv
  obtain ⟨rfl, hsz, hP, hK, hD, hC⟩ := hv
  have hx := B.exec
  have hb := B.bytes
  have hr := B.returns
  have hts := atoms_spec (ws := wsJ0_charAt_5068e) B.pre
  have hown : s.vm.findClass RJ0 = some m.cls := findClass_of_methodNamed B.named
  have hlocks := B.notSynchronized
  subst hsz
  generalize hAe : va_A [] s.heap.size = A at hC ⊢
  have hA : ∀ q : Nat, s.heap.size ≤ q → A q := fun q h => by rw [← hAe]; exact Or.inr h
  have hS : va_S A s.heap s.heap [] := va_S.rf
  have hP : va_P D vwCl [] s.heap := hP
  have hl := lv_entry ([.ref z.2.1, .int (nI i)]) (n := 2) (Nat.le_of_ble_eq_true rfl)
  rw [lg_entry_eq]
  generalize (lg_sl ([.ref z.2.1, .int (nI i)]) ++ List.replicate (2 - (lg_sl ([.ref z.2.1, .int (nI i)])).length) Slot.unset).toArray = ls at hl ⊢
  have hl : lv_has ls 2 [(0, .ref z.2.1), (1, .int (nI i))] := hl
  refine zNameH (D := D) (A := A) (ws := []) (fun H locs hP hS => ?_) hP hS
  have k_0 := hts (.fieldLink RJ0 9 "java/lang/String" "value" "[B") (by decide +kernel)
  refine lv_aload_n hx hb dJ0_charAt_5068e_0 rfl (lv_at hl 0 rfl) ?_
  refine zRo_i (va_runV (As := []) (rest := []) ⟨hx, hb, hml, hown, hts⟩ (cc_J0_isLatin1 l D z H.size  ) (cwV 0 hts gJ0_charAt_5068e_J0_isLatin1_aae02 rfl rfl rfl (by decide +kernel) ⟨Nat.le_of_ble_eq_true rfl, Nat.le_of_ble_eq_true rfl⟩) ⟨zPre_blind, zrecv hC hS, (zPre_mk (wc := []) (tc := []) hP hK hD hC hS [] (by decide) rfl rfl [] rfl (zro_free hS hA))⟩ rfl rfl hl.1 rfl (lv_room (Nat.le_of_ble_eq_true rfl)) dJ0_charAt_5068e_1 ⟨Nat.zero_le _, Nat.zero_le _⟩) hS hA hP (fun r_1 H locs hw hP hS => ?_)
  have hw_1 : r_1 = 1 := hw
  refine lv_if_eq (tgt := 16) hx hb dJ0_charAt_5068e_4 (by decide) (fun c_4 => ?_) (fun c_4 => ?_)
  · have i_4 : r_1.toInt = 0 := zi_eq.mp c_4
    exact absurd c_4 (by rw [hw_1]; decide)
  · have i_4 : ¬ (r_1.toInt = 0) := fun q9 => c_4 (zi_eq.mpr q9)
    refine lv_aload_n hx hb dJ0_charAt_5068e_7 rfl (lv_at hl 0 rfl) ?_
    refine vk_getf hx hb hC.2.2.2.2.2.2.2.2.2.1 hS hown k_0 (fun _ h9 => h9) dJ0_charAt_5068e_8 ?_
    refine lv_iload_n hx hb dJ0_charAt_5068e_11 rfl (lv_at hl 1 rfl) ?_
    refine zRo_i (va_runS (As := [.ref z.2.2.1, .int (nI i)]) (rest := []) ⟨hx, hb, hml, hown, hts⟩ (cc_J1_charAt l D z H.size i (by omega)) (va_cwS 2 hts gJ0_charAt_5068e_J1_charAt_3b067 rfl rfl rfl (by decide +kernel) ⟨Nat.le_of_ble_eq_true rfl, Nat.le_of_ble_eq_true rfl⟩) ⟨zPre_blind, (zPre_mk (wc := []) (tc := []) hP hK hD hC hS [] (by decide) rfl rfl [] rfl (zro_free hS hA))⟩ rfl rfl hl.1 rfl (lv_room (Nat.le_of_ble_eq_true rfl)) dJ0_charAt_5068e_12 ⟨Nat.zero_le _, Nat.zero_le _⟩) hS hA hP (fun r_12 H locs hw hP hS => ?_)
    have hw_12 : r_12 = zLt i := hw
    exact W.zret (v := r_12) hx hb hr (by rw [hw_12]; exact zLt_n i hi) (fun t9 ht9 hW9 => ⟨⟨_, (), rfl, hw_12, trivial⟩, hS.F ht9⟩) hS.2.2 dJ0_charAt_5068e_15
end
section
/-! forms -/
theorem znat {x : Int32} {n : Nat} (h0 : ¬ x.toInt < 0) (h : x.toInt < n) (hn : n < 2 ^ 31) : ∃ i, i < n ∧ x = nI i :=
  ⟨x.toInt.toNat, by omega, Int32.toInt_inj.mp (by rw [nI_toInt (by omega)]; omega)⟩
def zLetter (v : Int32) : Int32 := if 0 ≤ v.toInt ∧ v.toInt < 31 then zLt v.toInt.toNat else -101
def zGreat (c : Int32) : Int32 := if 97 ≤ c.toInt ∧ c.toInt ≤ 122 then c - 97 + 65 else c
def zVal (g r : Int32) : Prop := (∃ v, v < 31 ∧ zLt v = g ∧ r = nI v ∧ ∀ w, w < v → ¬ zLt w = g) ∨ ((∀ v, v < 31 → ¬ zLt v = g) ∧ r = -1)
def zWgt (v i : Int32) : Int32 := if 0 ≤ i.toInt ∧ i.toInt < 9 then v * zWt i.toInt.toNat else 0
def zdv : Nat → Int64 → Int64
  | 0, x => x
  | t + 1, x => zdv t x / 31
def zPl (x : Int64) (i : Nat) : Int32 := if i = 0 then (zsvc x).toInt32 else (zdv (7 - i) (zser x) - zdv (7 - i) (zser x) / 31 * 31).toInt32
def zSm (x : Int64) : Nat → Int32
  | 0 => 0
  | n + 1 => zSm x n + zWgt (zPl x n) (nI n)
def zrem31 (s : Int32) : Int32 := s - s / 31 * 31
def zChk (x : Int64) : Int32 := zrem31 (31 - zrem31 (zSm x 8))
def zVA (x : Int64) (i : Nat) : Int32 := if i = 8 then zChk x else zPl x i
def zCan (v : Int32) (i : Nat) (s : Int32) : Prop := 0 ≤ v.toInt ∧ i < 9 ∧ (i = 0 → v.toInt < 10) ∧ (i = 8 → zrem31 (s + zWgt v (nI 8)) = 0)
theorem zB_nar {r : Int32} {P : Prop} (h : zB r P) : narrow .boolean (.int r) = .int r := by
  rcases h with ⟨h, -⟩ | ⟨h, -⟩ <;> rw [h] <;> rfl
theorem zch_nar {r : Int32} {i : Nat} (hi : i < 31) (h : r = zLt i) : narrow .char (.int r) = .int r := by rw [h]; exact zLt_n i hi

set_option maxHeartbeats 4000000 in
set_option maxRecDepth 100000 in
theorem cc_X2_letterOf (l : Launch) (D : va_G) (z : zG) (sz : Nat) (p0 : Int32)  : Met l yX2_letterOf wsX2_letterOf ({ frames := 4, cells := 0, slots := 0, locals := 85 }) (zPre D z [.int p0] sz [] [] (va_A [] sz)) (va_Qi (fun (r : Int32) (u : Unit) => r = zLetter p0) zT (va_A [] sz)) 0 0 (va_A [] sz) := by
  refine Met.ofW (cc := cX2_letterOf) (maxL := 1) (ret := (some .int)) (by decide) rfl ?_
  intro p e s m args below meth c s₁ B hml hv
  obtain ⟨rfl, hsz, hP, hK, hD, hC⟩ := hv
  have hx := B.exec
  have hb := B.bytes
  have hr := B.returns
  have hts := atoms_spec (ws := wsX2_letterOf) B.pre
  have hown : s.vm.findClass RX2 = some m.cls := findClass_of_methodNamed B.named
  have hlocks := B.notSynchronized
  subst hsz
  generalize hAe : va_A [] s.heap.size = A at hC ⊢
  have hA : ∀ q : Nat, s.heap.size ≤ q → A q := fun q h => by rw [← hAe]; exact Or.inr h
  have hS : va_S A s.heap s.heap [] := va_S.rf
  have hP : va_P D vwCl [] s.heap := hP
  have hl := lv_entry ([.int p0]) (n := 1) (Nat.le_of_ble_eq_true rfl)
  rw [lg_entry_eq]
  generalize (lg_sl ([.int p0]) ++ List.replicate (1 - (lg_sl ([.int p0])).length) Slot.unset).toArray = ls at hl ⊢
  have hl : lv_has ls 1 [(0, .int p0)] := hl
  refine zNameH (D := D) (A := A) (ws := []) (fun H locs hP hS => ?_) hP hS
  refine lv_iload_n hx hb dX2_letterOf_0 rfl (lv_at hl 0 rfl) ?_
  refine lv_if_lt (tgt := 10) hx hb dX2_letterOf_1 (by decide) (fun c_1 => ?_) (fun c_1 => ?_)
  · have i_1 : p0.toInt < 0 := zi_lt.mp c_1
    refine lv_bipush (v := -101) hx hb dX2_letterOf_10 (by decide) ?_
    exact W.iret (v := (-101)) hx hb hr (fun t9 ht9 hW9 => ⟨⟨_, (), rfl, (if_neg (by omega)).symm, trivial⟩, hS.F ht9⟩) hS.2.2 dX2_letterOf_12
  · have i_1 : ¬ (p0.toInt < 0) := fun q9 => c_1 (zi_lt.mpr q9)
    refine lv_iload_n hx hb dX2_letterOf_4 rfl (lv_at hl 0 rfl) ?_
    refine lv_bipush (v := 31) hx hb dX2_letterOf_5 (by decide) ?_
    refine lv_icmp_lt (tgt := 13) hx hb dX2_letterOf_7 (by decide) (fun c_7 => ?_) (fun c_7 => ?_)
    · have i_7 : p0.toInt < 31 := zi_lt.mp c_7
      obtain ⟨i, hi, rfl⟩ := znat (n := 31) i_1 i_7 (by decide)
      have hl : lv_has ls 1 [(0, .int (nI i))] := hl
      refine va_ldcS hx hb hown hC.2.1 dX2_letterOf_13 ?_
      refine lv_iload_n hx hb dX2_letterOf_15 rfl (lv_at hl 0 rfl) ?_
      refine zRo_i (va_runV (As := [.int (nI i)]) (rest := []) ⟨hx, hb, hml, hown, hts⟩ (cc_J0_charAt l D z H.size i (by omega)) (cwV 1 hts gX2_letterOf_J0_charAt_5068e rfl rfl rfl (by decide +kernel) ⟨Nat.le_of_ble_eq_true rfl, Nat.le_of_ble_eq_true rfl⟩) ⟨zPre_blind, zrecv hC hS, (zPre_mk (wc := []) (tc := []) hP hK hD hC hS [] (by decide) rfl rfl [] rfl (zro_free hS hA))⟩ rfl rfl hl.1 rfl (lv_room (Nat.le_of_ble_eq_true rfl)) dX2_letterOf_16 ⟨Nat.zero_le _, Nat.zero_le _⟩) hS hA hP (fun r_16 H locs hw hP hS => ?_)
      have hw_16 : r_16 = zLt i := hw
      exact W.iret (v := r_16) hx hb hr (fun t9 ht9 hW9 => ⟨⟨_, (), rfl, by rw [hw_16]; unfold zLetter; rw [nI_toInt (by omega), if_pos (by omega)]; rfl, trivial⟩, hS.F ht9⟩) hS.2.2 dX2_letterOf_19
    · have i_7 : ¬ (p0.toInt < 31) := fun q9 => c_7 (zi_lt.mpr q9)
      refine lv_bipush (v := -101) hx hb dX2_letterOf_10 (by decide) ?_
      exact W.iret (v := (-101)) hx hb hr (fun t9 ht9 hW9 => ⟨⟨_, (), rfl, (if_neg (by omega)).symm, trivial⟩, hS.F ht9⟩) hS.2.2 dX2_letterOf_12

set_option maxHeartbeats 4000000 in
set_option maxRecDepth 100000 in
theorem cc_X2_valueOf (l : Launch) (D : va_G) (z : zG) (sz : Nat) (p0 : Int32)  : Met l yX2_valueOf wsX2_valueOf ({ frames := 4, cells := 0, slots := 0, locals := 85 }) (zPre D z [.int p0] sz [] [] (va_A [] sz)) (va_Qi (fun (r : Int32) (u : Unit) => zVal (zGreat p0) r) zT (va_A [] sz)) 0 0 (va_A [] sz) := by
  refine Met.ofW (cc := cX2_valueOf) (maxL := 3) (ret := (some .int)) (by decide) rfl ?_
  intro p e s m args below meth c s₁ B hml hv
  obtain ⟨rfl, hsz, hP, hK, hD, hC⟩ := hv
  have hx := B.exec
  have hb := B.bytes
  have hr := B.returns
  have hts := atoms_spec (ws := wsX2_valueOf) B.pre
  have hown : s.vm.findClass RX2 = some m.cls := findClass_of_methodNamed B.named
  have hlocks := B.notSynchronized
  subst hsz
  generalize hAe : va_A [] s.heap.size = A at hC ⊢
  have hA : ∀ q : Nat, s.heap.size ≤ q → A q := fun q h => by rw [← hAe]; exact Or.inr h
  have hS : va_S A s.heap s.heap [] := va_S.rf
  have hP : va_P D vwCl [] s.heap := hP
  have hl := lv_entry ([.int p0]) (n := 3) (Nat.le_of_ble_eq_true rfl)
  rw [lg_entry_eq]
  generalize (lg_sl ([.int p0]) ++ List.replicate (3 - (lg_sl ([.int p0])).length) Slot.unset).toArray = ls at hl ⊢
  have hl : lv_has ls 3 [(0, .int p0)] := hl
  refine zNameH (D := D) (A := A) (ws := []) (fun H locs hP hS => ?_) hP hS
  refine lv_iload_n hx hb dX2_valueOf_0 rfl (lv_at hl 0 rfl) ?_
  refine lv_bipush (v := 97) hx hb dX2_valueOf_1 (by decide) ?_
  refine lv_icmp_lt (tgt := 22) hx hb dX2_valueOf_3 (by decide) (fun c_3 => ?_) (fun c_3 => ?_)
  · have i_3 : p0.toInt < 97 := zi_lt.mp c_3
    refine lv_iload_n hx hb dX2_valueOf_22 rfl (lv_at hl 0 rfl) ?_
    refine lv_topi (fun gr egr => ?_)
    have hg : gr = zGreat p0 := egr.trans (by unfold zGreat; rw [if_neg (by omega)])
    refine lv_istore_n (lv' := [(1, .int gr), (0, .int p0)]) hx hb dX2_valueOf_23 rfl hl (by decide) rfl (fun ls hl => ?_)
    refine lv_iconst (v := 0) hx hb dX2_valueOf_24 (by decide) ?_
    refine lv_istore_n (lv' := [(2, .int 0), (1, .int gr), (0, .int p0)]) hx hb dX2_valueOf_25 rfl hl (by decide) rfl (fun ls hl => ?_)
    refine zLoop (σ := Nat) (nL := 3) (μ := fun (v : Nat) => 31 - v) (lv := fun (v : Nat) => [(2, .int (nI v)), (0, .int p0), (1, .int gr)]) (wf := fun (v : Nat) => []) (I := fun (v : Nat) => v ≤ 31 ∧ ∀ w, w < v → ¬ zLt w = gr) (fun x H locs ls hI hP hD hS hl ih => ?_) 0 ⟨Nat.zero_le _, fun j hj => absurd hj (Nat.not_lt_zero j)⟩ hP hD hS (lv_sub hl [0, 2, 1] rfl)
    obtain ⟨v, rfl⟩ : ∃ y9, y9 = x := ⟨_, rfl⟩
    have hI : v ≤ 31 ∧ ∀ w, w < v → ¬ zLt w = gr := hI
    have hl : lv_has ls 3 [(2, .int (nI v)), (0, .int p0), (1, .int gr)] := hl
    have hP : va_P D vwCl [] H := hP
    have hD : va_D (fun _ => True) [] := hD
    have hi := hI.1
    refine lv_iload_n hx hb dX2_valueOf_26 rfl (lv_at hl 0 rfl) ?_
    refine lv_bipush (v := 31) hx hb dX2_valueOf_27 (by decide) ?_
    refine lv_icmp_ge (tgt := 50) hx hb dX2_valueOf_29 (by decide) (fun c_29 => ?_) (fun c_29 => ?_)
    · have c_29 : 31 ≤ v := (nI_leI (a := 31) (b := v) (by omega) (by omega)).mp c_29
      refine lv_iconst (v := -1) hx hb dX2_valueOf_50 (by decide) ?_
      exact W.iret (v := (-1)) hx hb hr (fun t9 ht9 hW9 => ⟨⟨_, (), rfl, hg ▸ Or.inr ⟨fun j hj => hI.2 j (by omega), rfl⟩, trivial⟩, hS.F ht9⟩) hS.2.2 dX2_valueOf_51
    · have c_29 : ¬ (31 ≤ v) := fun q9 => c_29 ((nI_leI (a := 31) (b := v) (by omega) (by omega)).mpr q9)
      refine va_ldcS hx hb hown hC.2.1 dX2_valueOf_32 ?_
      refine lv_iload_n hx hb dX2_valueOf_34 rfl (lv_at hl 0 rfl) ?_
      refine zRo_i (va_runV (As := [.int (nI v)]) (rest := []) ⟨hx, hb, hml, hown, hts⟩ (cc_J0_charAt l D z H.size v (by omega)) (cwV 1 hts gX2_valueOf_J0_charAt_5068e rfl rfl rfl (by decide +kernel) ⟨Nat.le_of_ble_eq_true rfl, Nat.le_of_ble_eq_true rfl⟩) ⟨zPre_blind, zrecv hC hS, (zPre_mk (wc := []) (tc := []) hP hK hD hC hS [] (by decide) rfl rfl [] rfl (zro_free hS hA))⟩ rfl rfl hl.1 rfl (lv_room (Nat.le_of_ble_eq_true rfl)) dX2_valueOf_35 ⟨Nat.zero_le _, Nat.zero_le _⟩) hS hA hP (fun r_35 H locs hw hP hS => ?_)
      have hw_35 : r_35 = zLt v := hw
      refine lv_iload_n hx hb dX2_valueOf_38 rfl (lv_at hl 2 rfl) ?_
      refine lv_icmp_ne (tgt := 44) hx hb dX2_valueOf_39 (by decide) (fun c_39 => ?_) (fun c_39 => ?_)
      · have i_39 : ¬ (r_35.toInt = gr.toInt) := fun q9 => c_39 (zi_eq.mpr q9)
        refine lv_iinc (v := (nI (v + 1))) (lv' := [(2, .int (nI (v + 1))), (0, .int p0), (1, .int gr)]) hx hb dX2_valueOf_44 hl (k := 0) rfl (by first | exact nI_1 _ | rfl) (by decide) rfl (fun ls hl => ?_)
        refine lv_goto (tgt := 26) hx hb dX2_valueOf_47 (by decide) ?_
        exact ih (v + 1) _ _ _ (show 31 - (v + 1) < 31 - v from (by omega)) ⟨by omega, lt_s hI.2 (fun q => c_39 (hw_35.trans q))⟩ hP hD hS (lv_sub hl [0, 1, 2] rfl)
      · have i_39 : r_35.toInt = gr.toInt := zi_eq.mp c_39
        refine lv_iload_n hx hb dX2_valueOf_42 rfl (lv_at hl 0 rfl) ?_
        exact W.iret (v := (nI v)) hx hb hr (fun t9 ht9 hW9 => ⟨⟨_, (), rfl, hg ▸ Or.inl ⟨v, by omega, hw_35.symm.trans c_39, rfl, hI.2⟩, trivial⟩, hS.F ht9⟩) hS.2.2 dX2_valueOf_43
  · have i_3 : ¬ (p0.toInt < 97) := fun q9 => c_3 (zi_lt.mpr q9)
    refine lv_iload_n hx hb dX2_valueOf_6 rfl (lv_at hl 0 rfl) ?_
    refine lv_bipush (v := 122) hx hb dX2_valueOf_7 (by decide) ?_
    refine lv_icmp_gt (tgt := 22) hx hb dX2_valueOf_9 (by decide) (fun c_9 => ?_) (fun c_9 => ?_)
    · have i_9 : 122 < p0.toInt := zi_lt.mp c_9
      refine lv_iload_n hx hb dX2_valueOf_22 rfl (lv_at hl 0 rfl) ?_
      refine lv_topi (fun gr egr => ?_)
      have hg : gr = zGreat p0 := egr.trans (by unfold zGreat; rw [if_neg (by omega)])
      refine lv_istore_n (lv' := [(1, .int gr), (0, .int p0)]) hx hb dX2_valueOf_23 rfl hl (by decide) rfl (fun ls hl => ?_)
      refine lv_iconst (v := 0) hx hb dX2_valueOf_24 (by decide) ?_
      refine lv_istore_n (lv' := [(2, .int 0), (1, .int gr), (0, .int p0)]) hx hb dX2_valueOf_25 rfl hl (by decide) rfl (fun ls hl => ?_)
      refine zLoop (σ := Nat) (nL := 3) (μ := fun (v : Nat) => 31 - v) (lv := fun (v : Nat) => [(2, .int (nI v)), (0, .int p0), (1, .int gr)]) (wf := fun (v : Nat) => []) (I := fun (v : Nat) => v ≤ 31 ∧ ∀ w, w < v → ¬ zLt w = gr) (fun x H locs ls hI hP hD hS hl ih => ?_) 0 ⟨Nat.zero_le _, fun j hj => absurd hj (Nat.not_lt_zero j)⟩ hP hD hS (lv_sub hl [0, 2, 1] rfl)
      obtain ⟨v, rfl⟩ : ∃ y9, y9 = x := ⟨_, rfl⟩
      have hI : v ≤ 31 ∧ ∀ w, w < v → ¬ zLt w = gr := hI
      have hl : lv_has ls 3 [(2, .int (nI v)), (0, .int p0), (1, .int gr)] := hl
      have hP : va_P D vwCl [] H := hP
      have hD : va_D (fun _ => True) [] := hD
      have hi := hI.1
      refine lv_iload_n hx hb dX2_valueOf_26 rfl (lv_at hl 0 rfl) ?_
      refine lv_bipush (v := 31) hx hb dX2_valueOf_27 (by decide) ?_
      refine lv_icmp_ge (tgt := 50) hx hb dX2_valueOf_29 (by decide) (fun c_29 => ?_) (fun c_29 => ?_)
      · have c_29 : 31 ≤ v := (nI_leI (a := 31) (b := v) (by omega) (by omega)).mp c_29
        refine lv_iconst (v := -1) hx hb dX2_valueOf_50 (by decide) ?_
        exact W.iret (v := (-1)) hx hb hr (fun t9 ht9 hW9 => ⟨⟨_, (), rfl, hg ▸ Or.inr ⟨fun j hj => hI.2 j (by omega), rfl⟩, trivial⟩, hS.F ht9⟩) hS.2.2 dX2_valueOf_51
      · have c_29 : ¬ (31 ≤ v) := fun q9 => c_29 ((nI_leI (a := 31) (b := v) (by omega) (by omega)).mpr q9)
        refine va_ldcS hx hb hown hC.2.1 dX2_valueOf_32 ?_
        refine lv_iload_n hx hb dX2_valueOf_34 rfl (lv_at hl 0 rfl) ?_
        refine zRo_i (va_runV (As := [.int (nI v)]) (rest := []) ⟨hx, hb, hml, hown, hts⟩ (cc_J0_charAt l D z H.size v (by omega)) (cwV 1 hts gX2_valueOf_J0_charAt_5068e rfl rfl rfl (by decide +kernel) ⟨Nat.le_of_ble_eq_true rfl, Nat.le_of_ble_eq_true rfl⟩) ⟨zPre_blind, zrecv hC hS, (zPre_mk (wc := []) (tc := []) hP hK hD hC hS [] (by decide) rfl rfl [] rfl (zro_free hS hA))⟩ rfl rfl hl.1 rfl (lv_room (Nat.le_of_ble_eq_true rfl)) dX2_valueOf_35 ⟨Nat.zero_le _, Nat.zero_le _⟩) hS hA hP (fun r_35 H locs hw hP hS => ?_)
        have hw_35 : r_35 = zLt v := hw
        refine lv_iload_n hx hb dX2_valueOf_38 rfl (lv_at hl 2 rfl) ?_
        refine lv_icmp_ne (tgt := 44) hx hb dX2_valueOf_39 (by decide) (fun c_39 => ?_) (fun c_39 => ?_)
        · have i_39 : ¬ (r_35.toInt = gr.toInt) := fun q9 => c_39 (zi_eq.mpr q9)
          refine lv_iinc (v := (nI (v + 1))) (lv' := [(2, .int (nI (v + 1))), (0, .int p0), (1, .int gr)]) hx hb dX2_valueOf_44 hl (k := 0) rfl (by first | exact nI_1 _ | rfl) (by decide) rfl (fun ls hl => ?_)
          refine lv_goto (tgt := 26) hx hb dX2_valueOf_47 (by decide) ?_
          exact ih (v + 1) _ _ _ (show 31 - (v + 1) < 31 - v from (by omega)) ⟨by omega, lt_s hI.2 (fun q => c_39 (hw_35.trans q))⟩ hP hD hS (lv_sub hl [0, 1, 2] rfl)
        · have i_39 : r_35.toInt = gr.toInt := zi_eq.mp c_39
          refine lv_iload_n hx hb dX2_valueOf_42 rfl (lv_at hl 0 rfl) ?_
          exact W.iret (v := (nI v)) hx hb hr (fun t9 ht9 hW9 => ⟨⟨_, (), rfl, hg ▸ Or.inl ⟨v, by omega, hw_35.symm.trans c_39, rfl, hI.2⟩, trivial⟩, hS.F ht9⟩) hS.2.2 dX2_valueOf_43
    · have i_9 : ¬ (122 < p0.toInt) := fun q9 => c_9 (zi_lt.mpr q9)
      refine lv_iload_n hx hb dX2_valueOf_12 rfl (lv_at hl 0 rfl) ?_
      refine lv_bipush (v := 97) hx hb dX2_valueOf_13 (by decide) ?_
      refine lv_isub hx hb dX2_valueOf_15 ?_
      refine lv_bipush (v := 65) hx hb dX2_valueOf_16 (by decide) ?_
      refine lv_iadd hx hb dX2_valueOf_18 ?_
      refine lv_goto (tgt := 23) hx hb dX2_valueOf_19 (by decide) ?_
      refine lv_topi (fun gr egr => ?_)
      have hg : gr = zGreat p0 := egr.trans (by unfold zGreat; rw [if_pos (by omega)])
      refine lv_istore_n (lv' := [(1, .int gr), (0, .int p0)]) hx hb dX2_valueOf_23 rfl hl (by decide) rfl (fun ls hl => ?_)
      refine lv_iconst (v := 0) hx hb dX2_valueOf_24 (by decide) ?_
      refine lv_istore_n (lv' := [(2, .int 0), (1, .int gr), (0, .int p0)]) hx hb dX2_valueOf_25 rfl hl (by decide) rfl (fun ls hl => ?_)
      refine zLoop (σ := Nat) (nL := 3) (μ := fun (v : Nat) => 31 - v) (lv := fun (v : Nat) => [(2, .int (nI v)), (0, .int p0), (1, .int gr)]) (wf := fun (v : Nat) => []) (I := fun (v : Nat) => v ≤ 31 ∧ ∀ w, w < v → ¬ zLt w = gr) (fun x H locs ls hI hP hD hS hl ih => ?_) 0 ⟨Nat.zero_le _, fun j hj => absurd hj (Nat.not_lt_zero j)⟩ hP hD hS (lv_sub hl [0, 2, 1] rfl)
      obtain ⟨v, rfl⟩ : ∃ y9, y9 = x := ⟨_, rfl⟩
      have hI : v ≤ 31 ∧ ∀ w, w < v → ¬ zLt w = gr := hI
      have hl : lv_has ls 3 [(2, .int (nI v)), (0, .int p0), (1, .int gr)] := hl
      have hP : va_P D vwCl [] H := hP
      have hD : va_D (fun _ => True) [] := hD
      have hi := hI.1
      refine lv_iload_n hx hb dX2_valueOf_26 rfl (lv_at hl 0 rfl) ?_
      refine lv_bipush (v := 31) hx hb dX2_valueOf_27 (by decide) ?_
      refine lv_icmp_ge (tgt := 50) hx hb dX2_valueOf_29 (by decide) (fun c_29 => ?_) (fun c_29 => ?_)
      · have c_29 : 31 ≤ v := (nI_leI (a := 31) (b := v) (by omega) (by omega)).mp c_29
        refine lv_iconst (v := -1) hx hb dX2_valueOf_50 (by decide) ?_
        exact W.iret (v := (-1)) hx hb hr (fun t9 ht9 hW9 => ⟨⟨_, (), rfl, hg ▸ Or.inr ⟨fun j hj => hI.2 j (by omega), rfl⟩, trivial⟩, hS.F ht9⟩) hS.2.2 dX2_valueOf_51
      · have c_29 : ¬ (31 ≤ v) := fun q9 => c_29 ((nI_leI (a := 31) (b := v) (by omega) (by omega)).mpr q9)
        refine va_ldcS hx hb hown hC.2.1 dX2_valueOf_32 ?_
        refine lv_iload_n hx hb dX2_valueOf_34 rfl (lv_at hl 0 rfl) ?_
        refine zRo_i (va_runV (As := [.int (nI v)]) (rest := []) ⟨hx, hb, hml, hown, hts⟩ (cc_J0_charAt l D z H.size v (by omega)) (cwV 1 hts gX2_valueOf_J0_charAt_5068e rfl rfl rfl (by decide +kernel) ⟨Nat.le_of_ble_eq_true rfl, Nat.le_of_ble_eq_true rfl⟩) ⟨zPre_blind, zrecv hC hS, (zPre_mk (wc := []) (tc := []) hP hK hD hC hS [] (by decide) rfl rfl [] rfl (zro_free hS hA))⟩ rfl rfl hl.1 rfl (lv_room (Nat.le_of_ble_eq_true rfl)) dX2_valueOf_35 ⟨Nat.zero_le _, Nat.zero_le _⟩) hS hA hP (fun r_35 H locs hw hP hS => ?_)
        have hw_35 : r_35 = zLt v := hw
        refine lv_iload_n hx hb dX2_valueOf_38 rfl (lv_at hl 2 rfl) ?_
        refine lv_icmp_ne (tgt := 44) hx hb dX2_valueOf_39 (by decide) (fun c_39 => ?_) (fun c_39 => ?_)
        · have i_39 : ¬ (r_35.toInt = gr.toInt) := fun q9 => c_39 (zi_eq.mpr q9)
          refine lv_iinc (v := (nI (v + 1))) (lv' := [(2, .int (nI (v + 1))), (0, .int p0), (1, .int gr)]) hx hb dX2_valueOf_44 hl (k := 0) rfl (by first | exact nI_1 _ | rfl) (by decide) rfl (fun ls hl => ?_)
          refine lv_goto (tgt := 26) hx hb dX2_valueOf_47 (by decide) ?_
          exact ih (v + 1) _ _ _ (show 31 - (v + 1) < 31 - v from (by omega)) ⟨by omega, lt_s hI.2 (fun q => c_39 (hw_35.trans q))⟩ hP hD hS (lv_sub hl [0, 1, 2] rfl)
        · have i_39 : r_35.toInt = gr.toInt := zi_eq.mp c_39
          refine lv_iload_n hx hb dX2_valueOf_42 rfl (lv_at hl 0 rfl) ?_
          exact W.iret (v := (nI v)) hx hb hr (fun t9 ht9 hW9 => ⟨⟨_, (), rfl, hg ▸ Or.inl ⟨v, by omega, hw_35.symm.trans c_39, rfl, hI.2⟩, trivial⟩, hS.F ht9⟩) hS.2.2 dX2_valueOf_43

set_option maxHeartbeats 4000000 in
set_option maxRecDepth 100000 in
theorem cc_X2_weighted (l : Launch) (D : va_G) (z : zG) (sz : Nat) (p0 : Int32) (p1 : Int32)  : Met l yX2_weighted wsX2_weighted ({ frames := 0, cells := 0, slots := 0, locals := 0 }) (zPre D z [.int p0, .int p1] sz [] [] (va_A [] sz)) (va_Qi (fun (r : Int32) (u : Unit) => r = zWgt p0 p1) zT (va_A [] sz)) 0 0 (va_A [] sz) := by
  refine Met.ofW (cc := cX2_weighted) (maxL := 2) (ret := (some .int)) (by decide) rfl ?_
  intro p e s m args below meth c s₁ B hml hv
  obtain ⟨rfl, hsz, hP, hK, hD, hC⟩ := hv
  have hx := B.exec
  have hb := B.bytes
  have hr := B.returns
  have hts := atoms_spec (ws := wsX2_weighted) B.pre
  have hown : s.vm.findClass RX2 = some m.cls := findClass_of_methodNamed B.named
  have hlocks := B.notSynchronized
  subst hsz
  generalize hAe : va_A [] s.heap.size = A at hC ⊢
  have hA : ∀ q : Nat, s.heap.size ≤ q → A q := fun q h => by rw [← hAe]; exact Or.inr h
  have hS : va_S A s.heap s.heap [] := va_S.rf
  have hP : va_P D vwCl [] s.heap := hP
  have hl := lv_entry ([.int p0, .int p1]) (n := 2) (Nat.le_of_ble_eq_true rfl)
  rw [lg_entry_eq]
  generalize (lg_sl ([.int p0, .int p1]) ++ List.replicate (2 - (lg_sl ([.int p0, .int p1])).length) Slot.unset).toArray = ls at hl ⊢
  have hl : lv_has ls 2 [(0, .int p0), (1, .int p1)] := hl
  refine zNameH (D := D) (A := A) (ws := []) (fun H locs hP hS => ?_) hP hS
  have k_0 := hts (.fieldLink RX2 19 "NumberRows2$Form" "WEIGHTS" "[I") (by decide +kernel)
  refine lv_iload_n hx hb dX2_weighted_0 rfl (lv_at hl 1 rfl) ?_
  refine lv_if_lt (tgt := 20) hx hb dX2_weighted_1 (by decide) (fun c_1 => ?_) (fun c_1 => ?_)
  · have i_1 : p1.toInt < 0 := zi_lt.mp c_1
    refine lv_iconst (v := 0) hx hb dX2_weighted_20 (by decide) ?_
    exact W.iret (v := 0) hx hb hr (fun t9 ht9 hW9 => ⟨⟨_, (), rfl, (if_neg (by omega)).symm, trivial⟩, hS.F ht9⟩) hS.2.2 dX2_weighted_21
  · have i_1 : ¬ (p1.toInt < 0) := fun q9 => c_1 (zi_lt.mpr q9)
    refine lv_iload_n hx hb dX2_weighted_4 rfl (lv_at hl 1 rfl) ?_
    refine lv_bipush (v := 9) hx hb dX2_weighted_5 (by decide) ?_
    refine lv_icmp_ge (tgt := 20) hx hb dX2_weighted_7 (by decide) (fun c_7 => ?_) (fun c_7 => ?_)
    · have i_7 : 9 ≤ p1.toInt := zi_le.mp c_7
      refine lv_iconst (v := 0) hx hb dX2_weighted_20 (by decide) ?_
      exact W.iret (v := 0) hx hb hr (fun t9 ht9 hW9 => ⟨⟨_, (), rfl, (if_neg (by omega)).symm, trivial⟩, hS.F ht9⟩) hS.2.2 dX2_weighted_21
    · have i_7 : ¬ (9 ≤ p1.toInt) := fun q9 => c_7 (zi_le.mpr q9)
      refine lv_iload_n hx hb dX2_weighted_10 rfl (lv_at hl 0 rfl) ?_
      refine va_gets hx hb hC.2.2.2.1 hS hown k_0 (fun _ h9 => h9) dX2_weighted_11 ?_
      refine lv_iload_n hx hb dX2_weighted_14 rfl (lv_at hl 1 rfl) ?_
      refine va_ti (v := .int (zWt p1.toInt.toNat)) hx hb hC.2.2.2.2.1 hS (vp_in_iff.mpr (by omega)) rfl dX2_weighted_15 ?_
      refine lv_imul hx hb dX2_weighted_16 ?_
      refine lv_goto (tgt := 21) hx hb dX2_weighted_17 (by decide) ?_
      exact W.iret (v := (p0 * (zWt p1.toInt.toNat))) hx hb hr (fun t9 ht9 hW9 => ⟨⟨_, (), rfl, (if_pos (by omega)).symm, trivial⟩, hS.F ht9⟩) hS.2.2 dX2_weighted_21

set_option maxHeartbeats 4000000 in
set_option maxRecDepth 100000 in
theorem cc_X2_plainValueAt (l : Launch) (D : va_G) (z : zG) (sz : Nat) (p0 : Int64) (i : Nat) (hi : i ≤ 7) : Met l yX2_plainValueAt wsX2_plainValueAt ({ frames := 1, cells := 0, slots := 0, locals := 21 }) (zPre D z [.long p0, .int (nI i)] sz [] [] (va_A [] sz)) (va_Qi (fun (r : Int32) (u : Unit) => r = zPl p0 i) zT (va_A [] sz)) 0 0 (va_A [] sz) := by
  refine Met.ofW (cc := cX2_plainValueAt) (maxL := 6) (ret := (some .int)) (by decide) rfl ?_
  intro p e s m args below meth c s₁ B hml hv
  obtain ⟨rfl, hsz, hP, hK, hD, hC⟩ := hv
  have hx := B.exec
  have hb := B.bytes
  have hr := B.returns
  have hts := atoms_spec (ws := wsX2_plainValueAt) B.pre
  have hown : s.vm.findClass RX2 = some m.cls := findClass_of_methodNamed B.named
  have hlocks := B.notSynchronized
  subst hsz
  generalize hAe : va_A [] s.heap.size = A at hC ⊢
  have hA : ∀ q : Nat, s.heap.size ≤ q → A q := fun q h => by rw [← hAe]; exact Or.inr h
  have hS : va_S A s.heap s.heap [] := va_S.rf
  have hP : va_P D vwCl [] s.heap := hP
  have hl := lv_entry ([.long p0, .int (nI i)]) (n := 6) (Nat.le_of_ble_eq_true rfl)
  rw [lg_entry_eq]
  generalize (lg_sl ([.long p0, .int (nI i)]) ++ List.replicate (6 - (lg_sl ([.long p0, .int (nI i)])).length) Slot.unset).toArray = ls at hl ⊢
  have hl : lv_has ls 6 [(0, .long p0), (2, .int (nI i))] := hl
  refine zNameH (D := D) (A := A) (ws := []) (fun H locs hP hS => ?_) hP hS
  have k_0 : va_Nw (.methodLinkNest RX2 35 yX6_serialOf RX6) s := hC.1 _ (by decide +kernel)
  have k_1 := hts (.initialized RX6) (by decide +kernel)
  have k_2 := hts (.static yX6_serialOf) (by decide +kernel)
  have k_3 := hts (.constantLong RX2 38 (31)) (by decide +kernel)
  have k_4 : va_Nw (.methodLinkNest RX2 31 yX6_serviceOf RX6) s := hC.1 _ (by decide +kernel)
  have k_5 := hts (.static yX6_serviceOf) (by decide +kernel)
  refine lv_iload_n hx hb dX2_plainValueAt_0 rfl (lv_at hl 1 rfl) ?_
  refine lv_if_ne (tgt := 10) hx hb dX2_plainValueAt_1 (by decide) (fun c_1 => ?_) (fun c_1 => ?_)
  · have c_1 : ¬ (i = 0) := fun q9 => c_1 ((nI_eq (a := i) (b := 0) (by omega) (by omega)).mpr q9)
    refine lv_lload_n hx hb dX2_plainValueAt_10 rfl (lv_at hl 0 rfl) ?_
    refine zRo_l (va_runSN (As := [.long p0]) (rest := []) ⟨hx, hb, hml, hown, hts⟩ (cc_X6_serialOf l D z H.size p0 ) ⟨va_cnB 1 hts gX2_plainValueAt_X6_serialOf_n35 rfl rfl rfl k_0 k_1 (by decide +kernel) ⟨Nat.le_of_ble_eq_true rfl, Nat.le_of_ble_eq_true rfl⟩, k_2, trivial⟩ ⟨zPre_blind, (zPre_mk (wc := []) (tc := []) hP hK hD hC hS [] (by decide) rfl rfl [] rfl (zro_free hS hA))⟩ rfl rfl hl.1 rfl (lv_room (Nat.le_of_ble_eq_true rfl)) dX2_plainValueAt_11 ⟨Nat.zero_le _, Nat.zero_le _⟩) hS hA hP (fun r_11 H locs hw hP hS => ?_)
    have hw_11 : r_11 = zser p0 := hw
    refine lv_lstore_n (lv' := [(3, .long r_11), (0, .long p0), (2, .int (nI i))]) hx hb dX2_plainValueAt_14 rfl hl (by decide) rfl (fun ls hl => ?_)
    refine lv_bipush (v := 7) hx hb dX2_plainValueAt_15 (by decide) ?_
    refine lv_istore (lv' := [(5, .int 7), (3, .long r_11), (0, .long p0), (2, .int (nI i))]) hx hb dX2_plainValueAt_17 hl (by decide) rfl (fun ls hl => ?_)
    refine zLoop (σ := Nat × Int64) (nL := 6) (μ := fun (x : Nat × Int64) => match x with | (k, x) => k) (lv := fun (x : Nat × Int64) => match x with | (k, x) => [(5, .int (nI k)), (0, .long p0), (2, .int (nI i)), (3, .long x)]) (wf := fun (x : Nat × Int64) => match x with | (k, x) => []) (I := fun (x : Nat × Int64) => match x with | (k, x) => i ≤ k ∧ k ≤ 7 ∧ x = zdv (7 - k) (zser p0)) (fun x H locs ls hI hP hD hS hl ih => ?_) (7, r_11) ⟨hi, Nat.le_refl _, hw_11⟩ hP hD hS (lv_sub hl [0, 2, 3, 1] rfl)
    obtain ⟨k, x⟩ := x
    have hI : i ≤ k ∧ k ≤ 7 ∧ x = zdv (7 - k) (zser p0) := hI
    have hl : lv_has ls 6 [(5, .int (nI k)), (0, .long p0), (2, .int (nI i)), (3, .long x)] := hl
    have hP : va_P D vwCl [] H := hP
    have hD : va_D (fun _ => True) [] := hD
    have h1 := hI.1
    have h2 := hI.2.1
    refine lv_iload hx hb dX2_plainValueAt_19 (lv_at hl 0 rfl) ?_
    refine lv_iload_n hx hb dX2_plainValueAt_21 rfl (lv_at hl 2 rfl) ?_
    refine lv_icmp_le (tgt := 37) hx hb dX2_plainValueAt_22 (by decide) (fun c_22 => ?_) (fun c_22 => ?_)
    · have c_22 : k ≤ i := (nI_leI (a := k) (b := i) (by omega) (by omega)).mp c_22
      refine lv_lload_n hx hb dX2_plainValueAt_37 rfl (lv_at hl 3 rfl) ?_
      refine lv_ldc2 hx hb hown k_3 dX2_plainValueAt_38 ?_
      refine lv_lrem hx hb dX2_plainValueAt_41 (by decide) ?_
      refine lv_l2i (v := (x - x / 31 * 31).toInt32) hx hb dX2_plainValueAt_42 rfl ?_
      exact W.iret (v := ((x - x / 31 * 31).toInt32)) hx hb hr (fun t9 ht9 hW9 => ⟨⟨_, (), rfl, by obtain rfl : k = i := (by omega); unfold zPl; rw [if_neg (by omega), ← hI.2.2], trivial⟩, hS.F ht9⟩) hS.2.2 dX2_plainValueAt_43
    · have c_22 : ¬ (k ≤ i) := fun q9 => c_22 ((nI_leI (a := k) (b := i) (by omega) (by omega)).mpr q9)
      refine lv_lload_n hx hb dX2_plainValueAt_25 rfl (lv_at hl 3 rfl) ?_
      refine lv_ldc2 hx hb hown k_3 dX2_plainValueAt_26 ?_
      refine lv_ldiv hx hb dX2_plainValueAt_29 (by decide) ?_
      refine lv_lstore_n (lv' := [(3, .long (x / 31)), (5, .int (nI k)), (0, .long p0), (2, .int (nI i))]) hx hb dX2_plainValueAt_30 rfl hl (by decide) rfl (fun ls hl => ?_)
      refine lv_iinc (v := (nI (k - 1))) (lv' := [(5, .int (nI (k - 1))), (3, .long (x / 31)), (0, .long p0), (2, .int (nI i))]) hx hb dX2_plainValueAt_31 hl (k := 1) rfl (sb_m1 (by omega)) (by decide) rfl (fun ls hl => ?_)
      refine lv_goto (tgt := 19) hx hb dX2_plainValueAt_34 (by decide) ?_
      exact ih (k - 1, x / 31) _ _ _ (show (k - 1) < k from (by omega)) ⟨by omega, by omega, by rw [show 7 - (k - 1) = (7 - k) + 1 by omega, hI.2.2]; rfl⟩ hP hD hS (lv_sub hl [0, 2, 3, 1] rfl)
  · have c_1 : i = 0 := (nI_eq (a := i) (b := 0) (by omega) (by omega)).mp c_1
    refine lv_lload_n hx hb dX2_plainValueAt_4 rfl (lv_at hl 0 rfl) ?_
    refine zRo_l (va_runSN (As := [.long p0]) (rest := []) ⟨hx, hb, hml, hown, hts⟩ (cc_X6_serviceOf l D z H.size p0 ) ⟨va_cnB 1 hts gX2_plainValueAt_X6_serviceOf_n31 rfl rfl rfl k_4 k_1 (by decide +kernel) ⟨Nat.le_of_ble_eq_true rfl, Nat.le_of_ble_eq_true rfl⟩, k_5, trivial⟩ ⟨zPre_blind, (zPre_mk (wc := []) (tc := []) hP hK hD hC hS [] (by decide) rfl rfl [] rfl (zro_free hS hA))⟩ rfl rfl hl.1 rfl (lv_room (Nat.le_of_ble_eq_true rfl)) dX2_plainValueAt_5 ⟨Nat.zero_le _, Nat.zero_le _⟩) hS hA hP (fun r_5 H locs hw hP hS => ?_)
    have hw_5 : r_5 = zsvc p0 := hw
    refine lv_l2i (v := r_5.toInt32) hx hb dX2_plainValueAt_8 rfl ?_
    exact W.iret (v := r_5.toInt32) hx hb hr (fun t9 ht9 hW9 => ⟨⟨_, (), rfl, by rw [hw_5]; unfold zPl; rw [if_pos (by omega)], trivial⟩, hS.F ht9⟩) hS.2.2 dX2_plainValueAt_9

set_option maxHeartbeats 4000000 in
set_option maxRecDepth 100000 in
theorem cc_X2_checkOf (l : Launch) (D : va_G) (z : zG) (sz : Nat) (p0 : Int64)  : Met l yX2_checkOf wsX2_checkOf ({ frames := 2, cells := 0, slots := 0, locals := 46 }) (zPre D z [.long p0] sz [] [] (va_A [] sz)) (va_Qi (fun (r : Int32) (u : Unit) => r = zChk p0) zT (va_A [] sz)) 0 0 (va_A [] sz) := by
  refine Met.ofW (cc := cX2_checkOf) (maxL := 4) (ret := (some .int)) (by decide) rfl ?_
  intro p e s m args below meth c s₁ B hml hv
  obtain ⟨rfl, hsz, hP, hK, hD, hC⟩ := hv
  have hx := B.exec
  have hb := B.bytes
  have hr := B.returns
  have hts := atoms_spec (ws := wsX2_checkOf) B.pre
  have hown : s.vm.findClass RX2 = some m.cls := findClass_of_methodNamed B.named
  have hlocks := B.notSynchronized
  subst hsz
  generalize hAe : va_A [] s.heap.size = A at hC ⊢
  have hA : ∀ q : Nat, s.heap.size ≤ q → A q := fun q h => by rw [← hAe]; exact Or.inr h
  have hS : va_S A s.heap s.heap [] := va_S.rf
  have hP : va_P D vwCl [] s.heap := hP
  have hl := lv_entry ([.long p0]) (n := 4) (Nat.le_of_ble_eq_true rfl)
  rw [lg_entry_eq]
  generalize (lg_sl ([.long p0]) ++ List.replicate (4 - (lg_sl ([.long p0])).length) Slot.unset).toArray = ls at hl ⊢
  have hl : lv_has ls 4 [(0, .long p0)] := hl
  refine zNameH (D := D) (A := A) (ws := []) (fun H locs hP hS => ?_) hP hS
  refine lv_iconst (v := 0) hx hb dX2_checkOf_0 (by decide) ?_
  refine lv_istore_n (lv' := [(2, .int 0), (0, .long p0)]) hx hb dX2_checkOf_1 rfl hl (by decide) rfl (fun ls hl => ?_)
  refine lv_iconst (v := 0) hx hb dX2_checkOf_2 (by decide) ?_
  refine lv_istore_n (lv' := [(3, .int 0), (2, .int 0), (0, .long p0)]) hx hb dX2_checkOf_3 rfl hl (by decide) rfl (fun ls hl => ?_)
  refine zLoop (σ := Nat × Int32) (nL := 4) (μ := fun (x : Nat × Int32) => match x with | (i, sm) => 8 - i) (lv := fun (x : Nat × Int32) => match x with | (i, sm) => [(3, .int (nI i)), (0, .long p0), (2, .int sm)]) (wf := fun (x : Nat × Int32) => match x with | (i, sm) => []) (I := fun (x : Nat × Int32) => match x with | (i, sm) => i ≤ 8 ∧ sm = zSm p0 i) (fun x H locs ls hI hP hD hS hl ih => ?_) (0, 0) ⟨Nat.zero_le _, rfl⟩ hP hD hS (lv_sub hl [0, 2, 1] rfl)
  obtain ⟨i, sm⟩ := x
  have hI : i ≤ 8 ∧ sm = zSm p0 i := hI
  have hl : lv_has ls 4 [(3, .int (nI i)), (0, .long p0), (2, .int sm)] := hl
  have hP : va_P D vwCl [] H := hP
  have hD : va_D (fun _ => True) [] := hD
  have h1 := hI.1
  refine lv_iload_n hx hb dX2_checkOf_4 rfl (lv_at hl 0 rfl) ?_
  refine lv_bipush (v := 8) hx hb dX2_checkOf_5 (by decide) ?_
  refine lv_icmp_ge (tgt := 28) hx hb dX2_checkOf_7 (by decide) (fun c_7 => ?_) (fun c_7 => ?_)
  · have c_7 : 8 ≤ i := (nI_leI (a := 8) (b := i) (by omega) (by omega)).mp c_7
    refine lv_bipush (v := 31) hx hb dX2_checkOf_28 (by decide) ?_
    refine lv_iload_n hx hb dX2_checkOf_30 rfl (lv_at hl 2 rfl) ?_
    refine lv_bipush (v := 31) hx hb dX2_checkOf_31 (by decide) ?_
    refine lv_irem hx hb dX2_checkOf_33 (by decide) ?_
    refine lv_isub hx hb dX2_checkOf_34 ?_
    refine lv_bipush (v := 31) hx hb dX2_checkOf_35 (by decide) ?_
    refine lv_irem hx hb dX2_checkOf_37 (by decide) ?_
    exact W.iret (v := ((31 - (sm - sm / 31 * 31)) - (31 - (sm - sm / 31 * 31)) / 31 * 31)) hx hb hr (fun t9 ht9 hW9 => ⟨⟨_, (), rfl, by obtain rfl : i = 8 := (by omega); rw [hI.2]; rfl, trivial⟩, hS.F ht9⟩) hS.2.2 dX2_checkOf_38
  · have c_7 : ¬ (8 ≤ i) := fun q9 => c_7 ((nI_leI (a := 8) (b := i) (by omega) (by omega)).mpr q9)
    refine lv_iload_n hx hb dX2_checkOf_10 rfl (lv_at hl 2 rfl) ?_
    refine lv_lload_n hx hb dX2_checkOf_11 rfl (lv_at hl 1 rfl) ?_
    refine lv_iload_n hx hb dX2_checkOf_12 rfl (lv_at hl 0 rfl) ?_
    refine zRo_i (va_runS (As := [.long p0, .int (nI i)]) (rest := [.int sm]) ⟨hx, hb, hml, hown, hts⟩ (cc_X2_plainValueAt l D z H.size p0 i (by omega)) (va_cwS 2 hts gX2_checkOf_X2_plainValueAt rfl rfl rfl (by decide +kernel) ⟨Nat.le_of_ble_eq_true rfl, Nat.le_of_ble_eq_true rfl⟩) ⟨zPre_blind, (zPre_mk (wc := []) (tc := []) hP hK hD hC hS [] (by decide) rfl rfl [] rfl (zro_free hS hA))⟩ rfl rfl hl.1 rfl (lv_room (Nat.le_of_ble_eq_true rfl)) dX2_checkOf_13 ⟨Nat.zero_le _, Nat.zero_le _⟩) hS hA hP (fun r_13 H locs hw hP hS => ?_)
    have hw_13 : r_13 = zPl p0 i := hw
    refine lv_iload_n hx hb dX2_checkOf_16 rfl (lv_at hl 0 rfl) ?_
    refine zRo_i (va_runS (As := [.int r_13, .int (nI i)]) (rest := [.int sm]) ⟨hx, hb, hml, hown, hts⟩ (cc_X2_weighted l D z H.size r_13 (nI i) ) (va_cwS 2 hts gX2_checkOf_X2_weighted rfl rfl rfl (by decide +kernel) ⟨Nat.le_of_ble_eq_true rfl, Nat.le_of_ble_eq_true rfl⟩) ⟨zPre_blind, (zPre_mk (wc := []) (tc := []) hP hK hD hC hS [] (by decide) rfl rfl [] rfl (zro_free hS hA))⟩ rfl rfl hl.1 rfl (lv_room (Nat.le_of_ble_eq_true rfl)) dX2_checkOf_17 ⟨Nat.zero_le _, Nat.zero_le _⟩) hS hA hP (fun r_17 H locs hw hP hS => ?_)
    have hw_17 : r_17 = zWgt r_13 (nI i) := hw
    refine lv_iadd hx hb dX2_checkOf_20 ?_
    refine lv_istore_n (lv' := [(2, .int (sm + r_17)), (3, .int (nI i)), (0, .long p0)]) hx hb dX2_checkOf_21 rfl hl (by decide) rfl (fun ls hl => ?_)
    refine lv_iinc (v := (nI (i + 1))) (lv' := [(3, .int (nI (i + 1))), (2, .int (sm + r_17)), (0, .long p0)]) hx hb dX2_checkOf_22 hl (k := 1) rfl (by first | exact nI_1 _ | rfl) (by decide) rfl (fun ls hl => ?_)
    refine lv_goto (tgt := 4) hx hb dX2_checkOf_25 (by decide) ?_
    exact ih (i + 1, sm + r_17) _ _ _ (show 8 - (i + 1) < 8 - i from (by omega)) ⟨by omega, by rw [hw_17, hw_13, hI.2]; rfl⟩ hP hD hS (lv_sub hl [0, 2, 1] rfl)

set_option maxHeartbeats 4000000 in
set_option maxRecDepth 100000 in
theorem cc_X2_valueAt (l : Launch) (D : va_G) (z : zG) (sz : Nat) (p0 : Int64) (i : Nat) (hi : i ≤ 8) : Met l yX2_valueAt wsX2_valueAt ({ frames := 3, cells := 0, slots := 0, locals := 69 }) (zPre D z [.long p0, .int (nI i)] sz [] [] (va_A [] sz)) (va_Qi (fun (r : Int32) (u : Unit) => r = zVA p0 i) zT (va_A [] sz)) 0 0 (va_A [] sz) := by
  refine Met.ofW (cc := cX2_valueAt) (maxL := 3) (ret := (some .int)) (by decide) rfl ?_
  intro p e s m args below meth c s₁ B hml hv
  obtain ⟨rfl, hsz, hP, hK, hD, hC⟩ := hv
  have hx := B.exec
  have hb := B.bytes
  have hr := B.returns
  have hts := atoms_spec (ws := wsX2_valueAt) B.pre
  have hown : s.vm.findClass RX2 = some m.cls := findClass_of_methodNamed B.named
  have hlocks := B.notSynchronized
  subst hsz
  generalize hAe : va_A [] s.heap.size = A at hC ⊢
  have hA : ∀ q : Nat, s.heap.size ≤ q → A q := fun q h => by rw [← hAe]; exact Or.inr h
  have hS : va_S A s.heap s.heap [] := va_S.rf
  have hP : va_P D vwCl [] s.heap := hP
  have hl := lv_entry ([.long p0, .int (nI i)]) (n := 3) (Nat.le_of_ble_eq_true rfl)
  rw [lg_entry_eq]
  generalize (lg_sl ([.long p0, .int (nI i)]) ++ List.replicate (3 - (lg_sl ([.long p0, .int (nI i)])).length) Slot.unset).toArray = ls at hl ⊢
  have hl : lv_has ls 3 [(0, .long p0), (2, .int (nI i))] := hl
  refine zNameH (D := D) (A := A) (ws := []) (fun H locs hP hS => ?_) hP hS
  refine lv_iload_n hx hb dX2_valueAt_0 rfl (lv_at hl 1 rfl) ?_
  refine lv_bipush (v := 8) hx hb dX2_valueAt_1 (by decide) ?_
  refine lv_icmp_ne (tgt := 13) hx hb dX2_valueAt_3 (by decide) (fun c_3 => ?_) (fun c_3 => ?_)
  · have c_3 : ¬ (i = 8) := fun q9 => c_3 ((nI_eq (a := i) (b := 8) (by omega) (by omega)).mpr q9)
    refine lv_lload_n hx hb dX2_valueAt_13 rfl (lv_at hl 0 rfl) ?_
    refine lv_iload_n hx hb dX2_valueAt_14 rfl (lv_at hl 1 rfl) ?_
    refine zRo_i (va_runS (As := [.long p0, .int (nI i)]) (rest := []) ⟨hx, hb, hml, hown, hts⟩ (cc_X2_plainValueAt l D z H.size p0 i (by omega)) (va_cwS 2 hts gX2_valueAt_X2_plainValueAt rfl rfl rfl (by decide +kernel) ⟨Nat.le_of_ble_eq_true rfl, Nat.le_of_ble_eq_true rfl⟩) ⟨zPre_blind, (zPre_mk (wc := []) (tc := []) hP hK hD hC hS [] (by decide) rfl rfl [] rfl (zro_free hS hA))⟩ rfl rfl hl.1 rfl (lv_room (Nat.le_of_ble_eq_true rfl)) dX2_valueAt_15 ⟨Nat.zero_le _, Nat.zero_le _⟩) hS hA hP (fun r_15 H locs hw hP hS => ?_)
    have hw_15 : r_15 = zPl p0 i := hw
    exact W.iret (v := r_15) hx hb hr (fun t9 ht9 hW9 => ⟨⟨_, (), rfl, by rw [hw_15]; unfold zVA; rw [if_neg (by omega)], trivial⟩, hS.F ht9⟩) hS.2.2 dX2_valueAt_18
  · have c_3 : i = 8 := (nI_eq (a := i) (b := 8) (by omega) (by omega)).mp c_3
    refine lv_lload_n hx hb dX2_valueAt_6 rfl (lv_at hl 0 rfl) ?_
    refine zRo_i (va_runS (As := [.long p0]) (rest := []) ⟨hx, hb, hml, hown, hts⟩ (cc_X2_checkOf l D z H.size p0 ) (va_cwS 1 hts gX2_valueAt_X2_checkOf rfl rfl rfl (by decide +kernel) ⟨Nat.le_of_ble_eq_true rfl, Nat.le_of_ble_eq_true rfl⟩) ⟨zPre_blind, (zPre_mk (wc := []) (tc := []) hP hK hD hC hS [] (by decide) rfl rfl [] rfl (zro_free hS hA))⟩ rfl rfl hl.1 rfl (lv_room (Nat.le_of_ble_eq_true rfl)) dX2_valueAt_7 ⟨Nat.zero_le _, Nat.zero_le _⟩) hS hA hP (fun r_7 H locs hw hP hS => ?_)
    have hw_7 : r_7 = zChk p0 := hw
    refine lv_goto (tgt := 18) hx hb dX2_valueAt_10 (by decide) ?_
    exact W.iret (v := r_7) hx hb hr (fun t9 ht9 hW9 => ⟨⟨_, (), rfl, by rw [hw_7]; unfold zVA; rw [if_pos (by omega)], trivial⟩, hS.F ht9⟩) hS.2.2 dX2_valueAt_18

set_option maxHeartbeats 4000000 in
set_option maxRecDepth 100000 in
theorem cc_X2_canStand (l : Launch) (D : va_G) (z : zG) (sz : Nat) (p0 : Int32) (i : Nat) (p2 : Int32) (hi : i ≤ 60) : Met l yX2_canStand wsX2_canStand ({ frames := 1, cells := 0, slots := 0, locals := 21 }) (zPre D z [.int p0, .int (nI i), .int p2] sz [] [] (va_A [] sz)) (va_Qi (fun (r : Int32) (u : Unit) => zB r (zCan p0 i p2)) zT (va_A [] sz)) 0 0 (va_A [] sz) := by
  refine Met.ofW (cc := cX2_canStand) (maxL := 3) (ret := (some .boolean)) (by decide) rfl ?_
  intro p e s m args below meth c s₁ B hml hv
  obtain ⟨rfl, hsz, hP, hK, hD, hC⟩ := hv
  have hx := B.exec
  have hb := B.bytes
  have hr := B.returns
  have hts := atoms_spec (ws := wsX2_canStand) B.pre
  have hown : s.vm.findClass RX2 = some m.cls := findClass_of_methodNamed B.named
  have hlocks := B.notSynchronized
  subst hsz
  generalize hAe : va_A [] s.heap.size = A at hC ⊢
  have hA : ∀ q : Nat, s.heap.size ≤ q → A q := fun q h => by rw [← hAe]; exact Or.inr h
  have hS : va_S A s.heap s.heap [] := va_S.rf
  have hP : va_P D vwCl [] s.heap := hP
  have hl := lv_entry ([.int p0, .int (nI i), .int p2]) (n := 3) (Nat.le_of_ble_eq_true rfl)
  rw [lg_entry_eq]
  generalize (lg_sl ([.int p0, .int (nI i), .int p2]) ++ List.replicate (3 - (lg_sl ([.int p0, .int (nI i), .int p2])).length) Slot.unset).toArray = ls at hl ⊢
  have hl : lv_has ls 3 [(0, .int p0), (1, .int (nI i)), (2, .int p2)] := hl
  refine zNameH (D := D) (A := A) (ws := []) (fun H locs hP hS => ?_) hP hS
  have k_0 : va_Nw (.methodLinkNest RX2 44 yX6_isService RX6) s := hC.1 _ (by decide +kernel)
  have k_1 := hts (.initialized RX6) (by decide +kernel)
  have k_2 := hts (.static yX6_isService) (by decide +kernel)
  refine lv_iload_n hx hb dX2_canStand_0 rfl (lv_at hl 0 rfl) ?_
  refine lv_if_lt (tgt := 10) hx hb dX2_canStand_1 (by decide) (fun c_1 => ?_) (fun c_1 => ?_)
  · have i_1 : p0.toInt < 0 := zi_lt.mp c_1
    refine lv_iconst (v := 0) hx hb dX2_canStand_10 (by decide) ?_
    exact W.zret (v := 0) hx hb hr rfl (fun t9 ht9 hW9 => ⟨⟨_, (), rfl, zB_f (fun q => by have := q.1; have := q.2.1; omega), trivial⟩, hS.F ht9⟩) hS.2.2 dX2_canStand_11
  · have i_1 : ¬ (p0.toInt < 0) := fun q9 => c_1 (zi_lt.mpr q9)
    refine lv_iload_n hx hb dX2_canStand_4 rfl (lv_at hl 1 rfl) ?_
    refine lv_bipush (v := 9) hx hb dX2_canStand_5 (by decide) ?_
    refine lv_icmp_lt (tgt := 12) hx hb dX2_canStand_7 (by decide) (fun c_7 => ?_) (fun c_7 => ?_)
    · have c_7 : i < 9 := (nI_ltI (a := i) (b := 9) (by omega) (by omega)).mp c_7
      refine lv_iload_n hx hb dX2_canStand_12 rfl (lv_at hl 1 rfl) ?_
      refine lv_if_ne (tgt := 21) hx hb dX2_canStand_13 (by decide) (fun c_13 => ?_) (fun c_13 => ?_)
      · have c_13 : ¬ (i = 0) := fun q9 => c_13 ((nI_eq (a := i) (b := 0) (by omega) (by omega)).mpr q9)
        refine lv_iload_n hx hb dX2_canStand_21 rfl (lv_at hl 1 rfl) ?_
        refine lv_bipush (v := 8) hx hb dX2_canStand_22 (by decide) ?_
        refine lv_icmp_lt (tgt := 40) hx hb dX2_canStand_24 (by decide) (fun c_24 => ?_) (fun c_24 => ?_)
        · have c_24 : i < 8 := (nI_ltI (a := i) (b := 8) (by omega) (by omega)).mp c_24
          refine lv_iconst (v := 1) hx hb dX2_canStand_40 (by decide) ?_
          refine lv_goto (tgt := 45) hx hb dX2_canStand_41 (by decide) ?_
          exact W.zret (v := 1) hx hb hr rfl (fun t9 ht9 hW9 => ⟨⟨_, (), rfl, zB_t ⟨by omega, by omega, fun _ => by omega, fun _ => by omega⟩, trivial⟩, hS.F ht9⟩) hS.2.2 dX2_canStand_45
        · have c_24 : ¬ (i < 8) := fun q9 => c_24 ((nI_ltI (a := i) (b := 8) (by omega) (by omega)).mpr q9)
          refine lv_iload_n hx hb dX2_canStand_27 rfl (lv_at hl 2 rfl) ?_
          refine lv_iload_n hx hb dX2_canStand_28 rfl (lv_at hl 0 rfl) ?_
          refine lv_iload_n hx hb dX2_canStand_29 rfl (lv_at hl 1 rfl) ?_
          refine zRo_i (va_runS (As := [.int p0, .int (nI i)]) (rest := [.int p2]) ⟨hx, hb, hml, hown, hts⟩ (cc_X2_weighted l D z H.size p0 (nI i) ) (va_cwS 2 hts gX2_canStand_X2_weighted rfl rfl rfl (by decide +kernel) ⟨Nat.le_of_ble_eq_true rfl, Nat.le_of_ble_eq_true rfl⟩) ⟨zPre_blind, (zPre_mk (wc := []) (tc := []) hP hK hD hC hS [] (by decide) rfl rfl [] rfl (zro_free hS hA))⟩ rfl rfl hl.1 rfl (lv_room (Nat.le_of_ble_eq_true rfl)) dX2_canStand_30 ⟨Nat.zero_le _, Nat.zero_le _⟩) hS hA hP (fun r_30 H locs hw hP hS => ?_)
          have hw_30 : r_30 = zWgt p0 (nI i) := hw
          refine lv_iadd hx hb dX2_canStand_33 ?_
          refine lv_bipush (v := 31) hx hb dX2_canStand_34 (by decide) ?_
          refine lv_irem hx hb dX2_canStand_36 (by decide) ?_
          refine lv_if_ne (tgt := 44) hx hb dX2_canStand_37 (by decide) (fun c_37 => ?_) (fun c_37 => ?_)
          · have i_37 : ¬ (((p2 + r_30) - (p2 + r_30) / 31 * 31).toInt = 0) := fun q9 => c_37 (zi_eq.mpr q9)
            refine lv_iconst (v := 0) hx hb dX2_canStand_44 (by decide) ?_
            exact W.zret (v := 0) hx hb hr rfl (fun t9 ht9 hW9 => ⟨⟨_, (), rfl, zB_f (fun q => c_37 (by obtain rfl : i = 8 := (by omega); rw [hw_30]; exact q.2.2.2 rfl)), trivial⟩, hS.F ht9⟩) hS.2.2 dX2_canStand_45
          · have i_37 : ((p2 + r_30) - (p2 + r_30) / 31 * 31).toInt = 0 := zi_eq.mp c_37
            refine lv_iconst (v := 1) hx hb dX2_canStand_40 (by decide) ?_
            refine lv_goto (tgt := 45) hx hb dX2_canStand_41 (by decide) ?_
            exact W.zret (v := 1) hx hb hr rfl (fun t9 ht9 hW9 => ⟨⟨_, (), rfl, zB_t ⟨by omega, by omega, fun _ => by omega, fun _ => by obtain rfl : i = 8 := (by omega); rw [hw_30] at c_37; exact c_37⟩, trivial⟩, hS.F ht9⟩) hS.2.2 dX2_canStand_45
      · have c_13 : i = 0 := (nI_eq (a := i) (b := 0) (by omega) (by omega)).mp c_13
        refine lv_iload_n hx hb dX2_canStand_16 rfl (lv_at hl 0 rfl) ?_
        refine zRo_i (va_runSN (As := [.int p0]) (rest := []) ⟨hx, hb, hml, hown, hts⟩ (cc_X6_isService l D z H.size p0 ) ⟨va_cnB 1 hts gX2_canStand_X6_isService_n44 rfl rfl rfl k_0 k_1 (by decide +kernel) ⟨Nat.le_of_ble_eq_true rfl, Nat.le_of_ble_eq_true rfl⟩, k_2, trivial⟩ ⟨zPre_blind, (zPre_mk (wc := []) (tc := []) hP hK hD hC hS [] (by decide) rfl rfl [] rfl (zro_free hS hA))⟩ rfl rfl hl.1 rfl (lv_room (Nat.le_of_ble_eq_true rfl)) dX2_canStand_17 ⟨Nat.zero_le _, Nat.zero_le _⟩) hS hA hP (fun r_17 H locs hw hP hS => ?_)
        have hw_17 : zB r_17 (0 ≤ p0.toInt ∧ p0.toInt < 10) := hw
        exact W.zret (v := r_17) hx hb hr (zB_nar hw_17) (fun t9 ht9 hW9 => ⟨⟨_, (), rfl, zB_iff hw_17 ⟨fun q => ⟨q.1, by omega, fun _ => q.2, fun _ => by omega⟩, fun q => ⟨q.1, q.2.2.1 (by omega)⟩⟩, trivial⟩, hS.F ht9⟩) hS.2.2 dX2_canStand_20
    · have c_7 : ¬ (i < 9) := fun q9 => c_7 ((nI_ltI (a := i) (b := 9) (by omega) (by omega)).mpr q9)
      refine lv_iconst (v := 0) hx hb dX2_canStand_10 (by decide) ?_
      exact W.zret (v := 0) hx hb hr rfl (fun t9 ht9 hW9 => ⟨⟨_, (), rfl, zB_f (fun q => by have := q.1; have := q.2.1; omega), trivial⟩, hS.F ht9⟩) hS.2.2 dX2_canStand_11
end
section
/-! what is typed, read -/
def zvs (g : Int32) : Nat → Nat → Int32
  | 0, _ => -1
  | f + 1, v => if zLt v = g then nI v else zvs g f (v + 1)
/-- the value of a great letter, -1 for none -/
def zvf (g : Int32) : Int32 := zvs g 31 0
theorem zvs_hit {g : Int32} : ∀ (f v w : Nat), v ≤ w → w < v + f → zLt w = g → (∀ u, v ≤ u → u < w → ¬ zLt u = g) → zvs g f v = nI w
  | 0, v, w, h1, h2, _, _ => by omega
  | f + 1, v, w, h1, h2, h3, h4 => by
    unfold zvs
    by_cases e : v = w
    · subst e; rw [if_pos h3]
    · rw [if_neg (h4 v (Nat.le_refl _) (by omega))]
      exact zvs_hit f (v + 1) w (by omega) (by omega) h3 (fun u q1 q2 => h4 u (by omega) q2)
theorem zvs_miss {g : Int32} : ∀ (f v : Nat), (∀ u, v ≤ u → u < v + f → ¬ zLt u = g) → zvs g f v = -1
  | 0, v, _ => rfl
  | f + 1, v, h => by
    unfold zvs
    rw [if_neg (h v (Nat.le_refl _) (by omega))]
    exact zvs_miss f (v + 1) (fun u q1 q2 => h u (by omega) (by omega))
theorem zVal_eq {g r : Int32} (h : zVal g r) : r = zvf g := by
  rcases h with ⟨v, h1, h2, h3, h4⟩ | ⟨h1, h2⟩
  · rw [h3]; exact (zvs_hit 31 0 v (Nat.zero_le _) (by omega) h2 (fun u _ q => h4 u q)).symm
  · rw [h2]; exact (zvs_miss 31 0 (fun u _ q => h1 u (by omega))).symm
theorem zvf_or (g : Int32) : (∃ v, v < 31 ∧ zvf g = nI v) ∨ zvf g = -1 := by
  by_cases h : ∃ v, v < 31 ∧ zLt v = g
  · obtain ⟨v, hv, hm⟩ := pk_least (fun v => v < 31 ∧ zLt v = g) h
    left
    exact ⟨v, hv.1, zvs_hit 31 0 v (Nat.zero_le _) (by omega) hv.2 (fun u _ q w => hm u q ⟨by omega, w⟩)⟩
  · right
    exact zvs_miss 31 0 (fun u _ q w => h ⟨u, by omega, w⟩)
/-- letters so far, their weighted sum, the service and the serial so far; none: a character could not stand -/
noncomputable def zPS (ch : Nat → Int32) : Nat → Option (Nat × Int32 × Int64)
  | 0 => some (0, 0, 0)
  | i + 1 => match zPS ch i with
    | none => none
    | some (k, s, a) => if ch i = 32 then some (k, s, a) else
        @ite _ (zCan (zvf (zGreat (ch i))) k s) (Classical.propDecidable _) (some (k + 1, s + zWgt (zvf (zGreat (ch i))) (nI k), if k < 8 then a * 31 + (zvf (zGreat (ch i))).toInt64 else a)) none
theorem zPS_blank {ch : Nat → Int32} {i k : Nat} {s : Int32} {a : Int64} (h : zPS ch i = some (k, s, a)) (hb : ch i = 32) : zPS ch (i + 1) = some (k, s, a) := by
  show (match zPS ch i with | none => none | some (k, s, a) => _) = _
  rw [h]; dsimp only; rw [if_pos hb]
theorem zPS_go {ch : Nat → Int32} {i k : Nat} {s v : Int32} {a : Int64} (h : zPS ch i = some (k, s, a)) (hb : ¬ ch i = 32) (hv : v = zvf (zGreat (ch i))) (hc : zCan v k s) : zPS ch (i + 1) = some (k + 1, s + zWgt v (nI k), if k < 8 then a * 31 + v.toInt64 else a) := by
  subst hv
  show (match zPS ch i with | none => none | some (k, s, a) => _) = _
  rw [h]; dsimp only; rw [if_neg hb, if_pos hc]
theorem zPS_stop {ch : Nat → Int32} {i k : Nat} {s v : Int32} {a : Int64} (h : zPS ch i = some (k, s, a)) (hb : ¬ ch i = 32) (hv : v = zvf (zGreat (ch i))) (hc : ¬ zCan v k s) : zPS ch (i + 1) = none := by
  subst hv
  show (match zPS ch i with | none => none | some (k, s, a) => _) = _
  rw [h]; dsimp only; rw [if_neg hb, if_neg hc]
theorem zPS_none {ch : Nat → Int32} {i : Nat} (h : zPS ch i = none) : zPS ch (i + 1) = none := by
  show (match zPS ch i with | none => none | some (k, s, a) => _) = _
  rw [h]
def zPar (ch : Nat → Int32) (n : Nat) (r : Int64) : Prop := (∃ i, i < n ∧ ¬ zPS ch i = none ∧ zPS ch (i + 1) = none ∧ r = (-1 - nI i).toInt64) ∨ (∃ (k : Nat) (s : Int32) (a : Int64), zPS ch n = some (k, s, a) ∧ ((k < 9 ∧ r = (-1 - nI n).toInt64) ∨ (¬ k < 9 ∧ r = 27512614111 + a)))
theorem zPS_down {ch : Nat → Int32} {i : Nat} : ∀ (d : Nat), zPS ch i = none → zPS ch (i + d) = none
  | 0, h => h
  | d + 1, h => zPS_none (zPS_down d h)
theorem zPar_fun {ch : Nat → Int32} {n : Nat} {r r' : Int64} (h : zPar ch n r) (h' : zPar ch n r') : r = r' := by
  rcases h with ⟨i, h1, h2, h3, h4⟩ | ⟨k, s, a, h1, h2⟩
  · rcases h' with ⟨j, g1, g2, g3, g4⟩ | ⟨k, s, a, g1, g2⟩
    · have : i = j := by
        rcases Nat.lt_trichotomy i j with q | q | q
        · exact absurd (by have := zPS_down (j - (i + 1)) h3; rwa [show i + 1 + (j - (i + 1)) = j by omega] at this) g2
        · exact q
        · exact absurd (by have := zPS_down (i - (j + 1)) g3; rwa [show j + 1 + (i - (j + 1)) = i by omega] at this) h2
      rw [h4, g4, this]
    · have := zPS_down (n - (i + 1)) h3
      rw [show i + 1 + (n - (i + 1)) = n by omega, g1] at this; cases this
  · rcases h' with ⟨j, g1, g2, g3, g4⟩ | ⟨k', s', a', g1, g2⟩
    · have := zPS_down (n - (j + 1)) g3
      rw [show j + 1 + (n - (j + 1)) = n by omega, h1] at this; cases this
    · rw [h1] at g1
      cases g1
      rcases h2 with ⟨q1, q2⟩ | ⟨q1, q2⟩ <;> rcases g2 with ⟨q3, q4⟩ | ⟨q3, q4⟩
      · rw [q2, q4]
      · omega
      · omega
      · rw [q2, q4]
theorem zPS_k {ch : Nat → Int32} : ∀ {i k : Nat} {s : Int32} {a : Int64}, zPS ch i = some (k, s, a) → k ≤ i ∧ k ≤ 9
  | 0, k, s, a, h => by cases h; exact ⟨Nat.le_refl _, by omega⟩
  | i + 1, k, s, a, h => by
    cases e : zPS ch i with
    | none => rw [zPS_none e] at h; cases h
    | some q =>
      obtain ⟨k0, s0, a0⟩ := q
      have ih := zPS_k e
      by_cases hb : ch i = 32
      · rw [zPS_blank e hb] at h; cases h; omega
      · by_cases hc : zCan (zvf (zGreat (ch i))) k0 s0
        · rw [zPS_go e hb rfl hc] at h; cases h
          have := hc.2.1
          omega
        · rw [zPS_stop e hb rfl hc] at h; cases h

set_option maxHeartbeats 4000000 in
set_option maxRecDepth 100000 in
theorem cc_X5_parse (l : Launch) (D : va_G) (z : zG) (sz : Nat) (h : Nat) (a1 : Nat) (k1 : ClassId) (n : Nat) (ch : Nat → Int32) (hn : n ≤ 60) : Met l yX5_parse wsX5_parse ({ frames := 5, cells := 0, slots := 0, locals := 107 }) (zPre D z [.ref h] sz [(h, .inr (5, [.ref a1, .int (nI n)])), (a1, .inl (k1, 60, .inl ch))] [(k1, .int)] (va_A [] sz)) (va_Ql (fun (r : Int64) (u : Unit) => zPar ch n r) zT (va_A [] sz)) 0 0 (va_A [] sz) := by
  refine Met.ofW (cc := cX5_parse) (maxL := 7) (ret := (some .long)) (by decide) rfl ?_
  intro p e s m args below meth c s₁ B hml hv
  obtain ⟨rfl, hsz, hP, hK, hD, hC⟩ := hv
  have hx := B.exec
  have hb := B.bytes
  have hr := B.returns
  have hts := atoms_spec (ws := wsX5_parse) B.pre
  have hown : s.vm.findClass RX5 = some m.cls := findClass_of_methodNamed B.named
  have hlocks := B.notSynchronized
  subst hsz
  generalize hAe : va_A [] s.heap.size = A at hC ⊢
  have hA : ∀ q : Nat, s.heap.size ≤ q → A q := fun q h => by rw [← hAe]; exact Or.inr h
  have hS : va_S A s.heap s.heap [] := va_S.rf
  have hP : va_P D vwCl [(h, .inr (5, [.ref a1, .int (nI n)])), (a1, .inl (k1, 60, .inl ch))] s.heap := hP
  have hl := lv_entry ([.ref h]) (n := 7) (Nat.le_of_ble_eq_true rfl)
  rw [lg_entry_eq]
  generalize (lg_sl ([.ref h]) ++ List.replicate (7 - (lg_sl ([.ref h])).length) Slot.unset).toArray = ls at hl ⊢
  have hl : lv_has ls 7 [(0, .ref h)] := hl
  refine zNameH (D := D) (A := A) (ws := [(h, .inr (5, [.ref a1, .int (nI n)])), (a1, .inl (k1, 60, .inl ch))]) (fun H locs hP hS => ?_) hP hS
  have k_0 := hts (.fieldLink RX5 15 "NumberRows2$TypedText" "length" "I") (by decide +kernel)
  have k_1 : ∀ w ∈ wsX50, w ∈ wsX5_parse := by decide +kernel
  have k_2 := hts (.constantLong RX5 35 (27512614111)) (by decide +kernel)
  have k_3 := hts (.fieldLink RX5 9 "NumberRows2$TypedText" "characters" "[I") (by decide +kernel)
  have k_4 := hts (.constantLong RX5 29 (31)) (by decide +kernel)
  refine lv_lconst (v := 0) hx hb dX5_parse_0 (by decide) ?_
  refine lv_lstore_n (lv' := [(1, .long 0), (0, .ref h)]) hx hb dX5_parse_1 rfl hl (by decide) rfl (fun ls hl => ?_)
  refine lv_iconst (v := 0) hx hb dX5_parse_2 (by decide) ?_
  refine lv_istore_n (lv' := [(3, .int 0), (1, .long 0), (0, .ref h)]) hx hb dX5_parse_3 rfl hl (by decide) rfl (fun ls hl => ?_)
  refine lv_iconst (v := 0) hx hb dX5_parse_4 (by decide) ?_
  refine lv_istore (lv' := [(4, .int 0), (3, .int 0), (1, .long 0), (0, .ref h)]) hx hb dX5_parse_5 hl (by decide) rfl (fun ls hl => ?_)
  refine lv_iconst (v := 0) hx hb dX5_parse_7 (by decide) ?_
  refine lv_istore (lv' := [(5, .int 0), (4, .int 0), (3, .int 0), (1, .long 0), (0, .ref h)]) hx hb dX5_parse_8 hl (by decide) rfl (fun ls hl => ?_)
  refine zLoop (σ := Nat × Nat × Int32 × Int64) (nL := 7) (μ := fun (x : Nat × Nat × Int32 × Int64) => match x with | (i, k, sm, ac) => n - i) (lv := fun (x : Nat × Nat × Int32 × Int64) => match x with | (i, k, sm, ac) => [(5, .int (nI i)), (0, .ref h), (1, .long ac), (3, .int sm), (4, .int (nI k))]) (wf := fun (x : Nat × Nat × Int32 × Int64) => match x with | (i, k, sm, ac) => [(h, .inr (5, [.ref a1, .int (nI n)])), (a1, .inl (k1, 60, .inl ch))]) (I := fun (x : Nat × Nat × Int32 × Int64) => match x with | (i, k, sm, ac) => i ≤ n ∧ k ≤ i ∧ zPS ch i = some (k, sm, ac)) (fun x H locs ls hI hP hD hS hl ih => ?_) (0, 0, 0, 0) ⟨Nat.zero_le _, Nat.le_refl _, rfl⟩ hP hD hS (lv_sub hl [0, 4, 3, 2, 1] rfl)
  obtain ⟨i, k, sm, ac⟩ := x
  have hI : i ≤ n ∧ k ≤ i ∧ zPS ch i = some (k, sm, ac) := hI
  have hl : lv_has ls 7 [(5, .int (nI i)), (0, .ref h), (1, .long ac), (3, .int sm), (4, .int (nI k))] := hl
  have hP : va_P D vwCl [(h, .inr (5, [.ref a1, .int (nI n)])), (a1, .inl (k1, 60, .inl ch))] H := hP
  have hD : va_D (fun _ => True) [(h, .inr (5, [.ref a1, .int (nI n)])), (a1, .inl (k1, 60, .inl ch))] := hD
  have h1 := hI.1
  have h2 := hI.2.1
  refine lv_iload hx hb dX5_parse_10 (lv_at hl 0 rfl) ?_
  refine lv_aload_n hx hb dX5_parse_12 rfl (lv_at hl 1 rfl) ?_
  refine va_get (D := D) (ci := 5) (v := .int (nI n)) (C := RX5) (T := TX5) (N := 2) hx hb hts k_1 hown hK hP 0 rfl rfl 1 (by decide) k_0 (fun _ h9 => h9) rfl dX5_parse_13 ?_
  refine lv_icmp_ge (tgt := 99) hx hb dX5_parse_16 (by decide) (fun c_16 => ?_) (fun c_16 => ?_)
  · have c_16 : n ≤ i := (nI_leI (a := n) (b := i) (by omega) (by omega)).mp c_16
    refine lv_iload hx hb dX5_parse_99 (lv_at hl 4 rfl) ?_
    refine lv_bipush (v := 9) hx hb dX5_parse_101 (by decide) ?_
    refine lv_icmp_ge (tgt := 116) hx hb dX5_parse_103 (by decide) (fun c_103 => ?_) (fun c_103 => ?_)
    · have c_103 : 9 ≤ k := (nI_leI (a := 9) (b := k) (by omega) (by omega)).mp c_103
      refine lv_ldc2 hx hb hown k_2 dX5_parse_116 ?_
      refine lv_lload_n hx hb dX5_parse_119 rfl (lv_at hl 2 rfl) ?_
      refine lv_ladd hx hb dX5_parse_120 ?_
      exact W.lret (v := (27512614111 + ac)) hx hb hr (fun t9 ht9 hW9 => ⟨⟨_, (), rfl, by obtain rfl : i = n := (by omega); exact Or.inr ⟨k, sm, ac, hI.2.2, Or.inr ⟨by omega, rfl⟩⟩, trivial⟩, hS.F ht9⟩) hS.2.2 dX5_parse_121
    · have c_103 : ¬ (9 ≤ k) := fun q9 => c_103 ((nI_leI (a := 9) (b := k) (by omega) (by omega)).mpr q9)
      refine lv_iconst (v := -1) hx hb dX5_parse_106 (by decide) ?_
      refine lv_aload_n hx hb dX5_parse_107 rfl (lv_at hl 1 rfl) ?_
      refine va_get (D := D) (ci := 5) (v := .int (nI n)) (C := RX5) (T := TX5) (N := 2) hx hb hts k_1 hown hK hP 0 rfl rfl 1 (by decide) k_0 (fun _ h9 => h9) rfl dX5_parse_108 ?_
      refine lv_isub hx hb dX5_parse_111 ?_
      refine lv_i2l (v := ((-1) - (nI n)).toInt64) hx hb dX5_parse_112 rfl ?_
      refine lv_goto (tgt := 121) hx hb dX5_parse_113 (by decide) ?_
      exact W.lret (v := (((-1) - (nI n)).toInt64)) hx hb hr (fun t9 ht9 hW9 => ⟨⟨_, (), rfl, by obtain rfl : i = n := (by omega); exact Or.inr ⟨k, sm, ac, hI.2.2, Or.inl ⟨by omega, rfl⟩⟩, trivial⟩, hS.F ht9⟩) hS.2.2 dX5_parse_121
  · have c_16 : ¬ (n ≤ i) := fun q9 => c_16 ((nI_leI (a := n) (b := i) (by omega) (by omega)).mpr q9)
    refine lv_aload_n hx hb dX5_parse_19 rfl (lv_at hl 1 rfl) ?_
    refine va_get (D := D) (ci := 5) (v := .ref a1) (C := RX5) (T := TX5) (N := 2) hx hb hts k_1 hown hK hP 0 rfl rfl 0 (by decide) k_3 (fun _ h9 => h9) rfl dX5_parse_20 ?_
    refine lv_iload hx hb dX5_parse_23 (lv_at hl 0 rfl) ?_
    refine z_iald (k := i) hx hb hK hP 1 0 rfl rfl (by omega) (by decide) dX5_parse_25 ?_
    refine lv_bipush (v := 32) hx hb dX5_parse_26 (by decide) ?_
    refine lv_icmp_ne (tgt := 34) hx hb dX5_parse_28 (by decide) (fun c_28 => ?_) (fun c_28 => ?_)
    · have i_28 : ¬ ((ch i).toInt = 32) := fun q9 => c_28 (zi_eq.mpr q9)
      refine lv_aload_n hx hb dX5_parse_34 rfl (lv_at hl 1 rfl) ?_
      refine va_get (D := D) (ci := 5) (v := .ref a1) (C := RX5) (T := TX5) (N := 2) hx hb hts k_1 hown hK hP 0 rfl rfl 0 (by decide) k_3 (fun _ h9 => h9) rfl dX5_parse_35 ?_
      refine lv_iload hx hb dX5_parse_38 (lv_at hl 0 rfl) ?_
      refine z_iald (k := i) hx hb hK hP 1 0 rfl rfl (by omega) (by decide) dX5_parse_40 ?_
      refine zRo_i (va_runS (As := [.int (ch i)]) (rest := []) ⟨hx, hb, hml, hown, hts⟩ (cc_X2_valueOf l D z H.size (ch i) ) (va_cwS 1 hts gX5_parse_X2_valueOf rfl rfl rfl (by decide +kernel) ⟨Nat.le_of_ble_eq_true rfl, Nat.le_of_ble_eq_true rfl⟩) ⟨zPre_blind, (zPre_mk (wc := []) (tc := []) hP hK hD hC hS [] (by decide) rfl rfl [] rfl (zro_free hS hA))⟩ rfl rfl hl.1 rfl (lv_room (Nat.le_of_ble_eq_true rfl)) dX5_parse_41 ⟨Nat.zero_le _, Nat.zero_le _⟩) hS hA hP (fun r_41 H locs hw hP hS => ?_)
      have hw_41 : zVal (zGreat (ch i)) r_41 := hw
      refine lv_istore (lv' := [(6, .int r_41), (5, .int (nI i)), (0, .ref h), (1, .long ac), (3, .int sm), (4, .int (nI k))]) hx hb dX5_parse_44 hl (by decide) rfl (fun ls hl => ?_)
      refine lv_iload hx hb dX5_parse_46 (lv_at hl 0 rfl) ?_
      refine lv_iload hx hb dX5_parse_48 (lv_at hl 5 rfl) ?_
      refine lv_iload_n hx hb dX5_parse_50 rfl (lv_at hl 4 rfl) ?_
      refine zRo_i (va_runS (As := [.int r_41, .int (nI k), .int sm]) (rest := []) ⟨hx, hb, hml, hown, hts⟩ (cc_X2_canStand l D z H.size r_41 k sm (by omega)) (va_cwS 3 hts gX5_parse_X2_canStand rfl rfl rfl (by decide +kernel) ⟨Nat.le_of_ble_eq_true rfl, Nat.le_of_ble_eq_true rfl⟩) ⟨zPre_blind, (zPre_mk (wc := []) (tc := []) hP hK hD hC hS [] (by decide) rfl rfl [] rfl (zro_free hS hA))⟩ rfl rfl hl.1 rfl (lv_room (Nat.le_of_ble_eq_true rfl)) dX5_parse_51 ⟨Nat.zero_le _, Nat.zero_le _⟩) hS hA hP (fun r_51 H locs hw hP hS => ?_)
      have hw_51 : zB r_51 (zCan r_41 k sm) := hw
      refine lv_if_ne (tgt := 63) hx hb dX5_parse_54 (by decide) (fun c_54 => ?_) (fun c_54 => ?_)
      · have i_54 : ¬ (r_51.toInt = 0) := fun q9 => c_54 (zi_eq.mpr q9)
        refine lv_iload hx hb dX5_parse_63 (lv_at hl 5 rfl) ?_
        refine lv_bipush (v := 8) hx hb dX5_parse_65 (by decide) ?_
        refine lv_icmp_ge (tgt := 80) hx hb dX5_parse_67 (by decide) (fun c_67 => ?_) (fun c_67 => ?_)
        · have c_67 : 8 ≤ k := (nI_leI (a := 8) (b := k) (by omega) (by omega)).mp c_67
          refine lv_iload_n hx hb dX5_parse_80 rfl (lv_at hl 4 rfl) ?_
          refine lv_iload hx hb dX5_parse_81 (lv_at hl 0 rfl) ?_
          refine lv_iload hx hb dX5_parse_83 (lv_at hl 5 rfl) ?_
          refine zRo_i (va_runS (As := [.int r_41, .int (nI k)]) (rest := [.int sm]) ⟨hx, hb, hml, hown, hts⟩ (cc_X2_weighted l D z H.size r_41 (nI k) ) (va_cwS 2 hts gX5_parse_X2_weighted rfl rfl rfl (by decide +kernel) ⟨Nat.le_of_ble_eq_true rfl, Nat.le_of_ble_eq_true rfl⟩) ⟨zPre_blind, (zPre_mk (wc := []) (tc := []) hP hK hD hC hS [] (by decide) rfl rfl [] rfl (zro_free hS hA))⟩ rfl rfl hl.1 rfl (lv_room (Nat.le_of_ble_eq_true rfl)) dX5_parse_85 ⟨Nat.zero_le _, Nat.zero_le _⟩) hS hA hP (fun r_85 H locs hw hP hS => ?_)
          have hw_85 : r_85 = zWgt r_41 (nI k) := hw
          refine lv_iadd hx hb dX5_parse_88 ?_
          refine lv_istore_n (lv' := [(3, .int (sm + r_85)), (6, .int r_41), (5, .int (nI i)), (0, .ref h), (1, .long ac), (4, .int (nI k))]) hx hb dX5_parse_89 rfl hl (by decide) rfl (fun ls hl => ?_)
          refine lv_iinc (v := (nI (k + 1))) (lv' := [(4, .int (nI (k + 1))), (3, .int (sm + r_85)), (6, .int r_41), (5, .int (nI i)), (0, .ref h), (1, .long ac)]) hx hb dX5_parse_90 hl (k := 5) rfl (by first | exact nI_1 _ | rfl) (by decide) rfl (fun ls hl => ?_)
          refine lv_iinc (v := (nI (i + 1))) (lv' := [(5, .int (nI (i + 1))), (4, .int (nI (k + 1))), (3, .int (sm + r_85)), (6, .int r_41), (0, .ref h), (1, .long ac)]) hx hb dX5_parse_93 hl (k := 3) rfl (by first | exact nI_1 _ | rfl) (by decide) rfl (fun ls hl => ?_)
          refine lv_goto (tgt := 10) hx hb dX5_parse_96 (by decide) ?_
          exact ih (i + 1, k + 1, sm + r_85, ac) _ _ _ (show n - (i + 1) < n - i from (by omega)) ⟨by omega, by omega, (zPS_go hI.2.2 c_28 (zVal_eq hw_41) (zB_ne hw_51 c_54)).trans (by rw [hw_85, if_neg (by omega)])⟩ hP hD hS (lv_sub hl [0, 4, 5, 2, 1] rfl)
        · have c_67 : ¬ (8 ≤ k) := fun q9 => c_67 ((nI_leI (a := 8) (b := k) (by omega) (by omega)).mpr q9)
          refine lv_lload_n hx hb dX5_parse_70 rfl (lv_at hl 3 rfl) ?_
          refine lv_ldc2 hx hb hown k_4 dX5_parse_71 ?_
          refine lv_lmul hx hb dX5_parse_74 ?_
          refine lv_iload hx hb dX5_parse_75 (lv_at hl 0 rfl) ?_
          refine lv_i2l (v := r_41.toInt64) hx hb dX5_parse_77 rfl ?_
          refine lv_ladd hx hb dX5_parse_78 ?_
          refine lv_lstore_n (lv' := [(1, .long ((ac * 31) + r_41.toInt64)), (6, .int r_41), (5, .int (nI i)), (0, .ref h), (3, .int sm), (4, .int (nI k))]) hx hb dX5_parse_79 rfl hl (by decide) rfl (fun ls hl => ?_)
          refine lv_iload_n hx hb dX5_parse_80 rfl (lv_at hl 4 rfl) ?_
          refine lv_iload hx hb dX5_parse_81 (lv_at hl 1 rfl) ?_
          refine lv_iload hx hb dX5_parse_83 (lv_at hl 5 rfl) ?_
          refine zRo_i (va_runS (As := [.int r_41, .int (nI k)]) (rest := [.int sm]) ⟨hx, hb, hml, hown, hts⟩ (cc_X2_weighted l D z H.size r_41 (nI k) ) (va_cwS 2 hts gX5_parse_X2_weighted rfl rfl rfl (by decide +kernel) ⟨Nat.le_of_ble_eq_true rfl, Nat.le_of_ble_eq_true rfl⟩) ⟨zPre_blind, (zPre_mk (wc := []) (tc := []) hP hK hD hC hS [] (by decide) rfl rfl [] rfl (zro_free hS hA))⟩ rfl rfl hl.1 rfl (lv_room (Nat.le_of_ble_eq_true rfl)) dX5_parse_85 ⟨Nat.zero_le _, Nat.zero_le _⟩) hS hA hP (fun r_85 H locs hw hP hS => ?_)
          have hw_85 : r_85 = zWgt r_41 (nI k) := hw
          refine lv_iadd hx hb dX5_parse_88 ?_
          refine lv_istore_n (lv' := [(3, .int (sm + r_85)), (1, .long ((ac * 31) + r_41.toInt64)), (6, .int r_41), (5, .int (nI i)), (0, .ref h), (4, .int (nI k))]) hx hb dX5_parse_89 rfl hl (by decide) rfl (fun ls hl => ?_)
          refine lv_iinc (v := (nI (k + 1))) (lv' := [(4, .int (nI (k + 1))), (3, .int (sm + r_85)), (1, .long ((ac * 31) + r_41.toInt64)), (6, .int r_41), (5, .int (nI i)), (0, .ref h)]) hx hb dX5_parse_90 hl (k := 5) rfl (by first | exact nI_1 _ | rfl) (by decide) rfl (fun ls hl => ?_)
          refine lv_iinc (v := (nI (i + 1))) (lv' := [(5, .int (nI (i + 1))), (4, .int (nI (k + 1))), (3, .int (sm + r_85)), (1, .long ((ac * 31) + r_41.toInt64)), (6, .int r_41), (0, .ref h)]) hx hb dX5_parse_93 hl (k := 4) rfl (by first | exact nI_1 _ | rfl) (by decide) rfl (fun ls hl => ?_)
          refine lv_goto (tgt := 10) hx hb dX5_parse_96 (by decide) ?_
          exact ih (i + 1, k + 1, sm + r_85, (ac * 31) + r_41.toInt64) _ _ _ (show n - (i + 1) < n - i from (by omega)) ⟨by omega, by omega, (zPS_go hI.2.2 c_28 (zVal_eq hw_41) (zB_ne hw_51 c_54)).trans (by rw [hw_85, if_pos (by omega)])⟩ hP hD hS (lv_sub hl [0, 5, 3, 2, 1] rfl)
      · have i_54 : r_51.toInt = 0 := zi_eq.mp c_54
        refine lv_iconst (v := -1) hx hb dX5_parse_57 (by decide) ?_
        refine lv_iload hx hb dX5_parse_58 (lv_at hl 1 rfl) ?_
        refine lv_isub hx hb dX5_parse_60 ?_
        refine lv_i2l (v := ((-1) - (nI i)).toInt64) hx hb dX5_parse_61 rfl ?_
        exact W.lret (v := (((-1) - (nI i)).toInt64)) hx hb hr (fun t9 ht9 hW9 => ⟨⟨_, (), rfl, Or.inl ⟨i, by omega, by rw [hI.2.2]; exact fun q => (by cases q), zPS_stop hI.2.2 c_28 (zVal_eq hw_41) (zB_eq hw_51 c_54), rfl⟩, trivial⟩, hS.F ht9⟩) hS.2.2 dX5_parse_62
    · have i_28 : (ch i).toInt = 32 := zi_eq.mp c_28
      refine lv_goto (tgt := 93) hx hb dX5_parse_31 (by decide) ?_
      refine lv_iinc (v := (nI (i + 1))) (lv' := [(5, .int (nI (i + 1))), (0, .ref h), (1, .long ac), (3, .int sm), (4, .int (nI k))]) hx hb dX5_parse_93 hl (k := 0) rfl (by first | exact nI_1 _ | rfl) (by decide) rfl (fun ls hl => ?_)
      refine lv_goto (tgt := 10) hx hb dX5_parse_96 (by decide) ?_
      exact ih (i + 1, k, sm, ac) _ _ _ (show n - (i + 1) < n - i from (by omega)) ⟨by omega, by omega, zPS_blank hI.2.2 c_28⟩ hP hD hS (lv_sub hl [0, 1, 2, 3, 4] rfl)
end
section
/-! the class's own methods -/
def zOkB (p0 : Int32) (p1 p2 : Int64) : Prop := (0 ≤ p0.toInt ∧ p0.toInt < 100) ∧ (0 ≤ p1.toInt ∧ p1.toInt ≤ p2.toInt ∧ p2.toInt < 20000000000)
def zTch (n : Nat) (bf bl : Nat → Int64) (p1 p2 : Int64) : Prop := ∃ j, j < n ∧ p1 ≤ bl j ∧ bf j ≤ p2
def zOkN (p0 p1 : Int32) : Prop := (0 ≤ p0.toInt ∧ p0.toInt < 100) ∧ (0 ≤ p1.toInt ∧ p1.toInt < 10)
def zOkR (p0 p1 : Int64) : Prop := 0 ≤ p0.toInt ∧ p0.toInt ≤ p1.toInt ∧ p1.toInt < 27512614111
def zIsN (p0 : Int64) : Prop := 27512614111 ≤ p0.toInt ∧ p0.toInt < 302638755221
def zOld (p0 r : Int64) : Prop :=
  ((0 ≤ p0.toInt ∧ p0.toInt < 10000000000) ∧ r = znum (p0 / 1000000000).toInt32 (20000000000 + (p0 - p0 / 1000000000 * 1000000000))) ∨
  (¬ (0 ≤ p0.toInt ∧ p0.toInt < 10000000000) ∧ ¬ (zIsN p0 ∧ 0 ≤ (zser p0 - 20000000000).toInt ∧ (zser p0 - 20000000000).toInt < 1000000000) ∧ r = -102) ∨
  (¬ (0 ≤ p0.toInt ∧ p0.toInt < 10000000000) ∧ (zIsN p0 ∧ 0 ≤ (zser p0 - 20000000000).toInt ∧ (zser p0 - 20000000000).toInt < 1000000000) ∧ r = zsvc p0 * 1000000000 + (zser p0 - 20000000000))
def zFnd (n : Nat) (sd : Nat → Int32) (rf nm : Nat → Int64) (p0 : Int32) (p1 r : Int64) : Prop := (∃ j, j < n ∧ sd j = p0 ∧ rf j = p1 ∧ r = nm j) ∨ ((∀ j, j < n → ¬ (sd j = p0 ∧ rf j = p1)) ∧ r = -101)

set_option maxHeartbeats 4000000 in
set_option maxRecDepth 100000 in
theorem cc_X6_block (l : Launch) (D : va_G) (z : zG) (sz : Nat) (oo : Nat) (ob : Nat) (oq : Nat) (ov : Nat) (on : Nat) (ot : Nat) (ob1 : Nat) (ob2 : Nat) (ob3 : Nat) (ob4 : Nat) (kb1 : ClassId) (kb2 : ClassId) (kb3 : ClassId) (kb4 : ClassId) (nb : Nat) (bo : Nat → Int32) (bf : Nat → Int64) (bl : Nat → Int64) (br : Nat → Int64) (p0 : Int32) (p1 : Int64) (p2 : Int64) (hn : nb ≤ 50) : Met l yX6_block wsX6_block ({ frames := 1, cells := 0, slots := 0, locals := 25 }) (zPre D z [.ref oo, .int p0, .long p1, .long p2] sz [(oo, .inr (6, [.ref ob, .ref oq, .ref ov, .ref on, .ref ot])), (ob, .inr (2, [.ref ob1, .ref ob2, .ref ob3, .ref ob4, .int (nI nb)])), (ob1, .inl (kb1, 50, .inl bo)), (ob2, .inl (kb2, 50, .inr (.inl bf))), (ob3, .inl (kb3, 50, .inr (.inl bl))), (ob4, .inl (kb4, 50, .inr (.inl br)))] [(kb1, .int), (kb2, .long), (kb3, .long), (kb4, .long)] (va_A [(oo, .inr (6, [.ref ob, .ref oq, .ref ov, .ref on, .ref ot])), (ob, .inr (2, [.ref ob1, .ref ob2, .ref ob3, .ref ob4, .int (nI nb)])), (ob1, .inl (kb1, 50, .inl bo)), (ob2, .inl (kb2, 50, .inr (.inl bf))), (ob3, .inl (kb3, 50, .inr (.inl bl))), (ob4, .inl (kb4, 50, .inr (.inl br)))] sz)) (va_Qi (fun (r : Int32) (u : Nat × (Nat → Int32) × (Nat → Int64) × (Nat → Int64) × (Nat → Int64)) => (¬ zOkB p0 p1 p2 ∧ r = -102 ∧ u.1 = nb ∧ u.2.1 = bo ∧ u.2.2.1 = bf ∧ u.2.2.2.1 = bl ∧ u.2.2.2.2 = br) ∨ (zOkB p0 p1 p2 ∧ zTch nb bf bl p1 p2 ∧ r = -103 ∧ u.1 = nb ∧ u.2.1 = bo ∧ u.2.2.1 = bf ∧ u.2.2.2.1 = bl ∧ u.2.2.2.2 = br) ∨ (zOkB p0 p1 p2 ∧ ¬ zTch nb bf bl p1 p2 ∧ 50 ≤ nb ∧ r = -104 ∧ u.1 = nb ∧ u.2.1 = bo ∧ u.2.2.1 = bf ∧ u.2.2.2.1 = bl ∧ u.2.2.2.2 = br) ∨ (zOkB p0 p1 p2 ∧ ¬ zTch nb bf bl p1 p2 ∧ nb < 50 ∧ r = nI (nb + 1) ∧ u.1 = nb + 1 ∧ u.2.1 = upd bo nb p0 ∧ u.2.2.1 = vp_updL bf nb p1 ∧ u.2.2.2.1 = vp_updL bl nb p2 ∧ u.2.2.2.2 = vp_updL br nb p1)) (zAt D [(kb1, .int), (kb2, .long), (kb3, .long), (kb4, .long)] (va_A [(oo, .inr (6, [.ref ob, .ref oq, .ref ov, .ref on, .ref ot])), (ob, .inr (2, [.ref ob1, .ref ob2, .ref ob3, .ref ob4, .int (nI nb)])), (ob1, .inl (kb1, 50, .inl bo)), (ob2, .inl (kb2, 50, .inr (.inl bf))), (ob3, .inl (kb3, 50, .inr (.inl bl))), (ob4, .inl (kb4, 50, .inr (.inl br)))] sz) (fun u : Nat × (Nat → Int32) × (Nat → Int64) × (Nat → Int64) × (Nat → Int64) => [(oo, .inr (6, [.ref ob, .ref oq, .ref ov, .ref on, .ref ot])), (ob, .inr (2, [.ref ob1, .ref ob2, .ref ob3, .ref ob4, .int (nI u.1)])), (ob1, .inl (kb1, 50, .inl u.2.1)), (ob2, .inl (kb2, 50, .inr (.inl u.2.2.1))), (ob3, .inl (kb3, 50, .inr (.inl u.2.2.2.1))), (ob4, .inl (kb4, 50, .inr (.inl u.2.2.2.2)))])) (va_A [(oo, .inr (6, [.ref ob, .ref oq, .ref ov, .ref on, .ref ot])), (ob, .inr (2, [.ref ob1, .ref ob2, .ref ob3, .ref ob4, .int (nI nb)])), (ob1, .inl (kb1, 50, .inl bo)), (ob2, .inl (kb2, 50, .inr (.inl bf))), (ob3, .inl (kb3, 50, .inr (.inl bl))), (ob4, .inl (kb4, 50, .inr (.inl br)))] sz)) 0 0 (va_A [(oo, .inr (6, [.ref ob, .ref oq, .ref ov, .ref on, .ref ot])), (ob, .inr (2, [.ref ob1, .ref ob2, .ref ob3, .ref ob4, .int (nI nb)])), (ob1, .inl (kb1, 50, .inl bo)), (ob2, .inl (kb2, 50, .inr (.inl bf))), (ob3, .inl (kb3, 50, .inr (.inl bl))), (ob4, .inl (kb4, 50, .inr (.inl br)))] sz) := by
  refine Met.ofW (cc := cX6_block) (maxL := 6) (ret := (some .int)) (by decide) rfl ?_
  intro p e s m args below meth c s₁ B hml hv
  obtain ⟨rfl, hsz, hP, hK, hD, hC⟩ := hv
  have hx := B.exec
  have hb := B.bytes
  have hr := B.returns
  have hts := atoms_spec (ws := wsX6_block) B.pre
  have hown : s.vm.findClass RX6 = some m.cls := findClass_of_methodNamed B.named
  have hlocks := B.notSynchronized
  subst hsz
  have hD := hD.self (sz := s.heap.size)
  generalize hAe : va_A [(oo, .inr (6, [.ref ob, .ref oq, .ref ov, .ref on, .ref ot])), (ob, .inr (2, [.ref ob1, .ref ob2, .ref ob3, .ref ob4, .int (nI nb)])), (ob1, .inl (kb1, 50, .inl bo)), (ob2, .inl (kb2, 50, .inr (.inl bf))), (ob3, .inl (kb3, 50, .inr (.inl bl))), (ob4, .inl (kb4, 50, .inr (.inl br)))] s.heap.size = A at hC hD ⊢
  have hA : ∀ q : Nat, s.heap.size ≤ q → A q := fun q h => by rw [← hAe]; exact Or.inr h
  have hS : va_S A s.heap s.heap [] := va_S.rf
  have hP : va_P D vwCl [(oo, .inr (6, [.ref ob, .ref oq, .ref ov, .ref on, .ref ot])), (ob, .inr (2, [.ref ob1, .ref ob2, .ref ob3, .ref ob4, .int (nI nb)])), (ob1, .inl (kb1, 50, .inl bo)), (ob2, .inl (kb2, 50, .inr (.inl bf))), (ob3, .inl (kb3, 50, .inr (.inl bl))), (ob4, .inl (kb4, 50, .inr (.inl br)))] s.heap := hP
  have hl := lv_entry ([.ref oo, .int p0, .long p1, .long p2]) (n := 6) (Nat.le_of_ble_eq_true rfl)
  rw [lg_entry_eq]
  generalize (lg_sl ([.ref oo, .int p0, .long p1, .long p2]) ++ List.replicate (6 - (lg_sl ([.ref oo, .int p0, .long p1, .long p2])).length) Slot.unset).toArray = ls at hl ⊢
  have hl : lv_has ls 6 [(0, .ref oo), (1, .int p0), (2, .long p1), (4, .long p2)] := hl
  refine zNameH (D := D) (A := A) (ws := [(oo, .inr (6, [.ref ob, .ref oq, .ref ov, .ref on, .ref ot])), (ob, .inr (2, [.ref ob1, .ref ob2, .ref ob3, .ref ob4, .int (nI nb)])), (ob1, .inl (kb1, 50, .inl bo)), (ob2, .inl (kb2, 50, .inr (.inl bf))), (ob3, .inl (kb3, 50, .inr (.inl bl))), (ob4, .inl (kb4, 50, .inr (.inl br)))]) (fun H locs hP hS => ?_) hP hS
  have k_0 := hts (.constantLong RX6 48 (20000000000)) (by decide +kernel)
  have k_1 := hts (.fieldLink RX6 10 "NumberRows2" "blocks" "LNumberRows2$Blocks;") (by decide +kernel)
  have k_2 : ∀ w ∈ wsX60, w ∈ wsX6_block := by decide +kernel
  refine lv_iload_n hx hb dX6_block_0 rfl (lv_at hl 1 rfl) ?_
  refine zRo_i (va_runS (As := [.int p0]) (rest := []) ⟨hx, hb, hml, hown, hts⟩ (cc_X6_isOffice l D z H.size p0 ) (va_cwS 1 hts gX6_block_X6_isOffice rfl rfl rfl (by decide +kernel) ⟨Nat.le_of_ble_eq_true rfl, Nat.le_of_ble_eq_true rfl⟩) ⟨zPre_blind, (zPre_mk (wc := []) (tc := []) hP hK hD hC hS [] (by decide) rfl rfl [] rfl (zro_free hS hA))⟩ rfl rfl hl.1 rfl (lv_room (Nat.le_of_ble_eq_true rfl)) dX6_block_1 ⟨Nat.zero_le _, Nat.zero_le _⟩) hS hA hP (fun r_1 H locs hw hP hS => ?_)
  have hw_1 : zB r_1 (0 ≤ p0.toInt ∧ p0.toInt < 100) := hw
  refine lv_if_eq (tgt := 19) hx hb dX6_block_4 (by decide) (fun c_4 => ?_) (fun c_4 => ?_)
  · have i_4 : r_1.toInt = 0 := zi_eq.mp c_4
    refine lv_bipush (v := -102) hx hb dX6_block_19 (by decide) ?_
    exact W.iret (v := (-102)) hx hb hr (fun t9 ht9 hW9 => ⟨⟨_, (nb, bo, bf, bl, br), rfl, Or.inl ⟨fun q => zB_eq hw_1 c_4 q.1, rfl, rfl, rfl, rfl, rfl, rfl⟩, by rw [ht9]; exact hP, va_K.moved hW9.alike hK, hD⟩, hS.F ht9⟩) hS.2.2 dX6_block_21
  · have i_4 : ¬ (r_1.toInt = 0) := fun q9 => c_4 (zi_eq.mpr q9)
    refine lv_lload_n hx hb dX6_block_7 rfl (lv_at hl 2 rfl) ?_
    refine lv_lload hx hb dX6_block_8 (lv_at hl 3 rfl) ?_
    refine lv_ldc2 hx hb hown k_0 dX6_block_10 ?_
    refine zRo_i (va_runS (As := [.long p1, .long p2, .long 20000000000]) (rest := []) ⟨hx, hb, hml, hown, hts⟩ (cc_X6_isRowBelow l D z H.size p1 p2 (20000000000 : Int64) ) (va_cwS 3 hts gX6_block_X6_isRowBelow rfl rfl rfl (by decide +kernel) ⟨Nat.le_of_ble_eq_true rfl, Nat.le_of_ble_eq_true rfl⟩) ⟨zPre_blind, (zPre_mk (wc := []) (tc := []) hP hK hD hC hS [] (by decide) rfl rfl [] rfl (zro_free hS hA))⟩ rfl rfl hl.1 rfl (lv_room (Nat.le_of_ble_eq_true rfl)) dX6_block_13 ⟨Nat.zero_le _, Nat.zero_le _⟩) hS hA hP (fun r_13 H locs hw hP hS => ?_)
    have hw_13 : zB r_13 (0 ≤ p1.toInt ∧ p1.toInt ≤ p2.toInt ∧ p2.toInt < 20000000000) := hw
    refine lv_if_ne (tgt := 22) hx hb dX6_block_16 (by decide) (fun c_16 => ?_) (fun c_16 => ?_)
    · have i_16 : ¬ (r_13.toInt = 0) := fun q9 => c_16 (zi_eq.mpr q9)
      refine lv_aload_n hx hb dX6_block_22 rfl (lv_at hl 0 rfl) ?_
      refine va_get (D := D) (ci := 6) (v := .ref ob) (C := RX6) (T := TX6) (N := 5) hx hb hts k_2 hown hK hP 0 rfl rfl 0 (by decide) k_1 (fun _ h9 => h9) rfl dX6_block_23 ?_
      refine lv_lload_n hx hb dX6_block_26 rfl (lv_at hl 2 rfl) ?_
      refine lv_lload hx hb dX6_block_27 (lv_at hl 3 rfl) ?_
      refine zRo_i (va_runV (As := [.long p1, .long p2]) (rest := []) ⟨hx, hb, hml, hown, hts⟩ (cc_X1_touches l D z H.size ob ob1 ob2 ob3 ob4 kb1 kb2 kb3 kb4 nb bo bf bl br p1 p2 (by omega)) (cwV 2 hts gX6_block_X1_touches rfl rfl rfl (by decide +kernel) ⟨Nat.le_of_ble_eq_true rfl, Nat.le_of_ble_eq_true rfl⟩) ⟨zPre_blind, va_recv hK hP (ci := 2) (q0 := 1) rfl rfl, (zPre_mk (wc := [(ob, .inr (2, [.ref ob1, .ref ob2, .ref ob3, .ref ob4, .int (nI nb)])), (ob1, .inl (kb1, 50, .inl bo)), (ob2, .inl (kb2, 50, .inr (.inl bf))), (ob3, .inl (kb3, 50, .inr (.inl bl))), (ob4, .inl (kb4, 50, .inr (.inl br)))]) (tc := [(kb1, .int), (kb2, .long), (kb3, .long), (kb4, .long)]) hP hK hD hC hS [1, 2, 3, 4, 5] (by decide) rfl rfl [0, 1, 2, 3] rfl (zro_free hS hA))⟩ rfl rfl hl.1 rfl (lv_room (Nat.le_of_ble_eq_true rfl)) dX6_block_29 ⟨Nat.zero_le _, Nat.zero_le _⟩) hS hA hP (fun r_29 H locs hw hP hS => ?_)
      have hw_29 : zB r_29 (∃ j, j < nb ∧ p1 ≤ bl j ∧ bf j ≤ p2) := hw
      refine lv_if_eq (tgt := 38) hx hb dX6_block_32 (by decide) (fun c_32 => ?_) (fun c_32 => ?_)
      · have i_32 : r_29.toInt = 0 := zi_eq.mp c_32
        refine lv_aload_n hx hb dX6_block_38 rfl (lv_at hl 0 rfl) ?_
        refine va_get (D := D) (ci := 6) (v := .ref ob) (C := RX6) (T := TX6) (N := 5) hx hb hts k_2 hown hK hP 0 rfl rfl 0 (by decide) k_1 (fun _ h9 => h9) rfl dX6_block_39 ?_
        refine zRo_i (va_runV (As := []) (rest := []) ⟨hx, hb, hml, hown, hts⟩ (cc_X1_isFull l D z H.size ob ob1 ob2 ob3 ob4 kb1 kb2 kb3 kb4 nb bo bf bl br (by omega)) (cwV 0 hts gX6_block_X1_isFull rfl rfl rfl (by decide +kernel) ⟨Nat.le_of_ble_eq_true rfl, Nat.le_of_ble_eq_true rfl⟩) ⟨zPre_blind, va_recv hK hP (ci := 2) (q0 := 1) rfl rfl, (zPre_mk (wc := [(ob, .inr (2, [.ref ob1, .ref ob2, .ref ob3, .ref ob4, .int (nI nb)])), (ob1, .inl (kb1, 50, .inl bo)), (ob2, .inl (kb2, 50, .inr (.inl bf))), (ob3, .inl (kb3, 50, .inr (.inl bl))), (ob4, .inl (kb4, 50, .inr (.inl br)))]) (tc := [(kb1, .int), (kb2, .long), (kb3, .long), (kb4, .long)]) hP hK hD hC hS [1, 2, 3, 4, 5] (by decide) rfl rfl [0, 1, 2, 3] rfl (zro_free hS hA))⟩ rfl rfl hl.1 rfl (lv_room (Nat.le_of_ble_eq_true rfl)) dX6_block_42 ⟨Nat.zero_le _, Nat.zero_le _⟩) hS hA hP (fun r_42 H locs hw hP hS => ?_)
        have hw_42 : zB r_42 (50 ≤ nb) := hw
        refine lv_if_eq (tgt := 51) hx hb dX6_block_45 (by decide) (fun c_45 => ?_) (fun c_45 => ?_)
        · have i_45 : r_42.toInt = 0 := zi_eq.mp c_45
          have hf := zB_eq hw_42 c_45
          refine lv_aload_n hx hb dX6_block_51 rfl (lv_at hl 0 rfl) ?_
          refine va_get (D := D) (ci := 6) (v := .ref ob) (C := RX6) (T := TX6) (N := 5) hx hb hts k_2 hown hK hP 0 rfl rfl 0 (by decide) k_1 (fun _ h9 => h9) rfl dX6_block_52 ?_
          refine lv_iload_n hx hb dX6_block_55 rfl (lv_at hl 1 rfl) ?_
          refine lv_lload_n hx hb dX6_block_56 rfl (lv_at hl 2 rfl) ?_
          refine lv_lload hx hb dX6_block_57 (lv_at hl 3 rfl) ?_
          refine zMu_i (wr := [(oo, .inr (6, [.ref ob, .ref oq, .ref ov, .ref on, .ref ot]))]) (va_runV (As := [.int p0, .long p1, .long p2]) (rest := []) ⟨hx, hb, hml, hown, hts⟩ (cc_X1_add l D z H.size ob ob1 ob2 ob3 ob4 kb1 kb2 kb3 kb4 nb bo bf bl br p0 p1 p2 (by omega)) (cwV 3 hts gX6_block_X1_add rfl rfl rfl (by decide +kernel) ⟨Nat.le_of_ble_eq_true rfl, Nat.le_of_ble_eq_true rfl⟩) ⟨zPre_blind, va_recv hK hP (ci := 2) (q0 := 1) rfl rfl, (zPre_mk (wc := [(ob, .inr (2, [.ref ob1, .ref ob2, .ref ob3, .ref ob4, .int (nI nb)])), (ob1, .inl (kb1, 50, .inl bo)), (ob2, .inl (kb2, 50, .inr (.inl bf))), (ob3, .inl (kb3, 50, .inr (.inl bl))), (ob4, .inl (kb4, 50, .inr (.inl br)))]) (tc := [(kb1, .int), (kb2, .long), (kb3, .long), (kb4, .long)]) hP hK hD hC hS [1, 2, 3, 4, 5] (by decide) rfl rfl [0, 1, 2, 3] rfl (va_free (wc := [(ob, .inr (2, [.ref ob1, .ref ob2, .ref ob3, .ref ob4, .int (nI nb)])), (ob1, .inl (kb1, 50, .inl bo)), (ob2, .inl (kb2, 50, .inr (.inl bf))), (ob3, .inl (kb3, 50, .inr (.inl bl))), (ob4, .inl (kb4, 50, .inr (.inl br)))]) hD hS hA [1, 2, 3, 4, 5] rfl))⟩ rfl rfl hl.1 rfl (lv_room (Nat.le_of_ble_eq_true rfl)) dX6_block_59 ⟨Nat.zero_le _, Nat.zero_le _⟩) hS hA hP hD [1, 2, 3, 4, 5] [0] rfl rfl (by decide) (by decide) (fun r_59 u H locs hw hP hD hS => ?_)
          obtain ⟨un_59, uo_59, uf_59, ul_59, ur_59⟩ := u
          have hw_59 : r_59 = nI (nb + 1) ∧ un_59 = nb + 1 ∧ uo_59 = upd bo nb p0 ∧ uf_59 = vp_updL bf nb p1 ∧ ul_59 = vp_updL bl nb p2 ∧ ur_59 = vp_updL br nb p1 := hw
          have hP : va_P D vwCl [(oo, .inr (6, [.ref ob, .ref oq, .ref ov, .ref on, .ref ot])), (ob, .inr (2, [.ref ob1, .ref ob2, .ref ob3, .ref ob4, .int (nI un_59)])), (ob1, .inl (kb1, 50, .inl uo_59)), (ob2, .inl (kb2, 50, .inr (.inl uf_59))), (ob3, .inl (kb3, 50, .inr (.inl ul_59))), (ob4, .inl (kb4, 50, .inr (.inl ur_59)))] H := hP
          have hD : va_D A [(oo, .inr (6, [.ref ob, .ref oq, .ref ov, .ref on, .ref ot])), (ob, .inr (2, [.ref ob1, .ref ob2, .ref ob3, .ref ob4, .int (nI un_59)])), (ob1, .inl (kb1, 50, .inl uo_59)), (ob2, .inl (kb2, 50, .inr (.inl uf_59))), (ob3, .inl (kb3, 50, .inr (.inl ul_59))), (ob4, .inl (kb4, 50, .inr (.inl ur_59)))] := hD
          exact W.iret (v := r_59) hx hb hr (fun t9 ht9 hW9 => ⟨⟨_, (un_59, uo_59, uf_59, ul_59, ur_59), rfl, Or.inr (Or.inr (Or.inr ⟨⟨zB_ne hw_1 c_4, zB_ne hw_13 c_16⟩, zB_eq hw_29 c_32, by omega, hw_59⟩)), by rw [ht9]; exact hP, va_K.moved hW9.alike hK, hD⟩, hS.F ht9⟩) hS.2.2 dX6_block_62
        · have i_45 : ¬ (r_42.toInt = 0) := fun q9 => c_45 (zi_eq.mpr q9)
          refine lv_bipush (v := -104) hx hb dX6_block_48 (by decide) ?_
          exact W.iret (v := (-104)) hx hb hr (fun t9 ht9 hW9 => ⟨⟨_, (nb, bo, bf, bl, br), rfl, Or.inr (Or.inr (Or.inl ⟨⟨zB_ne hw_1 c_4, zB_ne hw_13 c_16⟩, zB_eq hw_29 c_32, zB_ne hw_42 c_45, rfl, rfl, rfl, rfl, rfl, rfl⟩)), by rw [ht9]; exact hP, va_K.moved hW9.alike hK, hD⟩, hS.F ht9⟩) hS.2.2 dX6_block_50
      · have i_32 : ¬ (r_29.toInt = 0) := fun q9 => c_32 (zi_eq.mpr q9)
        refine lv_bipush (v := -103) hx hb dX6_block_35 (by decide) ?_
        exact W.iret (v := (-103)) hx hb hr (fun t9 ht9 hW9 => ⟨⟨_, (nb, bo, bf, bl, br), rfl, Or.inr (Or.inl ⟨⟨zB_ne hw_1 c_4, zB_ne hw_13 c_16⟩, zB_ne hw_29 c_32, rfl, rfl, rfl, rfl, rfl, rfl⟩), by rw [ht9]; exact hP, va_K.moved hW9.alike hK, hD⟩, hS.F ht9⟩) hS.2.2 dX6_block_37
    · have i_16 : r_13.toInt = 0 := zi_eq.mp c_16
      refine lv_bipush (v := -102) hx hb dX6_block_19 (by decide) ?_
      exact W.iret (v := (-102)) hx hb hr (fun t9 ht9 hW9 => ⟨⟨_, (nb, bo, bf, bl, br), rfl, Or.inl ⟨fun q => zB_eq hw_13 c_16 q.2, rfl, rfl, rfl, rfl, rfl, rfl⟩, by rw [ht9]; exact hP, va_K.moved hW9.alike hK, hD⟩, hS.F ht9⟩) hS.2.2 dX6_block_21

set_option maxHeartbeats 4000000 in
set_option maxRecDepth 100000 in
theorem cc_X6_next (l : Launch) (D : va_G) (z : zG) (sz : Nat) (oo : Nat) (ob : Nat) (oq : Nat) (ov : Nat) (on : Nat) (ot : Nat) (ob1 : Nat) (ob2 : Nat) (ob3 : Nat) (ob4 : Nat) (kb1 : ClassId) (kb2 : ClassId) (kb3 : ClassId) (kb4 : ClassId) (nb : Nat) (bo : Nat → Int32) (bf : Nat → Int64) (bl : Nat → Int64) (br : Nat → Int64) (oq1 : Nat) (oq2 : Nat) (kq1 : ClassId) (kq2 : ClassId) (nq : Nat) (qf : Nat → Int64) (ql : Nat → Int64) (ov1 : Nat) (kv1 : ClassId) (nv : Nat) (gv : Nat → Int64) (p0 : Int32) (p1 : Int32) (hn : nb ≤ 50) (hq : nq ≤ 50) (ht : zTop nq ql) (hv9 : nv < 512) : Met l yX6_next wsX6_next ({ frames := 3, cells := 0, slots := 0, locals := 75 }) (zPre D z [.ref oo, .int p0, .int p1] sz [(oo, .inr (6, [.ref ob, .ref oq, .ref ov, .ref on, .ref ot])), (ob, .inr (2, [.ref ob1, .ref ob2, .ref ob3, .ref ob4, .int (nI nb)])), (ob1, .inl (kb1, 50, .inl bo)), (ob2, .inl (kb2, 50, .inr (.inl bf))), (ob3, .inl (kb3, 50, .inr (.inl bl))), (ob4, .inl (kb4, 50, .inr (.inl br))), (oq, .inr (1, [.ref oq1, .ref oq2, .int (nI nq)])), (oq1, .inl (kq1, 50, .inr (.inl qf))), (oq2, .inl (kq2, 50, .inr (.inl ql))), (ov, .inr (3, [.ref ov1, .int (nI nv)])), (ov1, .inl (kv1, 512, .inr (.inl gv)))] [(kb1, .int), (kb2, .long), (kb3, .long), (kb4, .long), (kq1, .long), (kq2, .long), (kv1, .long)] (va_A [(oo, .inr (6, [.ref ob, .ref oq, .ref ov, .ref on, .ref ot])), (ob, .inr (2, [.ref ob1, .ref ob2, .ref ob3, .ref ob4, .int (nI nb)])), (ob1, .inl (kb1, 50, .inl bo)), (ob2, .inl (kb2, 50, .inr (.inl bf))), (ob3, .inl (kb3, 50, .inr (.inl bl))), (ob4, .inl (kb4, 50, .inr (.inl br))), (oq, .inr (1, [.ref oq1, .ref oq2, .int (nI nq)])), (oq1, .inl (kq1, 50, .inr (.inl qf))), (oq2, .inl (kq2, 50, .inr (.inl ql))), (ov, .inr (3, [.ref ov1, .int (nI nv)])), (ov1, .inl (kv1, 512, .inr (.inl gv)))] sz)) (va_Ql (fun (r : Int64) (u : (Nat → Int64) × Nat × (Nat → Int64)) => (¬ zOkN p0 p1 ∧ r = -102 ∧ u.1 = br ∧ u.2.1 = nv ∧ u.2.2 = gv) ∨ (zOkN p0 p1 ∧ ∃ x, zTake nq qf ql nb bo bl p0 br u.1 x ∧ ((x.toInt < 0 ∧ r = 0 ∧ u.2.1 = nv ∧ u.2.2 = gv) ∨ (0 ≤ x.toInt ∧ r = znum p1 x ∧ u.2.1 = nv + 1 ∧ u.2.2 = vp_updL gv nv (znum p1 x))))) (zAt D [(kb1, .int), (kb2, .long), (kb3, .long), (kb4, .long), (kq1, .long), (kq2, .long), (kv1, .long)] (va_A [(oo, .inr (6, [.ref ob, .ref oq, .ref ov, .ref on, .ref ot])), (ob, .inr (2, [.ref ob1, .ref ob2, .ref ob3, .ref ob4, .int (nI nb)])), (ob1, .inl (kb1, 50, .inl bo)), (ob2, .inl (kb2, 50, .inr (.inl bf))), (ob3, .inl (kb3, 50, .inr (.inl bl))), (ob4, .inl (kb4, 50, .inr (.inl br))), (oq, .inr (1, [.ref oq1, .ref oq2, .int (nI nq)])), (oq1, .inl (kq1, 50, .inr (.inl qf))), (oq2, .inl (kq2, 50, .inr (.inl ql))), (ov, .inr (3, [.ref ov1, .int (nI nv)])), (ov1, .inl (kv1, 512, .inr (.inl gv)))] sz) (fun u : (Nat → Int64) × Nat × (Nat → Int64) => [(oo, .inr (6, [.ref ob, .ref oq, .ref ov, .ref on, .ref ot])), (ob, .inr (2, [.ref ob1, .ref ob2, .ref ob3, .ref ob4, .int (nI nb)])), (ob1, .inl (kb1, 50, .inl bo)), (ob2, .inl (kb2, 50, .inr (.inl bf))), (ob3, .inl (kb3, 50, .inr (.inl bl))), (ob4, .inl (kb4, 50, .inr (.inl u.1))), (oq, .inr (1, [.ref oq1, .ref oq2, .int (nI nq)])), (oq1, .inl (kq1, 50, .inr (.inl qf))), (oq2, .inl (kq2, 50, .inr (.inl ql))), (ov, .inr (3, [.ref ov1, .int (nI u.2.1)])), (ov1, .inl (kv1, 512, .inr (.inl u.2.2)))])) (va_A [(oo, .inr (6, [.ref ob, .ref oq, .ref ov, .ref on, .ref ot])), (ob, .inr (2, [.ref ob1, .ref ob2, .ref ob3, .ref ob4, .int (nI nb)])), (ob1, .inl (kb1, 50, .inl bo)), (ob2, .inl (kb2, 50, .inr (.inl bf))), (ob3, .inl (kb3, 50, .inr (.inl bl))), (ob4, .inl (kb4, 50, .inr (.inl br))), (oq, .inr (1, [.ref oq1, .ref oq2, .int (nI nq)])), (oq1, .inl (kq1, 50, .inr (.inl qf))), (oq2, .inl (kq2, 50, .inr (.inl ql))), (ov, .inr (3, [.ref ov1, .int (nI nv)])), (ov1, .inl (kv1, 512, .inr (.inl gv)))] sz)) 0 0 (va_A [(oo, .inr (6, [.ref ob, .ref oq, .ref ov, .ref on, .ref ot])), (ob, .inr (2, [.ref ob1, .ref ob2, .ref ob3, .ref ob4, .int (nI nb)])), (ob1, .inl (kb1, 50, .inl bo)), (ob2, .inl (kb2, 50, .inr (.inl bf))), (ob3, .inl (kb3, 50, .inr (.inl bl))), (ob4, .inl (kb4, 50, .inr (.inl br))), (oq, .inr (1, [.ref oq1, .ref oq2, .int (nI nq)])), (oq1, .inl (kq1, 50, .inr (.inl qf))), (oq2, .inl (kq2, 50, .inr (.inl ql))), (ov, .inr (3, [.ref ov1, .int (nI nv)])), (ov1, .inl (kv1, 512, .inr (.inl gv)))] sz) := by
  refine Met.ofW (cc := cX6_next) (maxL := 7) (ret := (some .long)) (by decide) rfl ?_
  intro p e s m args below meth c s₁ B hml hv
  obtain ⟨rfl, hsz, hP, hK, hD, hC⟩ := hv
  have hx := B.exec
  have hb := B.bytes
  have hr := B.returns
  have hts := atoms_spec (ws := wsX6_next) B.pre
  have hown : s.vm.findClass RX6 = some m.cls := findClass_of_methodNamed B.named
  have hlocks := B.notSynchronized
  subst hsz
  have hD := hD.self (sz := s.heap.size)
  generalize hAe : va_A [(oo, .inr (6, [.ref ob, .ref oq, .ref ov, .ref on, .ref ot])), (ob, .inr (2, [.ref ob1, .ref ob2, .ref ob3, .ref ob4, .int (nI nb)])), (ob1, .inl (kb1, 50, .inl bo)), (ob2, .inl (kb2, 50, .inr (.inl bf))), (ob3, .inl (kb3, 50, .inr (.inl bl))), (ob4, .inl (kb4, 50, .inr (.inl br))), (oq, .inr (1, [.ref oq1, .ref oq2, .int (nI nq)])), (oq1, .inl (kq1, 50, .inr (.inl qf))), (oq2, .inl (kq2, 50, .inr (.inl ql))), (ov, .inr (3, [.ref ov1, .int (nI nv)])), (ov1, .inl (kv1, 512, .inr (.inl gv)))] s.heap.size = A at hC hD ⊢
  have hA : ∀ q : Nat, s.heap.size ≤ q → A q := fun q h => by rw [← hAe]; exact Or.inr h
  have hS : va_S A s.heap s.heap [] := va_S.rf
  have hP : va_P D vwCl [(oo, .inr (6, [.ref ob, .ref oq, .ref ov, .ref on, .ref ot])), (ob, .inr (2, [.ref ob1, .ref ob2, .ref ob3, .ref ob4, .int (nI nb)])), (ob1, .inl (kb1, 50, .inl bo)), (ob2, .inl (kb2, 50, .inr (.inl bf))), (ob3, .inl (kb3, 50, .inr (.inl bl))), (ob4, .inl (kb4, 50, .inr (.inl br))), (oq, .inr (1, [.ref oq1, .ref oq2, .int (nI nq)])), (oq1, .inl (kq1, 50, .inr (.inl qf))), (oq2, .inl (kq2, 50, .inr (.inl ql))), (ov, .inr (3, [.ref ov1, .int (nI nv)])), (ov1, .inl (kv1, 512, .inr (.inl gv)))] s.heap := hP
  have hl := lv_entry ([.ref oo, .int p0, .int p1]) (n := 7) (Nat.le_of_ble_eq_true rfl)
  rw [lg_entry_eq]
  generalize (lg_sl ([.ref oo, .int p0, .int p1]) ++ List.replicate (7 - (lg_sl ([.ref oo, .int p0, .int p1])).length) Slot.unset).toArray = ls at hl ⊢
  have hl : lv_has ls 7 [(0, .ref oo), (1, .int p0), (2, .int p1)] := hl
  refine zNameH (D := D) (A := A) (ws := [(oo, .inr (6, [.ref ob, .ref oq, .ref ov, .ref on, .ref ot])), (ob, .inr (2, [.ref ob1, .ref ob2, .ref ob3, .ref ob4, .int (nI nb)])), (ob1, .inl (kb1, 50, .inl bo)), (ob2, .inl (kb2, 50, .inr (.inl bf))), (ob3, .inl (kb3, 50, .inr (.inl bl))), (ob4, .inl (kb4, 50, .inr (.inl br))), (oq, .inr (1, [.ref oq1, .ref oq2, .int (nI nq)])), (oq1, .inl (kq1, 50, .inr (.inl qf))), (oq2, .inl (kq2, 50, .inr (.inl ql))), (ov, .inr (3, [.ref ov1, .int (nI nv)])), (ov1, .inl (kv1, 512, .inr (.inl gv)))]) (fun H locs hP hS => ?_) hP hS
  have k_0 := hts (.constantLong RX6 69 (-102)) (by decide +kernel)
  have k_1 := hts (.fieldLink RX6 26 "NumberRows2" "givenNumbers" "LNumberRows2$GivenNumbers;") (by decide +kernel)
  have k_2 : ∀ w ∈ wsX60, w ∈ wsX6_next := by decide +kernel
  have k_3 := hts (.fieldLink RX6 10 "NumberRows2" "blocks" "LNumberRows2$Blocks;") (by decide +kernel)
  have k_4 := hts (.fieldLink RX6 19 "NumberRows2" "barredRows" "LNumberRows2$BarredRows;") (by decide +kernel)
  refine lv_iload_n hx hb dX6_next_0 rfl (lv_at hl 1 rfl) ?_
  refine zRo_i (va_runS (As := [.int p0]) (rest := []) ⟨hx, hb, hml, hown, hts⟩ (cc_X6_isOffice l D z H.size p0 ) (va_cwS 1 hts gX6_next_X6_isOffice rfl rfl rfl (by decide +kernel) ⟨Nat.le_of_ble_eq_true rfl, Nat.le_of_ble_eq_true rfl⟩) ⟨zPre_blind, (zPre_mk (wc := []) (tc := []) hP hK hD hC hS [] (by decide) rfl rfl [] rfl (zro_free hS hA))⟩ rfl rfl hl.1 rfl (lv_room (Nat.le_of_ble_eq_true rfl)) dX6_next_1 ⟨Nat.zero_le _, Nat.zero_le _⟩) hS hA hP (fun r_1 H locs hw hP hS => ?_)
  have hw_1 : zB r_1 (0 ≤ p0.toInt ∧ p0.toInt < 100) := hw
  refine lv_if_eq (tgt := 14) hx hb dX6_next_4 (by decide) (fun c_4 => ?_) (fun c_4 => ?_)
  · have i_4 : r_1.toInt = 0 := zi_eq.mp c_4
    refine lv_ldc2 hx hb hown k_0 dX6_next_14 ?_
    exact W.lret (v := (-102)) hx hb hr (fun t9 ht9 hW9 => ⟨⟨_, (br, nv, gv), rfl, Or.inl ⟨fun q => zB_eq hw_1 c_4 q.1, rfl, rfl, rfl, rfl⟩, by rw [ht9]; exact hP, va_K.moved hW9.alike hK, hD⟩, hS.F ht9⟩) hS.2.2 dX6_next_17
  · have i_4 : ¬ (r_1.toInt = 0) := fun q9 => c_4 (zi_eq.mpr q9)
    refine lv_iload_n hx hb dX6_next_7 rfl (lv_at hl 2 rfl) ?_
    refine zRo_i (va_runS (As := [.int p1]) (rest := []) ⟨hx, hb, hml, hown, hts⟩ (cc_X6_isService l D z H.size p1 ) (va_cwS 1 hts gX6_next_X6_isService rfl rfl rfl (by decide +kernel) ⟨Nat.le_of_ble_eq_true rfl, Nat.le_of_ble_eq_true rfl⟩) ⟨zPre_blind, (zPre_mk (wc := []) (tc := []) hP hK hD hC hS [] (by decide) rfl rfl [] rfl (zro_free hS hA))⟩ rfl rfl hl.1 rfl (lv_room (Nat.le_of_ble_eq_true rfl)) dX6_next_8 ⟨Nat.zero_le _, Nat.zero_le _⟩) hS hA hP (fun r_8 H locs hw hP hS => ?_)
    have hw_8 : zB r_8 (0 ≤ p1.toInt ∧ p1.toInt < 10) := hw
    refine lv_if_ne (tgt := 18) hx hb dX6_next_11 (by decide) (fun c_11 => ?_) (fun c_11 => ?_)
    · have i_11 : ¬ (r_8.toInt = 0) := fun q9 => c_11 (zi_eq.mpr q9)
      refine lv_aload_n hx hb dX6_next_18 rfl (lv_at hl 0 rfl) ?_
      refine va_get (D := D) (ci := 6) (v := .ref ov) (C := RX6) (T := TX6) (N := 5) hx hb hts k_2 hown hK hP 0 rfl rfl 2 (by decide) k_1 (fun _ h9 => h9) rfl dX6_next_19 ?_
      refine zRo_i (va_runV (As := []) (rest := []) ⟨hx, hb, hml, hown, hts⟩ (cc_X3_isFull l D z H.size ov ov1 kv1 nv gv (by omega)) (cwV 0 hts gX6_next_X3_isFull rfl rfl rfl (by decide +kernel) ⟨Nat.le_of_ble_eq_true rfl, Nat.le_of_ble_eq_true rfl⟩) ⟨zPre_blind, va_recv hK hP (ci := 3) (q0 := 9) rfl rfl, (zPre_mk (wc := [(ov, .inr (3, [.ref ov1, .int (nI nv)])), (ov1, .inl (kv1, 512, .inr (.inl gv)))]) (tc := [(kv1, .long)]) hP hK hD hC hS [9, 10] (by decide) rfl rfl [6] rfl (zro_free hS hA))⟩ rfl rfl hl.1 rfl (lv_room (Nat.le_of_ble_eq_true rfl)) dX6_next_22 ⟨Nat.zero_le _, Nat.zero_le _⟩) hS hA hP (fun r_22 H locs hw hP hS => ?_)
      have hw_22 : zB r_22 (512 ≤ nv) := hw
      refine lv_if_eq (tgt := 32) hx hb dX6_next_25 (by decide) (fun c_25 => ?_) (fun c_25 => ?_)
      · have i_25 : r_22.toInt = 0 := zi_eq.mp c_25
        refine lv_aload_n hx hb dX6_next_32 rfl (lv_at hl 0 rfl) ?_
        refine va_get (D := D) (ci := 6) (v := .ref ob) (C := RX6) (T := TX6) (N := 5) hx hb hts k_2 hown hK hP 0 rfl rfl 0 (by decide) k_3 (fun _ h9 => h9) rfl dX6_next_33 ?_
        refine lv_iload_n hx hb dX6_next_36 rfl (lv_at hl 1 rfl) ?_
        refine lv_aload_n hx hb dX6_next_37 rfl (lv_at hl 0 rfl) ?_
        refine va_get (D := D) (ci := 6) (v := .ref oq) (C := RX6) (T := TX6) (N := 5) hx hb hts k_2 hown hK hP 0 rfl rfl 1 (by decide) k_4 (fun _ h9 => h9) rfl dX6_next_38 ?_
        refine zMu_l (wr := [(oo, .inr (6, [.ref ob, .ref oq, .ref ov, .ref on, .ref ot])), (ov, .inr (3, [.ref ov1, .int (nI nv)])), (ov1, .inl (kv1, 512, .inr (.inl gv)))]) (va_runV (As := [.int p0, .ref oq]) (rest := []) ⟨hx, hb, hml, hown, hts⟩ (cc_X1_takeSerial l D z H.size ob ob1 ob2 ob3 ob4 kb1 kb2 kb3 kb4 nb bo bf bl br oq oq1 oq2 kq1 kq2 nq qf ql p0 (by omega) (by omega) ht) (cwV 2 hts gX6_next_X1_takeSerial rfl rfl rfl (by decide +kernel) ⟨Nat.le_of_ble_eq_true rfl, Nat.le_of_ble_eq_true rfl⟩) ⟨zPre_blind, va_recv hK hP (ci := 2) (q0 := 1) rfl rfl, (zPre_mk (wc := [(ob, .inr (2, [.ref ob1, .ref ob2, .ref ob3, .ref ob4, .int (nI nb)])), (ob1, .inl (kb1, 50, .inl bo)), (ob2, .inl (kb2, 50, .inr (.inl bf))), (ob3, .inl (kb3, 50, .inr (.inl bl))), (ob4, .inl (kb4, 50, .inr (.inl br))), (oq, .inr (1, [.ref oq1, .ref oq2, .int (nI nq)])), (oq1, .inl (kq1, 50, .inr (.inl qf))), (oq2, .inl (kq2, 50, .inr (.inl ql)))]) (tc := [(kb1, .int), (kb2, .long), (kb3, .long), (kb4, .long), (kq1, .long), (kq2, .long)]) hP hK hD hC hS [1, 2, 3, 4, 5, 6, 7, 8] (by decide) rfl rfl [0, 1, 2, 3, 4, 5] rfl (va_free (wc := [(ob, .inr (2, [.ref ob1, .ref ob2, .ref ob3, .ref ob4, .int (nI nb)])), (ob1, .inl (kb1, 50, .inl bo)), (ob2, .inl (kb2, 50, .inr (.inl bf))), (ob3, .inl (kb3, 50, .inr (.inl bl))), (ob4, .inl (kb4, 50, .inr (.inl br))), (oq, .inr (1, [.ref oq1, .ref oq2, .int (nI nq)])), (oq1, .inl (kq1, 50, .inr (.inl qf))), (oq2, .inl (kq2, 50, .inr (.inl ql)))]) hD hS hA [1, 2, 3, 4, 5, 6, 7, 8] rfl))⟩ rfl rfl hl.1 rfl (lv_room (Nat.le_of_ble_eq_true rfl)) dX6_next_41 ⟨Nat.zero_le _, Nat.zero_le _⟩) hS hA hP hD [1, 2, 3, 4, 5, 6, 7, 8] [0, 9, 10] rfl rfl (by decide) (by decide) (fun r_41 u H locs hw hP hD hS => ?_)
        obtain ⟨ur_41, rfl⟩ : ∃ y9, y9 = u := ⟨_, rfl⟩
        have hw_41 : zTake nq qf ql nb bo bl p0 br ur_41 r_41 := hw
        have hP : va_P D vwCl [(oo, .inr (6, [.ref ob, .ref oq, .ref ov, .ref on, .ref ot])), (ov, .inr (3, [.ref ov1, .int (nI nv)])), (ov1, .inl (kv1, 512, .inr (.inl gv))), (ob, .inr (2, [.ref ob1, .ref ob2, .ref ob3, .ref ob4, .int (nI nb)])), (ob1, .inl (kb1, 50, .inl bo)), (ob2, .inl (kb2, 50, .inr (.inl bf))), (ob3, .inl (kb3, 50, .inr (.inl bl))), (ob4, .inl (kb4, 50, .inr (.inl ur_41))), (oq, .inr (1, [.ref oq1, .ref oq2, .int (nI nq)])), (oq1, .inl (kq1, 50, .inr (.inl qf))), (oq2, .inl (kq2, 50, .inr (.inl ql)))] H := hP
        have hD : va_D A [(oo, .inr (6, [.ref ob, .ref oq, .ref ov, .ref on, .ref ot])), (ov, .inr (3, [.ref ov1, .int (nI nv)])), (ov1, .inl (kv1, 512, .inr (.inl gv))), (ob, .inr (2, [.ref ob1, .ref ob2, .ref ob3, .ref ob4, .int (nI nb)])), (ob1, .inl (kb1, 50, .inl bo)), (ob2, .inl (kb2, 50, .inr (.inl bf))), (ob3, .inl (kb3, 50, .inr (.inl bl))), (ob4, .inl (kb4, 50, .inr (.inl ur_41))), (oq, .inr (1, [.ref oq1, .ref oq2, .int (nI nq)])), (oq1, .inl (kq1, 50, .inr (.inl qf))), (oq2, .inl (kq2, 50, .inr (.inl ql)))] := hD
        refine lv_lstore_n (lv' := [(3, .long r_41), (0, .ref oo), (1, .int p0), (2, .int p1)]) hx hb dX6_next_44 rfl hl (by decide) rfl (fun ls hl => ?_)
        refine lv_lload_n hx hb dX6_next_45 rfl (lv_at hl 0 rfl) ?_
        refine lv_lconst (v := 0) hx hb dX6_next_46 (by decide) ?_
        refine W.lcmp hx hb dX6_next_47 ?_
        refine lv_if_ge (tgt := 53) hx hb dX6_next_48 (by decide) (fun c_48 => ?_) (fun c_48 => ?_)
        · have c_48 : 0 ≤ r_41 := (lg_cmp_ge _ _).mp c_48
          have i_48 : 0 ≤ r_41.toInt := zl_le.mp c_48
          refine lv_iload_n hx hb dX6_next_53 rfl (lv_at hl 3 rfl) ?_
          refine lv_lload_n hx hb dX6_next_54 rfl (lv_at hl 0 rfl) ?_
          refine zRo_l (va_runS (As := [.int p1, .long r_41]) (rest := []) ⟨hx, hb, hml, hown, hts⟩ (cc_X6_numberOf l D z H.size p1 r_41 ) (va_cwS 2 hts gX6_next_X6_numberOf rfl rfl rfl (by decide +kernel) ⟨Nat.le_of_ble_eq_true rfl, Nat.le_of_ble_eq_true rfl⟩) ⟨zPre_blind, (zPre_mk (wc := []) (tc := []) hP hK hD hC hS [] (by decide) rfl rfl [] rfl (zro_free hS hA))⟩ rfl rfl hl.1 rfl (lv_room (Nat.le_of_ble_eq_true rfl)) dX6_next_55 ⟨Nat.zero_le _, Nat.zero_le _⟩) hS hA hP (fun r_55 H locs hw hP hS => ?_)
          have hw_55 : r_55 = znum p1 r_41 := hw
          refine lv_lstore (lv' := [(5, .long r_55), (3, .long r_41), (0, .ref oo), (1, .int p0), (2, .int p1)]) hx hb dX6_next_58 hl (by decide) rfl (fun ls hl => ?_)
          refine lv_aload_n hx hb dX6_next_60 rfl (lv_at hl 2 rfl) ?_
          refine va_get (D := D) (ci := 6) (v := .ref ov) (C := RX6) (T := TX6) (N := 5) hx hb hts k_2 hown hK hP 0 rfl rfl 2 (by decide) k_1 (fun _ h9 => h9) rfl dX6_next_61 ?_
          refine lv_lload hx hb dX6_next_64 (lv_at hl 0 rfl) ?_
          refine zMu_v (wr := [(oo, .inr (6, [.ref ob, .ref oq, .ref ov, .ref on, .ref ot])), (ob, .inr (2, [.ref ob1, .ref ob2, .ref ob3, .ref ob4, .int (nI nb)])), (ob1, .inl (kb1, 50, .inl bo)), (ob2, .inl (kb2, 50, .inr (.inl bf))), (ob3, .inl (kb3, 50, .inr (.inl bl))), (ob4, .inl (kb4, 50, .inr (.inl ur_41))), (oq, .inr (1, [.ref oq1, .ref oq2, .int (nI nq)])), (oq1, .inl (kq1, 50, .inr (.inl qf))), (oq2, .inl (kq2, 50, .inr (.inl ql)))]) (va_runV (As := [.long r_55]) (rest := []) ⟨hx, hb, hml, hown, hts⟩ (cc_X3_add l D z H.size ov ov1 kv1 nv gv r_55 (by omega)) (cwV 1 hts gX6_next_X3_add rfl rfl rfl (by decide +kernel) ⟨Nat.le_of_ble_eq_true rfl, Nat.le_of_ble_eq_true rfl⟩) ⟨zPre_blind, va_recv hK hP (ci := 3) (q0 := 1) rfl rfl, (zPre_mk (wc := [(ov, .inr (3, [.ref ov1, .int (nI nv)])), (ov1, .inl (kv1, 512, .inr (.inl gv)))]) (tc := [(kv1, .long)]) hP hK hD hC hS [1, 2] (by decide) rfl rfl [6] rfl (va_free (wc := [(ov, .inr (3, [.ref ov1, .int (nI nv)])), (ov1, .inl (kv1, 512, .inr (.inl gv)))]) hD hS hA [1, 2] rfl))⟩ rfl rfl hl.1 rfl (lv_room (Nat.le_of_ble_eq_true rfl)) dX6_next_66 ⟨Nat.zero_le _, Nat.zero_le _⟩) hS hA hP hD [1, 2] [0, 3, 4, 5, 6, 7, 8, 9, 10] rfl rfl (by decide) (by decide) (fun u H locs hw hP hD hS => ?_)
          obtain ⟨un_66, ug_66⟩ := u
          have hw_66 : un_66 = nv + 1 ∧ ug_66 = vp_updL gv nv r_55 := hw
          have hP : va_P D vwCl [(oo, .inr (6, [.ref ob, .ref oq, .ref ov, .ref on, .ref ot])), (ob, .inr (2, [.ref ob1, .ref ob2, .ref ob3, .ref ob4, .int (nI nb)])), (ob1, .inl (kb1, 50, .inl bo)), (ob2, .inl (kb2, 50, .inr (.inl bf))), (ob3, .inl (kb3, 50, .inr (.inl bl))), (ob4, .inl (kb4, 50, .inr (.inl ur_41))), (oq, .inr (1, [.ref oq1, .ref oq2, .int (nI nq)])), (oq1, .inl (kq1, 50, .inr (.inl qf))), (oq2, .inl (kq2, 50, .inr (.inl ql))), (ov, .inr (3, [.ref ov1, .int (nI un_66)])), (ov1, .inl (kv1, 512, .inr (.inl ug_66)))] H := hP
          have hD : va_D A [(oo, .inr (6, [.ref ob, .ref oq, .ref ov, .ref on, .ref ot])), (ob, .inr (2, [.ref ob1, .ref ob2, .ref ob3, .ref ob4, .int (nI nb)])), (ob1, .inl (kb1, 50, .inl bo)), (ob2, .inl (kb2, 50, .inr (.inl bf))), (ob3, .inl (kb3, 50, .inr (.inl bl))), (ob4, .inl (kb4, 50, .inr (.inl ur_41))), (oq, .inr (1, [.ref oq1, .ref oq2, .int (nI nq)])), (oq1, .inl (kq1, 50, .inr (.inl qf))), (oq2, .inl (kq2, 50, .inr (.inl ql))), (ov, .inr (3, [.ref ov1, .int (nI un_66)])), (ov1, .inl (kv1, 512, .inr (.inl ug_66)))] := hD
          refine lv_lload hx hb dX6_next_69 (lv_at hl 0 rfl) ?_
          exact W.lret (v := r_55) hx hb hr (fun t9 ht9 hW9 => ⟨⟨_, (ur_41, un_66, ug_66), rfl, Or.inr ⟨⟨zB_ne hw_1 c_4, zB_ne hw_8 c_11⟩, r_41, hw_41, Or.inr ⟨by omega, hw_55, hw_66.1, by rw [hw_66.2, hw_55]⟩⟩, by rw [ht9]; exact hP, va_K.moved hW9.alike hK, hD⟩, hS.F ht9⟩) hS.2.2 dX6_next_71
        · have c_48 : ¬ (0 ≤ r_41) := fun q9 => c_48 ((lg_cmp_ge _ _).mpr q9)
          have i_48 : ¬ (0 ≤ r_41.toInt) := fun q9 => c_48 (zl_le.mpr q9)
          refine lv_lconst (v := 0) hx hb dX6_next_51 (by decide) ?_
          exact W.lret (v := 0) hx hb hr (fun t9 ht9 hW9 => ⟨⟨_, (ur_41, nv, gv), rfl, Or.inr ⟨⟨zB_ne hw_1 c_4, zB_ne hw_8 c_11⟩, r_41, hw_41, Or.inl ⟨by omega, rfl, rfl, rfl⟩⟩, by rw [ht9]; exact hP.sub [0, 3, 4, 5, 6, 7, 8, 9, 10, 1, 2] rfl, va_K.moved hW9.alike hK, hD.sub [0, 3, 4, 5, 6, 7, 8, 9, 10, 1, 2] (by decide) rfl⟩, hS.F ht9⟩) hS.2.2 dX6_next_52
      · have i_25 : ¬ (r_22.toInt = 0) := fun q9 => c_25 (zi_eq.mpr q9)
        exact absurd (zB_ne hw_22 c_25) (by omega)
    · have i_11 : r_8.toInt = 0 := zi_eq.mp c_11
      refine lv_ldc2 hx hb hown k_0 dX6_next_14 ?_
      exact W.lret (v := (-102)) hx hb hr (fun t9 ht9 hW9 => ⟨⟨_, (br, nv, gv), rfl, Or.inl ⟨fun q => zB_eq hw_8 c_11 q.2, rfl, rfl, rfl, rfl⟩, by rw [ht9]; exact hP, va_K.moved hW9.alike hK, hD⟩, hS.F ht9⟩) hS.2.2 dX6_next_17

set_option maxHeartbeats 4000000 in
set_option maxRecDepth 100000 in
theorem cc_X6_type (l : Launch) (D : va_G) (z : zG) (sz : Nat) (oo : Nat) (ob : Nat) (oq : Nat) (ov : Nat) (on : Nat) (ot : Nat) (ot1 : Nat) (kt1 : ClassId) (nt : Nat) (ch : Nat → Int32) (p0 : Int32) (hn : nt ≤ 60) : Met l yX6_type wsX6_type ({ frames := 1, cells := 0, slots := 0, locals := 21 }) (zPre D z [.ref oo, .int p0] sz [(oo, .inr (6, [.ref ob, .ref oq, .ref ov, .ref on, .ref ot])), (ot, .inr (5, [.ref ot1, .int (nI nt)])), (ot1, .inl (kt1, 60, .inl ch))] [(kt1, .int)] (va_A [(oo, .inr (6, [.ref ob, .ref oq, .ref ov, .ref on, .ref ot])), (ot, .inr (5, [.ref ot1, .int (nI nt)])), (ot1, .inl (kt1, 60, .inl ch))] sz)) (va_Qv (fun u : Nat × (Nat → Int32) => (nt < 60 → u.1 = nt + 1 ∧ u.2 = upd ch nt p0) ∧ (¬ nt < 60 → u.1 = nt ∧ u.2 = ch)) (zAt D [(kt1, .int)] (va_A [(oo, .inr (6, [.ref ob, .ref oq, .ref ov, .ref on, .ref ot])), (ot, .inr (5, [.ref ot1, .int (nI nt)])), (ot1, .inl (kt1, 60, .inl ch))] sz) (fun u : Nat × (Nat → Int32) => [(oo, .inr (6, [.ref ob, .ref oq, .ref ov, .ref on, .ref ot])), (ot, .inr (5, [.ref ot1, .int (nI u.1)])), (ot1, .inl (kt1, 60, .inl u.2))])) (va_A [(oo, .inr (6, [.ref ob, .ref oq, .ref ov, .ref on, .ref ot])), (ot, .inr (5, [.ref ot1, .int (nI nt)])), (ot1, .inl (kt1, 60, .inl ch))] sz)) 0 0 (va_A [(oo, .inr (6, [.ref ob, .ref oq, .ref ov, .ref on, .ref ot])), (ot, .inr (5, [.ref ot1, .int (nI nt)])), (ot1, .inl (kt1, 60, .inl ch))] sz) := by
  refine Met.ofW (cc := cX6_type) (maxL := 2) (ret := none) (by decide) rfl ?_
  intro p e s m args below meth c s₁ B hml hv
  obtain ⟨rfl, hsz, hP, hK, hD, hC⟩ := hv
  have hx := B.exec
  have hb := B.bytes
  have hr := B.returns
  have hts := atoms_spec (ws := wsX6_type) B.pre
  have hown : s.vm.findClass RX6 = some m.cls := findClass_of_methodNamed B.named
  have hlocks := B.notSynchronized
  subst hsz
  have hD := hD.self (sz := s.heap.size)
  generalize hAe : va_A [(oo, .inr (6, [.ref ob, .ref oq, .ref ov, .ref on, .ref ot])), (ot, .inr (5, [.ref ot1, .int (nI nt)])), (ot1, .inl (kt1, 60, .inl ch))] s.heap.size = A at hC hD ⊢
  have hA : ∀ q : Nat, s.heap.size ≤ q → A q := fun q h => by rw [← hAe]; exact Or.inr h
  have hS : va_S A s.heap s.heap [] := va_S.rf
  have hP : va_P D vwCl [(oo, .inr (6, [.ref ob, .ref oq, .ref ov, .ref on, .ref ot])), (ot, .inr (5, [.ref ot1, .int (nI nt)])), (ot1, .inl (kt1, 60, .inl ch))] s.heap := hP
  have hl := lv_entry ([.ref oo, .int p0]) (n := 2) (Nat.le_of_ble_eq_true rfl)
  rw [lg_entry_eq]
  generalize (lg_sl ([.ref oo, .int p0]) ++ List.replicate (2 - (lg_sl ([.ref oo, .int p0])).length) Slot.unset).toArray = ls at hl ⊢
  have hl : lv_has ls 2 [(0, .ref oo), (1, .int p0)] := hl
  refine zNameH (D := D) (A := A) (ws := [(oo, .inr (6, [.ref ob, .ref oq, .ref ov, .ref on, .ref ot])), (ot, .inr (5, [.ref ot1, .int (nI nt)])), (ot1, .inl (kt1, 60, .inl ch))]) (fun H locs hP hS => ?_) hP hS
  have k_0 := hts (.fieldLink RX6 40 "NumberRows2" "typedText" "LNumberRows2$TypedText;") (by decide +kernel)
  have k_1 : ∀ w ∈ wsX60, w ∈ wsX6_type := by decide +kernel
  refine lv_aload_n hx hb dX6_type_0 rfl (lv_at hl 0 rfl) ?_
  refine va_get (D := D) (ci := 6) (v := .ref ot) (C := RX6) (T := TX6) (N := 5) hx hb hts k_1 hown hK hP 0 rfl rfl 4 (by decide) k_0 (fun _ h9 => h9) rfl dX6_type_1 ?_
  refine lv_iload_n hx hb dX6_type_4 rfl (lv_at hl 1 rfl) ?_
  refine zMu_v (wr := [(oo, .inr (6, [.ref ob, .ref oq, .ref ov, .ref on, .ref ot]))]) (va_runV (As := [.int p0]) (rest := []) ⟨hx, hb, hml, hown, hts⟩ (cc_X5_add l D z H.size ot ot1 kt1 nt ch p0 (by omega)) (cwV 1 hts gX6_type_X5_add rfl rfl rfl (by decide +kernel) ⟨Nat.le_of_ble_eq_true rfl, Nat.le_of_ble_eq_true rfl⟩) ⟨zPre_blind, va_recv hK hP (ci := 5) (q0 := 1) rfl rfl, (zPre_mk (wc := [(ot, .inr (5, [.ref ot1, .int (nI nt)])), (ot1, .inl (kt1, 60, .inl ch))]) (tc := [(kt1, .int)]) hP hK hD hC hS [1, 2] (by decide) rfl rfl [0] rfl (va_free (wc := [(ot, .inr (5, [.ref ot1, .int (nI nt)])), (ot1, .inl (kt1, 60, .inl ch))]) hD hS hA [1, 2] rfl))⟩ rfl rfl hl.1 rfl (lv_room (Nat.le_of_ble_eq_true rfl)) dX6_type_5 ⟨Nat.zero_le _, Nat.zero_le _⟩) hS hA hP hD [1, 2] [0] rfl rfl (by decide) (by decide) (fun u H locs hw hP hD hS => ?_)
  obtain ⟨un_5, uc_5⟩ := u
  have hw_5 : (nt < 60 → un_5 = nt + 1 ∧ uc_5 = upd ch nt p0) ∧ (¬ nt < 60 → un_5 = nt ∧ uc_5 = ch) := hw
  have hP : va_P D vwCl [(oo, .inr (6, [.ref ob, .ref oq, .ref ov, .ref on, .ref ot])), (ot, .inr (5, [.ref ot1, .int (nI un_5)])), (ot1, .inl (kt1, 60, .inl uc_5))] H := hP
  have hD : va_D A [(oo, .inr (6, [.ref ob, .ref oq, .ref ov, .ref on, .ref ot])), (ot, .inr (5, [.ref ot1, .int (nI un_5)])), (ot1, .inl (kt1, 60, .inl uc_5))] := hD
  exact W.vret hx hb hr (fun t9 ht9 hW9 => ⟨⟨(un_5, uc_5), rfl, hw_5, by rw [ht9]; exact hP, va_K.moved hW9.alike hK, hD⟩, hS.F ht9⟩) hS.2.2 dX6_type_8

set_option maxHeartbeats 4000000 in
set_option maxRecDepth 100000 in
theorem cc_X6_read (l : Launch) (D : va_G) (z : zG) (sz : Nat) (oo : Nat) (ob : Nat) (oq : Nat) (ov : Nat) (on : Nat) (ot : Nat) (ot1 : Nat) (kt1 : ClassId) (nt : Nat) (ch : Nat → Int32) (hn : nt ≤ 60) : Met l yX6_read wsX6_read ({ frames := 6, cells := 0, slots := 0, locals := 133 }) (zPre D z [.ref oo] sz [(oo, .inr (6, [.ref ob, .ref oq, .ref ov, .ref on, .ref ot])), (ot, .inr (5, [.ref ot1, .int (nI nt)])), (ot1, .inl (kt1, 60, .inl ch))] [(kt1, .int)] (va_A [(oo, .inr (6, [.ref ob, .ref oq, .ref ov, .ref on, .ref ot])), (ot, .inr (5, [.ref ot1, .int (nI nt)])), (ot1, .inl (kt1, 60, .inl ch))] sz)) (va_Ql (fun (r : Int64) (u : Unit) => zPar ch nt r) (zAt D [(kt1, .int)] (va_A [(oo, .inr (6, [.ref ob, .ref oq, .ref ov, .ref on, .ref ot])), (ot, .inr (5, [.ref ot1, .int (nI nt)])), (ot1, .inl (kt1, 60, .inl ch))] sz) (fun u : Unit => [(oo, .inr (6, [.ref ob, .ref oq, .ref ov, .ref on, .ref ot])), (ot, .inr (5, [.ref ot1, .int (nI 0)])), (ot1, .inl (kt1, 60, .inl ch))])) (va_A [(oo, .inr (6, [.ref ob, .ref oq, .ref ov, .ref on, .ref ot])), (ot, .inr (5, [.ref ot1, .int (nI nt)])), (ot1, .inl (kt1, 60, .inl ch))] sz)) 0 0 (va_A [(oo, .inr (6, [.ref ob, .ref oq, .ref ov, .ref on, .ref ot])), (ot, .inr (5, [.ref ot1, .int (nI nt)])), (ot1, .inl (kt1, 60, .inl ch))] sz) := by
  refine Met.ofW (cc := cX6_read) (maxL := 3) (ret := (some .long)) (by decide) rfl ?_
  intro p e s m args below meth c s₁ B hml hv
  obtain ⟨rfl, hsz, hP, hK, hD, hC⟩ := hv
  have hx := B.exec
  have hb := B.bytes
  have hr := B.returns
  have hts := atoms_spec (ws := wsX6_read) B.pre
  have hown : s.vm.findClass RX6 = some m.cls := findClass_of_methodNamed B.named
  have hlocks := B.notSynchronized
  subst hsz
  have hD := hD.self (sz := s.heap.size)
  generalize hAe : va_A [(oo, .inr (6, [.ref ob, .ref oq, .ref ov, .ref on, .ref ot])), (ot, .inr (5, [.ref ot1, .int (nI nt)])), (ot1, .inl (kt1, 60, .inl ch))] s.heap.size = A at hC hD ⊢
  have hA : ∀ q : Nat, s.heap.size ≤ q → A q := fun q h => by rw [← hAe]; exact Or.inr h
  have hS : va_S A s.heap s.heap [] := va_S.rf
  have hP : va_P D vwCl [(oo, .inr (6, [.ref ob, .ref oq, .ref ov, .ref on, .ref ot])), (ot, .inr (5, [.ref ot1, .int (nI nt)])), (ot1, .inl (kt1, 60, .inl ch))] s.heap := hP
  have hl := lv_entry ([.ref oo]) (n := 3) (Nat.le_of_ble_eq_true rfl)
  rw [lg_entry_eq]
  generalize (lg_sl ([.ref oo]) ++ List.replicate (3 - (lg_sl ([.ref oo])).length) Slot.unset).toArray = ls at hl ⊢
  have hl : lv_has ls 3 [(0, .ref oo)] := hl
  refine zNameH (D := D) (A := A) (ws := [(oo, .inr (6, [.ref ob, .ref oq, .ref ov, .ref on, .ref ot])), (ot, .inr (5, [.ref ot1, .int (nI nt)])), (ot1, .inl (kt1, 60, .inl ch))]) (fun H locs hP hS => ?_) hP hS
  have k_0 := hts (.fieldLink RX6 40 "NumberRows2" "typedText" "LNumberRows2$TypedText;") (by decide +kernel)
  have k_1 : ∀ w ∈ wsX60, w ∈ wsX6_read := by decide +kernel
  refine lv_aload_n hx hb dX6_read_0 rfl (lv_at hl 0 rfl) ?_
  refine va_get (D := D) (ci := 6) (v := .ref ot) (C := RX6) (T := TX6) (N := 5) hx hb hts k_1 hown hK hP 0 rfl rfl 4 (by decide) k_0 (fun _ h9 => h9) rfl dX6_read_1 ?_
  refine zRo_l (va_runV (As := []) (rest := []) ⟨hx, hb, hml, hown, hts⟩ (cc_X5_parse l D z H.size ot ot1 kt1 nt ch (by omega)) (cwV 0 hts gX6_read_X5_parse rfl rfl rfl (by decide +kernel) ⟨Nat.le_of_ble_eq_true rfl, Nat.le_of_ble_eq_true rfl⟩) ⟨zPre_blind, va_recv hK hP (ci := 5) (q0 := 1) rfl rfl, (zPre_mk (wc := [(ot, .inr (5, [.ref ot1, .int (nI nt)])), (ot1, .inl (kt1, 60, .inl ch))]) (tc := [(kt1, .int)]) hP hK hD hC hS [1, 2] (by decide) rfl rfl [0] rfl (zro_free hS hA))⟩ rfl rfl hl.1 rfl (lv_room (Nat.le_of_ble_eq_true rfl)) dX6_read_4 ⟨Nat.zero_le _, Nat.zero_le _⟩) hS hA hP (fun r_4 H locs hw hP hS => ?_)
  have hw_4 : zPar ch nt r_4 := hw
  refine lv_lstore_n (lv' := [(1, .long r_4), (0, .ref oo)]) hx hb dX6_read_7 rfl hl (by decide) rfl (fun ls hl => ?_)
  refine lv_aload_n hx hb dX6_read_8 rfl (lv_at hl 1 rfl) ?_
  refine va_get (D := D) (ci := 6) (v := .ref ot) (C := RX6) (T := TX6) (N := 5) hx hb hts k_1 hown hK hP 0 rfl rfl 4 (by decide) k_0 (fun _ h9 => h9) rfl dX6_read_9 ?_
  refine zMu_v (wr := [(oo, .inr (6, [.ref ob, .ref oq, .ref ov, .ref on, .ref ot]))]) (va_runV (As := []) (rest := []) ⟨hx, hb, hml, hown, hts⟩ (cc_X5_clear l D z H.size ot ot1 kt1 nt ch (by omega)) (cwV 0 hts gX6_read_X5_clear rfl rfl rfl (by decide +kernel) ⟨Nat.le_of_ble_eq_true rfl, Nat.le_of_ble_eq_true rfl⟩) ⟨zPre_blind, va_recv hK hP (ci := 5) (q0 := 1) rfl rfl, (zPre_mk (wc := [(ot, .inr (5, [.ref ot1, .int (nI nt)])), (ot1, .inl (kt1, 60, .inl ch))]) (tc := [(kt1, .int)]) hP hK hD hC hS [1, 2] (by decide) rfl rfl [0] rfl (va_free (wc := [(ot, .inr (5, [.ref ot1, .int (nI nt)])), (ot1, .inl (kt1, 60, .inl ch))]) hD hS hA [1, 2] rfl))⟩ rfl rfl hl.1 rfl (lv_room (Nat.le_of_ble_eq_true rfl)) dX6_read_12 ⟨Nat.zero_le _, Nat.zero_le _⟩) hS hA hP hD [1, 2] [0] rfl rfl (by decide) (by decide) (fun u H locs hw hP hD hS => ?_)
  have hw_12 : True := hw
  have hP : va_P D vwCl [(oo, .inr (6, [.ref ob, .ref oq, .ref ov, .ref on, .ref ot])), (ot, .inr (5, [.ref ot1, .int (nI 0)])), (ot1, .inl (kt1, 60, .inl ch))] H := hP
  have hD : va_D A [(oo, .inr (6, [.ref ob, .ref oq, .ref ov, .ref on, .ref ot])), (ot, .inr (5, [.ref ot1, .int (nI 0)])), (ot1, .inl (kt1, 60, .inl ch))] := hD
  refine lv_lload_n hx hb dX6_read_15 rfl (lv_at hl 0 rfl) ?_
  exact W.lret (v := r_4) hx hb hr (fun t9 ht9 hW9 => ⟨⟨_, (), rfl, hw_4, by rw [ht9]; exact hP, va_K.moved hW9.alike hK, hD⟩, hS.F ht9⟩) hS.2.2 dX6_read_16

set_option maxHeartbeats 4000000 in
set_option maxRecDepth 100000 in
theorem cc_X6_bar (l : Launch) (D : va_G) (z : zG) (sz : Nat) (oo : Nat) (ob : Nat) (oq : Nat) (ov : Nat) (on : Nat) (ot : Nat) (oq1 : Nat) (oq2 : Nat) (kq1 : ClassId) (kq2 : ClassId) (nq : Nat) (qf : Nat → Int64) (ql : Nat → Int64) (ov1 : Nat) (kv1 : ClassId) (nv : Nat) (gv : Nat → Int64) (p0 : Int64) (p1 : Int64) (hq : nq ≤ 50) (hv9 : nv ≤ 512) : Met l yX6_bar wsX6_bar ({ frames := 2, cells := 0, slots := 0, locals := 49 }) (zPre D z [.ref oo, .long p0, .long p1] sz [(oo, .inr (6, [.ref ob, .ref oq, .ref ov, .ref on, .ref ot])), (oq, .inr (1, [.ref oq1, .ref oq2, .int (nI nq)])), (oq1, .inl (kq1, 50, .inr (.inl qf))), (oq2, .inl (kq2, 50, .inr (.inl ql))), (ov, .inr (3, [.ref ov1, .int (nI nv)])), (ov1, .inl (kv1, 512, .inr (.inl gv)))] [(kq1, .long), (kq2, .long), (kv1, .long)] (va_A [(oo, .inr (6, [.ref ob, .ref oq, .ref ov, .ref on, .ref ot])), (oq, .inr (1, [.ref oq1, .ref oq2, .int (nI nq)])), (oq1, .inl (kq1, 50, .inr (.inl qf))), (oq2, .inl (kq2, 50, .inr (.inl ql))), (ov, .inr (3, [.ref ov1, .int (nI nv)])), (ov1, .inl (kv1, 512, .inr (.inl gv)))] sz)) (va_Qi (fun (r : Int32) (u : Nat × (Nat → Int64) × (Nat → Int64) × Nat × (Nat → Int64)) => (¬ zOkR p0 p1 ∧ r = -102 ∧ u.1 = nq ∧ u.2.1 = qf ∧ u.2.2.1 = ql ∧ u.2.2.2.1 = nv ∧ u.2.2.2.2 = gv) ∨ (zOkR p0 p1 ∧ 50 ≤ nq ∧ r = -104 ∧ u.1 = nq ∧ u.2.1 = qf ∧ u.2.2.1 = ql ∧ u.2.2.2.1 = nv ∧ u.2.2.2.2 = gv) ∨ (zOkR p0 p1 ∧ nq < 50 ∧ (u.1 = nq + 1 ∧ u.2.1 = vp_updL qf nq p0 ∧ u.2.2.1 = vp_updL ql nq p1) ∧ zRow p0 p1 nv gv u.2.2.2.1 u.2.2.2.2 ∧ r = nI (nv - u.2.2.2.1))) (zAt D [(kq1, .long), (kq2, .long), (kv1, .long)] (va_A [(oo, .inr (6, [.ref ob, .ref oq, .ref ov, .ref on, .ref ot])), (oq, .inr (1, [.ref oq1, .ref oq2, .int (nI nq)])), (oq1, .inl (kq1, 50, .inr (.inl qf))), (oq2, .inl (kq2, 50, .inr (.inl ql))), (ov, .inr (3, [.ref ov1, .int (nI nv)])), (ov1, .inl (kv1, 512, .inr (.inl gv)))] sz) (fun u : Nat × (Nat → Int64) × (Nat → Int64) × Nat × (Nat → Int64) => [(oo, .inr (6, [.ref ob, .ref oq, .ref ov, .ref on, .ref ot])), (oq, .inr (1, [.ref oq1, .ref oq2, .int (nI u.1)])), (oq1, .inl (kq1, 50, .inr (.inl u.2.1))), (oq2, .inl (kq2, 50, .inr (.inl u.2.2.1))), (ov, .inr (3, [.ref ov1, .int (nI u.2.2.2.1)])), (ov1, .inl (kv1, 512, .inr (.inl u.2.2.2.2)))])) (va_A [(oo, .inr (6, [.ref ob, .ref oq, .ref ov, .ref on, .ref ot])), (oq, .inr (1, [.ref oq1, .ref oq2, .int (nI nq)])), (oq1, .inl (kq1, 50, .inr (.inl qf))), (oq2, .inl (kq2, 50, .inr (.inl ql))), (ov, .inr (3, [.ref ov1, .int (nI nv)])), (ov1, .inl (kv1, 512, .inr (.inl gv)))] sz)) 0 0 (va_A [(oo, .inr (6, [.ref ob, .ref oq, .ref ov, .ref on, .ref ot])), (oq, .inr (1, [.ref oq1, .ref oq2, .int (nI nq)])), (oq1, .inl (kq1, 50, .inr (.inl qf))), (oq2, .inl (kq2, 50, .inr (.inl ql))), (ov, .inr (3, [.ref ov1, .int (nI nv)])), (ov1, .inl (kv1, 512, .inr (.inl gv)))] sz) := by
  refine Met.ofW (cc := cX6_bar) (maxL := 5) (ret := (some .int)) (by decide) rfl ?_
  intro p e s m args below meth c s₁ B hml hv
  obtain ⟨rfl, hsz, hP, hK, hD, hC⟩ := hv
  have hx := B.exec
  have hb := B.bytes
  have hr := B.returns
  have hts := atoms_spec (ws := wsX6_bar) B.pre
  have hown : s.vm.findClass RX6 = some m.cls := findClass_of_methodNamed B.named
  have hlocks := B.notSynchronized
  subst hsz
  have hD := hD.self (sz := s.heap.size)
  generalize hAe : va_A [(oo, .inr (6, [.ref ob, .ref oq, .ref ov, .ref on, .ref ot])), (oq, .inr (1, [.ref oq1, .ref oq2, .int (nI nq)])), (oq1, .inl (kq1, 50, .inr (.inl qf))), (oq2, .inl (kq2, 50, .inr (.inl ql))), (ov, .inr (3, [.ref ov1, .int (nI nv)])), (ov1, .inl (kv1, 512, .inr (.inl gv)))] s.heap.size = A at hC hD ⊢
  have hA : ∀ q : Nat, s.heap.size ≤ q → A q := fun q h => by rw [← hAe]; exact Or.inr h
  have hS : va_S A s.heap s.heap [] := va_S.rf
  have hP : va_P D vwCl [(oo, .inr (6, [.ref ob, .ref oq, .ref ov, .ref on, .ref ot])), (oq, .inr (1, [.ref oq1, .ref oq2, .int (nI nq)])), (oq1, .inl (kq1, 50, .inr (.inl qf))), (oq2, .inl (kq2, 50, .inr (.inl ql))), (ov, .inr (3, [.ref ov1, .int (nI nv)])), (ov1, .inl (kv1, 512, .inr (.inl gv)))] s.heap := hP
  have hl := lv_entry ([.ref oo, .long p0, .long p1]) (n := 5) (Nat.le_of_ble_eq_true rfl)
  rw [lg_entry_eq]
  generalize (lg_sl ([.ref oo, .long p0, .long p1]) ++ List.replicate (5 - (lg_sl ([.ref oo, .long p0, .long p1])).length) Slot.unset).toArray = ls at hl ⊢
  have hl : lv_has ls 5 [(0, .ref oo), (1, .long p0), (3, .long p1)] := hl
  refine zNameH (D := D) (A := A) (ws := [(oo, .inr (6, [.ref ob, .ref oq, .ref ov, .ref on, .ref ot])), (oq, .inr (1, [.ref oq1, .ref oq2, .int (nI nq)])), (oq1, .inl (kq1, 50, .inr (.inl qf))), (oq2, .inl (kq2, 50, .inr (.inl ql))), (ov, .inr (3, [.ref ov1, .int (nI nv)])), (ov1, .inl (kv1, 512, .inr (.inl gv)))]) (fun H locs hP hS => ?_) hP hS
  have k_0 := hts (.constantLong RX6 116 (27512614111)) (by decide +kernel)
  have k_1 := hts (.fieldLink RX6 19 "NumberRows2" "barredRows" "LNumberRows2$BarredRows;") (by decide +kernel)
  have k_2 : ∀ w ∈ wsX60, w ∈ wsX6_bar := by decide +kernel
  have k_3 := hts (.fieldLink RX6 26 "NumberRows2" "givenNumbers" "LNumberRows2$GivenNumbers;") (by decide +kernel)
  refine lv_lload_n hx hb dX6_bar_0 rfl (lv_at hl 1 rfl) ?_
  refine lv_lload_n hx hb dX6_bar_1 rfl (lv_at hl 2 rfl) ?_
  refine lv_ldc2 hx hb hown k_0 dX6_bar_2 ?_
  refine zRo_i (va_runS (As := [.long p0, .long p1, .long 27512614111]) (rest := []) ⟨hx, hb, hml, hown, hts⟩ (cc_X6_isRowBelow l D z H.size p0 p1 (27512614111 : Int64) ) (va_cwS 3 hts gX6_bar_X6_isRowBelow rfl rfl rfl (by decide +kernel) ⟨Nat.le_of_ble_eq_true rfl, Nat.le_of_ble_eq_true rfl⟩) ⟨zPre_blind, (zPre_mk (wc := []) (tc := []) hP hK hD hC hS [] (by decide) rfl rfl [] rfl (zro_free hS hA))⟩ rfl rfl hl.1 rfl (lv_room (Nat.le_of_ble_eq_true rfl)) dX6_bar_5 ⟨Nat.zero_le _, Nat.zero_le _⟩) hS hA hP (fun r_5 H locs hw hP hS => ?_)
  have hw_5 : zB r_5 (0 ≤ p0.toInt ∧ p0.toInt ≤ p1.toInt ∧ p1.toInt < 27512614111) := hw
  refine lv_if_ne (tgt := 14) hx hb dX6_bar_8 (by decide) (fun c_8 => ?_) (fun c_8 => ?_)
  · have i_8 : ¬ (r_5.toInt = 0) := fun q9 => c_8 (zi_eq.mpr q9)
    refine lv_aload_n hx hb dX6_bar_14 rfl (lv_at hl 0 rfl) ?_
    refine va_get (D := D) (ci := 6) (v := .ref oq) (C := RX6) (T := TX6) (N := 5) hx hb hts k_2 hown hK hP 0 rfl rfl 1 (by decide) k_1 (fun _ h9 => h9) rfl dX6_bar_15 ?_
    refine zRo_i (va_runV (As := []) (rest := []) ⟨hx, hb, hml, hown, hts⟩ (cc_X0_isFull l D z H.size oq oq1 oq2 kq1 kq2 nq qf ql (by omega)) (cwV 0 hts gX6_bar_X0_isFull rfl rfl rfl (by decide +kernel) ⟨Nat.le_of_ble_eq_true rfl, Nat.le_of_ble_eq_true rfl⟩) ⟨zPre_blind, va_recv hK hP (ci := 1) (q0 := 1) rfl rfl, (zPre_mk (wc := [(oq, .inr (1, [.ref oq1, .ref oq2, .int (nI nq)])), (oq1, .inl (kq1, 50, .inr (.inl qf))), (oq2, .inl (kq2, 50, .inr (.inl ql)))]) (tc := [(kq1, .long), (kq2, .long)]) hP hK hD hC hS [1, 2, 3] (by decide) rfl rfl [0, 1] rfl (zro_free hS hA))⟩ rfl rfl hl.1 rfl (lv_room (Nat.le_of_ble_eq_true rfl)) dX6_bar_18 ⟨Nat.zero_le _, Nat.zero_le _⟩) hS hA hP (fun r_18 H locs hw hP hS => ?_)
    have hw_18 : zB r_18 (50 ≤ nq) := hw
    refine lv_if_eq (tgt := 27) hx hb dX6_bar_21 (by decide) (fun c_21 => ?_) (fun c_21 => ?_)
    · have i_21 : r_18.toInt = 0 := zi_eq.mp c_21
      have hf := zB_eq hw_18 c_21
      refine lv_aload_n hx hb dX6_bar_27 rfl (lv_at hl 0 rfl) ?_
      refine va_get (D := D) (ci := 6) (v := .ref oq) (C := RX6) (T := TX6) (N := 5) hx hb hts k_2 hown hK hP 0 rfl rfl 1 (by decide) k_1 (fun _ h9 => h9) rfl dX6_bar_28 ?_
      refine lv_lload_n hx hb dX6_bar_31 rfl (lv_at hl 1 rfl) ?_
      refine lv_lload_n hx hb dX6_bar_32 rfl (lv_at hl 2 rfl) ?_
      refine zMu_v (wr := [(oo, .inr (6, [.ref ob, .ref oq, .ref ov, .ref on, .ref ot])), (ov, .inr (3, [.ref ov1, .int (nI nv)])), (ov1, .inl (kv1, 512, .inr (.inl gv)))]) (va_runV (As := [.long p0, .long p1]) (rest := []) ⟨hx, hb, hml, hown, hts⟩ (cc_X0_add l D z H.size oq oq1 oq2 kq1 kq2 nq qf ql p0 p1 (by omega)) (cwV 2 hts gX6_bar_X0_add rfl rfl rfl (by decide +kernel) ⟨Nat.le_of_ble_eq_true rfl, Nat.le_of_ble_eq_true rfl⟩) ⟨zPre_blind, va_recv hK hP (ci := 1) (q0 := 1) rfl rfl, (zPre_mk (wc := [(oq, .inr (1, [.ref oq1, .ref oq2, .int (nI nq)])), (oq1, .inl (kq1, 50, .inr (.inl qf))), (oq2, .inl (kq2, 50, .inr (.inl ql)))]) (tc := [(kq1, .long), (kq2, .long)]) hP hK hD hC hS [1, 2, 3] (by decide) rfl rfl [0, 1] rfl (va_free (wc := [(oq, .inr (1, [.ref oq1, .ref oq2, .int (nI nq)])), (oq1, .inl (kq1, 50, .inr (.inl qf))), (oq2, .inl (kq2, 50, .inr (.inl ql)))]) hD hS hA [1, 2, 3] rfl))⟩ rfl rfl hl.1 rfl (lv_room (Nat.le_of_ble_eq_true rfl)) dX6_bar_33 ⟨Nat.zero_le _, Nat.zero_le _⟩) hS hA hP hD [1, 2, 3] [0, 4, 5] rfl rfl (by decide) (by decide) (fun u H locs hw hP hD hS => ?_)
      obtain ⟨nn_33, b1_33, b2_33⟩ := u
      have hw_33 : nn_33 = nq + 1 ∧ b1_33 = vp_updL qf nq p0 ∧ b2_33 = vp_updL ql nq p1 := hw
      have hP : va_P D vwCl [(oo, .inr (6, [.ref ob, .ref oq, .ref ov, .ref on, .ref ot])), (ov, .inr (3, [.ref ov1, .int (nI nv)])), (ov1, .inl (kv1, 512, .inr (.inl gv))), (oq, .inr (1, [.ref oq1, .ref oq2, .int (nI nn_33)])), (oq1, .inl (kq1, 50, .inr (.inl b1_33))), (oq2, .inl (kq2, 50, .inr (.inl b2_33)))] H := hP
      have hD : va_D A [(oo, .inr (6, [.ref ob, .ref oq, .ref ov, .ref on, .ref ot])), (ov, .inr (3, [.ref ov1, .int (nI nv)])), (ov1, .inl (kv1, 512, .inr (.inl gv))), (oq, .inr (1, [.ref oq1, .ref oq2, .int (nI nn_33)])), (oq1, .inl (kq1, 50, .inr (.inl b1_33))), (oq2, .inl (kq2, 50, .inr (.inl b2_33)))] := hD
      refine lv_aload_n hx hb dX6_bar_36 rfl (lv_at hl 0 rfl) ?_
      refine va_get (D := D) (ci := 6) (v := .ref ov) (C := RX6) (T := TX6) (N := 5) hx hb hts k_2 hown hK hP 0 rfl rfl 2 (by decide) k_3 (fun _ h9 => h9) rfl dX6_bar_37 ?_
      refine lv_lload_n hx hb dX6_bar_40 rfl (lv_at hl 1 rfl) ?_
      refine lv_lload_n hx hb dX6_bar_41 rfl (lv_at hl 2 rfl) ?_
      refine zMu_i (wr := [(oo, .inr (6, [.ref ob, .ref oq, .ref ov, .ref on, .ref ot])), (oq, .inr (1, [.ref oq1, .ref oq2, .int (nI nn_33)])), (oq1, .inl (kq1, 50, .inr (.inl b1_33))), (oq2, .inl (kq2, 50, .inr (.inl b2_33)))]) (va_runV (As := [.long p0, .long p1]) (rest := []) ⟨hx, hb, hml, hown, hts⟩ (cc_X3_removeRow l D z H.size ov ov1 kv1 nv gv p0 p1 (by omega)) (cwV 2 hts gX6_bar_X3_removeRow rfl rfl rfl (by decide +kernel) ⟨Nat.le_of_ble_eq_true rfl, Nat.le_of_ble_eq_true rfl⟩) ⟨zPre_blind, va_recv hK hP (ci := 3) (q0 := 1) rfl rfl, (zPre_mk (wc := [(ov, .inr (3, [.ref ov1, .int (nI nv)])), (ov1, .inl (kv1, 512, .inr (.inl gv)))]) (tc := [(kv1, .long)]) hP hK hD hC hS [1, 2] (by decide) rfl rfl [2] rfl (va_free (wc := [(ov, .inr (3, [.ref ov1, .int (nI nv)])), (ov1, .inl (kv1, 512, .inr (.inl gv)))]) hD hS hA [1, 2] rfl))⟩ rfl rfl hl.1 rfl (lv_room (Nat.le_of_ble_eq_true rfl)) dX6_bar_42 ⟨Nat.zero_le _, Nat.zero_le _⟩) hS hA hP hD [1, 2] [0, 3, 4, 5] rfl rfl (by decide) (by decide) (fun r_42 u H locs hw hP hD hS => ?_)
      obtain ⟨un_42, ug_42⟩ := u
      have hw_42 : zRow p0 p1 nv gv un_42 ug_42 ∧ r_42 = nI (nv - un_42) := hw
      have hP : va_P D vwCl [(oo, .inr (6, [.ref ob, .ref oq, .ref ov, .ref on, .ref ot])), (oq, .inr (1, [.ref oq1, .ref oq2, .int (nI nn_33)])), (oq1, .inl (kq1, 50, .inr (.inl b1_33))), (oq2, .inl (kq2, 50, .inr (.inl b2_33))), (ov, .inr (3, [.ref ov1, .int (nI un_42)])), (ov1, .inl (kv1, 512, .inr (.inl ug_42)))] H := hP
      have hD : va_D A [(oo, .inr (6, [.ref ob, .ref oq, .ref ov, .ref on, .ref ot])), (oq, .inr (1, [.ref oq1, .ref oq2, .int (nI nn_33)])), (oq1, .inl (kq1, 50, .inr (.inl b1_33))), (oq2, .inl (kq2, 50, .inr (.inl b2_33))), (ov, .inr (3, [.ref ov1, .int (nI un_42)])), (ov1, .inl (kv1, 512, .inr (.inl ug_42)))] := hD
      exact W.iret (v := r_42) hx hb hr (fun t9 ht9 hW9 => ⟨⟨_, (nn_33, b1_33, b2_33, un_42, ug_42), rfl, Or.inr (Or.inr ⟨zB_ne hw_5 c_8, by omega, hw_33, hw_42⟩), by rw [ht9]; exact hP, va_K.moved hW9.alike hK, hD⟩, hS.F ht9⟩) hS.2.2 dX6_bar_45
    · have i_21 : ¬ (r_18.toInt = 0) := fun q9 => c_21 (zi_eq.mpr q9)
      refine lv_bipush (v := -104) hx hb dX6_bar_24 (by decide) ?_
      exact W.iret (v := (-104)) hx hb hr (fun t9 ht9 hW9 => ⟨⟨_, (nq, qf, ql, nv, gv), rfl, Or.inr (Or.inl ⟨zB_ne hw_5 c_8, zB_ne hw_18 c_21, rfl, rfl, rfl, rfl, rfl, rfl⟩), by rw [ht9]; exact hP, va_K.moved hW9.alike hK, hD⟩, hS.F ht9⟩) hS.2.2 dX6_bar_26
  · have i_8 : r_5.toInt = 0 := zi_eq.mp c_8
    refine lv_bipush (v := -102) hx hb dX6_bar_11 (by decide) ?_
    exact W.iret (v := (-102)) hx hb hr (fun t9 ht9 hW9 => ⟨⟨_, (nq, qf, ql, nv, gv), rfl, Or.inl ⟨zB_eq hw_5 c_8, rfl, rfl, rfl, rfl, rfl, rfl⟩, by rw [ht9]; exact hP, va_K.moved hW9.alike hK, hD⟩, hS.F ht9⟩) hS.2.2 dX6_bar_13

set_option maxHeartbeats 4000000 in
set_option maxRecDepth 100000 in
theorem cc_X6_given (l : Launch) (D : va_G) (z : zG) (sz : Nat) (oo : Nat) (ob : Nat) (oq : Nat) (ov : Nat) (on : Nat) (ot : Nat) (ov1 : Nat) (kv1 : ClassId) (nv : Nat) (gv : Nat → Int64) (p0 : Int64) (hv9 : nv ≤ 512) : Met l yX6_given wsX6_given ({ frames := 1, cells := 0, slots := 0, locals := 23 }) (zPre D z [.ref oo, .long p0] sz [(oo, .inr (6, [.ref ob, .ref oq, .ref ov, .ref on, .ref ot])), (ov, .inr (3, [.ref ov1, .int (nI nv)])), (ov1, .inl (kv1, 512, .inr (.inl gv)))] [(kv1, .long)] (va_A [] sz)) (va_Qi (fun (r : Int32) (u : Unit) => zB r (∃ j, j < nv ∧ gv j = p0)) zT (va_A [] sz)) 0 0 (va_A [] sz) := by
  refine Met.ofW (cc := cX6_given) (maxL := 3) (ret := (some .boolean)) (by decide) rfl ?_
  intro p e s m args below meth c s₁ B hml hv
  obtain ⟨rfl, hsz, hP, hK, hD, hC⟩ := hv
  have hx := B.exec
  have hb := B.bytes
  have hr := B.returns
  have hts := atoms_spec (ws := wsX6_given) B.pre
  have hown : s.vm.findClass RX6 = some m.cls := findClass_of_methodNamed B.named
  have hlocks := B.notSynchronized
  subst hsz
  generalize hAe : va_A [] s.heap.size = A at hC ⊢
  have hA : ∀ q : Nat, s.heap.size ≤ q → A q := fun q h => by rw [← hAe]; exact Or.inr h
  have hS : va_S A s.heap s.heap [] := va_S.rf
  have hP : va_P D vwCl [(oo, .inr (6, [.ref ob, .ref oq, .ref ov, .ref on, .ref ot])), (ov, .inr (3, [.ref ov1, .int (nI nv)])), (ov1, .inl (kv1, 512, .inr (.inl gv)))] s.heap := hP
  have hl := lv_entry ([.ref oo, .long p0]) (n := 3) (Nat.le_of_ble_eq_true rfl)
  rw [lg_entry_eq]
  generalize (lg_sl ([.ref oo, .long p0]) ++ List.replicate (3 - (lg_sl ([.ref oo, .long p0])).length) Slot.unset).toArray = ls at hl ⊢
  have hl : lv_has ls 3 [(0, .ref oo), (1, .long p0)] := hl
  refine zNameH (D := D) (A := A) (ws := [(oo, .inr (6, [.ref ob, .ref oq, .ref ov, .ref on, .ref ot])), (ov, .inr (3, [.ref ov1, .int (nI nv)])), (ov1, .inl (kv1, 512, .inr (.inl gv)))]) (fun H locs hP hS => ?_) hP hS
  have k_0 := hts (.fieldLink RX6 26 "NumberRows2" "givenNumbers" "LNumberRows2$GivenNumbers;") (by decide +kernel)
  have k_1 : ∀ w ∈ wsX60, w ∈ wsX6_given := by decide +kernel
  refine lv_aload_n hx hb dX6_given_0 rfl (lv_at hl 0 rfl) ?_
  refine va_get (D := D) (ci := 6) (v := .ref ov) (C := RX6) (T := TX6) (N := 5) hx hb hts k_1 hown hK hP 0 rfl rfl 2 (by decide) k_0 (fun _ h9 => h9) rfl dX6_given_1 ?_
  refine lv_lload_n hx hb dX6_given_4 rfl (lv_at hl 1 rfl) ?_
  refine zRo_i (va_runV (As := [.long p0]) (rest := []) ⟨hx, hb, hml, hown, hts⟩ (cc_X3_contains l D z H.size ov ov1 kv1 nv gv p0 (by omega)) (cwV 1 hts gX6_given_X3_contains rfl rfl rfl (by decide +kernel) ⟨Nat.le_of_ble_eq_true rfl, Nat.le_of_ble_eq_true rfl⟩) ⟨zPre_blind, va_recv hK hP (ci := 3) (q0 := 1) rfl rfl, (zPre_mk (wc := [(ov, .inr (3, [.ref ov1, .int (nI nv)])), (ov1, .inl (kv1, 512, .inr (.inl gv)))]) (tc := [(kv1, .long)]) hP hK hD hC hS [1, 2] (by decide) rfl rfl [0] rfl (zro_free hS hA))⟩ rfl rfl hl.1 rfl (lv_room (Nat.le_of_ble_eq_true rfl)) dX6_given_5 ⟨Nat.zero_le _, Nat.zero_le _⟩) hS hA hP (fun r_5 H locs hw hP hS => ?_)
  have hw_5 : zB r_5 (∃ j, j < nv ∧ gv j = p0) := hw
  exact W.zret (v := r_5) hx hb hr (zB_nar hw_5) (fun t9 ht9 hW9 => ⟨⟨_, (), rfl, hw_5, trivial⟩, hS.F ht9⟩) hS.2.2 dX6_given_8

set_option maxHeartbeats 4000000 in
set_option maxRecDepth 100000 in
theorem cc_X6_old (l : Launch) (D : va_G) (z : zG) (sz : Nat) (oo : Nat) (p0 : Int64)  : Met l yX6_old wsX6_old ({ frames := 1, cells := 0, slots := 0, locals := 22 }) (zPre D z [.ref oo, .long p0] sz [] [] (va_A [] sz)) (va_Ql (fun (r : Int64) (u : Unit) => zOld p0 r) zT (va_A [] sz)) 0 0 (va_A [] sz) := by
  refine Met.ofW (cc := cX6_old) (maxL := 5) (ret := (some .long)) (by decide) rfl ?_
  intro p e s m args below meth c s₁ B hml hv
  obtain ⟨rfl, hsz, hP, hK, hD, hC⟩ := hv
  have hx := B.exec
  have hb := B.bytes
  have hr := B.returns
  have hts := atoms_spec (ws := wsX6_old) B.pre
  have hown : s.vm.findClass RX6 = some m.cls := findClass_of_methodNamed B.named
  have hlocks := B.notSynchronized
  subst hsz
  generalize hAe : va_A [] s.heap.size = A at hC ⊢
  have hA : ∀ q : Nat, s.heap.size ≤ q → A q := fun q h => by rw [← hAe]; exact Or.inr h
  have hS : va_S A s.heap s.heap [] := va_S.rf
  have hP : va_P D vwCl [] s.heap := hP
  have hl := lv_entry ([.ref oo, .long p0]) (n := 5) (Nat.le_of_ble_eq_true rfl)
  rw [lg_entry_eq]
  generalize (lg_sl ([.ref oo, .long p0]) ++ List.replicate (5 - (lg_sl ([.ref oo, .long p0])).length) Slot.unset).toArray = ls at hl ⊢
  have hl : lv_has ls 5 [(0, .ref oo), (1, .long p0)] := hl
  refine zNameH (D := D) (A := A) (ws := []) (fun H locs hP hS => ?_) hP hS
  have k_0 := hts (.constantLong RX6 48 (20000000000)) (by decide +kernel)
  have k_1 := hts (.constantLong RX6 69 (-102)) (by decide +kernel)
  have k_2 := hts (.constantLong RX6 131 (1000000000)) (by decide +kernel)
  have k_3 := hts (.constantLong RX6 129 (10000000000)) (by decide +kernel)
  refine lv_lload_n hx hb dX6_old_0 rfl (lv_at hl 1 rfl) ?_
  refine lv_lconst (v := 0) hx hb dX6_old_1 (by decide) ?_
  refine W.lcmp hx hb dX6_old_2 ?_
  refine lv_if_lt (tgt := 35) hx hb dX6_old_3 (by decide) (fun c_3 => ?_) (fun c_3 => ?_)
  · have c_3 : p0 < 0 := (lg_cmp_lt _ _).mp c_3
    have i_3 : p0.toInt < 0 := zl_lt.mp c_3
    refine lv_lload_n hx hb dX6_old_35 rfl (lv_at hl 1 rfl) ?_
    refine zRo_i (va_runS (As := [.long p0]) (rest := []) ⟨hx, hb, hml, hown, hts⟩ (cc_X6_isNumber l D z H.size p0 ) (va_cwS 1 hts gX6_old_X6_isNumber rfl rfl rfl (by decide +kernel) ⟨Nat.le_of_ble_eq_true rfl, Nat.le_of_ble_eq_true rfl⟩) ⟨zPre_blind, (zPre_mk (wc := []) (tc := []) hP hK hD hC hS [] (by decide) rfl rfl [] rfl (zro_free hS hA))⟩ rfl rfl hl.1 rfl (lv_room (Nat.le_of_ble_eq_true rfl)) dX6_old_36 ⟨Nat.zero_le _, Nat.zero_le _⟩) hS hA hP (fun r_36 H locs hw hP hS => ?_)
    have hw_36 : zB r_36 (27512614111 ≤ p0.toInt ∧ p0.toInt < 302638755221) := hw
    refine lv_if_ne (tgt := 46) hx hb dX6_old_39 (by decide) (fun c_39 => ?_) (fun c_39 => ?_)
    · have i_39 : ¬ (r_36.toInt = 0) := fun q9 => c_39 (zi_eq.mpr q9)
      refine lv_lload_n hx hb dX6_old_46 rfl (lv_at hl 1 rfl) ?_
      refine zRo_l (va_runS (As := [.long p0]) (rest := []) ⟨hx, hb, hml, hown, hts⟩ (cc_X6_serialOf l D z H.size p0 ) (va_cwS 1 hts gX6_old_X6_serialOf rfl rfl rfl (by decide +kernel) ⟨Nat.le_of_ble_eq_true rfl, Nat.le_of_ble_eq_true rfl⟩) ⟨zPre_blind, (zPre_mk (wc := []) (tc := []) hP hK hD hC hS [] (by decide) rfl rfl [] rfl (zro_free hS hA))⟩ rfl rfl hl.1 rfl (lv_room (Nat.le_of_ble_eq_true rfl)) dX6_old_47 ⟨Nat.zero_le _, Nat.zero_le _⟩) hS hA hP (fun r_47 H locs hw hP hS => ?_)
      have hw_47 : r_47 = zser p0 := hw
      refine lv_ldc2 hx hb hown k_0 dX6_old_50 ?_
      refine lv_lsub hx hb dX6_old_53 ?_
      refine lv_lstore_n (lv' := [(3, .long (r_47 - 20000000000)), (0, .ref oo), (1, .long p0)]) hx hb dX6_old_54 rfl hl (by decide) rfl (fun ls hl => ?_)
      refine lv_lload_n hx hb dX6_old_55 rfl (lv_at hl 0 rfl) ?_
      refine lv_lconst (v := 0) hx hb dX6_old_56 (by decide) ?_
      refine W.lcmp hx hb dX6_old_57 ?_
      refine lv_if_lt (tgt := 69) hx hb dX6_old_58 (by decide) (fun c_58 => ?_) (fun c_58 => ?_)
      · have c_58 : (r_47 - 20000000000) < 0 := (lg_cmp_lt _ _).mp c_58
        have i_58 : (r_47 - 20000000000).toInt < 0 := zl_lt.mp c_58
        refine lv_ldc2 hx hb hown k_1 dX6_old_69 ?_
        exact W.lret (v := (-102)) hx hb hr (fun t9 ht9 hW9 => ⟨⟨_, (), rfl, Or.inr (Or.inl ⟨by omega, fun q => by rw [hw_47] at *; omega, rfl⟩), trivial⟩, hS.F ht9⟩) hS.2.2 dX6_old_72
      · have c_58 : ¬ ((r_47 - 20000000000) < 0) := fun q9 => c_58 ((lg_cmp_lt _ _).mpr q9)
        have i_58 : ¬ ((r_47 - 20000000000).toInt < 0) := fun q9 => c_58 (zl_lt.mpr q9)
        refine lv_lload_n hx hb dX6_old_61 rfl (lv_at hl 0 rfl) ?_
        refine lv_ldc2 hx hb hown k_2 dX6_old_62 ?_
        refine W.lcmp hx hb dX6_old_65 ?_
        refine lv_if_lt (tgt := 73) hx hb dX6_old_66 (by decide) (fun c_66 => ?_) (fun c_66 => ?_)
        · have c_66 : (r_47 - 20000000000) < 1000000000 := (lg_cmp_lt _ _).mp c_66
          have i_66 : (r_47 - 20000000000).toInt < 1000000000 := zl_lt.mp c_66
          refine lv_lload_n hx hb dX6_old_73 rfl (lv_at hl 2 rfl) ?_
          refine zRo_l (va_runS (As := [.long p0]) (rest := []) ⟨hx, hb, hml, hown, hts⟩ (cc_X6_serviceOf l D z H.size p0 ) (va_cwS 1 hts gX6_old_X6_serviceOf rfl rfl rfl (by decide +kernel) ⟨Nat.le_of_ble_eq_true rfl, Nat.le_of_ble_eq_true rfl⟩) ⟨zPre_blind, (zPre_mk (wc := []) (tc := []) hP hK hD hC hS [] (by decide) rfl rfl [] rfl (zro_free hS hA))⟩ rfl rfl hl.1 rfl (lv_room (Nat.le_of_ble_eq_true rfl)) dX6_old_74 ⟨Nat.zero_le _, Nat.zero_le _⟩) hS hA hP (fun r_74 H locs hw hP hS => ?_)
          have hw_74 : r_74 = zsvc p0 := hw
          refine lv_ldc2 hx hb hown k_2 dX6_old_77 ?_
          refine lv_lmul hx hb dX6_old_80 ?_
          refine lv_lload_n hx hb dX6_old_81 rfl (lv_at hl 0 rfl) ?_
          refine lv_ladd hx hb dX6_old_82 ?_
          exact W.lret (v := ((r_74 * 1000000000) + (r_47 - 20000000000))) hx hb hr (fun t9 ht9 hW9 => ⟨⟨_, (), rfl, by rw [hw_47] at *; exact Or.inr (Or.inr ⟨by omega, ⟨zB_ne hw_36 c_39, by omega, by omega⟩, by rw [hw_74]⟩), trivial⟩, hS.F ht9⟩) hS.2.2 dX6_old_83
        · have c_66 : ¬ ((r_47 - 20000000000) < 1000000000) := fun q9 => c_66 ((lg_cmp_lt _ _).mpr q9)
          have i_66 : ¬ ((r_47 - 20000000000).toInt < 1000000000) := fun q9 => c_66 (zl_lt.mpr q9)
          refine lv_ldc2 hx hb hown k_1 dX6_old_69 ?_
          exact W.lret (v := (-102)) hx hb hr (fun t9 ht9 hW9 => ⟨⟨_, (), rfl, Or.inr (Or.inl ⟨by omega, fun q => by rw [hw_47] at *; omega, rfl⟩), trivial⟩, hS.F ht9⟩) hS.2.2 dX6_old_72
    · have i_39 : r_36.toInt = 0 := zi_eq.mp c_39
      refine lv_ldc2 hx hb hown k_1 dX6_old_42 ?_
      exact W.lret (v := (-102)) hx hb hr (fun t9 ht9 hW9 => ⟨⟨_, (), rfl, Or.inr (Or.inl ⟨by omega, fun q => zB_eq hw_36 c_39 q.1, rfl⟩), trivial⟩, hS.F ht9⟩) hS.2.2 dX6_old_45
  · have c_3 : ¬ (p0 < 0) := fun q9 => c_3 ((lg_cmp_lt _ _).mpr q9)
    have i_3 : ¬ (p0.toInt < 0) := fun q9 => c_3 (zl_lt.mpr q9)
    refine lv_lload_n hx hb dX6_old_6 rfl (lv_at hl 1 rfl) ?_
    refine lv_ldc2 hx hb hown k_3 dX6_old_7 ?_
    refine W.lcmp hx hb dX6_old_10 ?_
    refine lv_if_ge (tgt := 35) hx hb dX6_old_11 (by decide) (fun c_11 => ?_) (fun c_11 => ?_)
    · have c_11 : 10000000000 ≤ p0 := (lg_cmp_ge _ _).mp c_11
      have i_11 : 10000000000 ≤ p0.toInt := zl_le.mp c_11
      refine lv_lload_n hx hb dX6_old_35 rfl (lv_at hl 1 rfl) ?_
      refine zRo_i (va_runS (As := [.long p0]) (rest := []) ⟨hx, hb, hml, hown, hts⟩ (cc_X6_isNumber l D z H.size p0 ) (va_cwS 1 hts gX6_old_X6_isNumber rfl rfl rfl (by decide +kernel) ⟨Nat.le_of_ble_eq_true rfl, Nat.le_of_ble_eq_true rfl⟩) ⟨zPre_blind, (zPre_mk (wc := []) (tc := []) hP hK hD hC hS [] (by decide) rfl rfl [] rfl (zro_free hS hA))⟩ rfl rfl hl.1 rfl (lv_room (Nat.le_of_ble_eq_true rfl)) dX6_old_36 ⟨Nat.zero_le _, Nat.zero_le _⟩) hS hA hP (fun r_36 H locs hw hP hS => ?_)
      have hw_36 : zB r_36 (27512614111 ≤ p0.toInt ∧ p0.toInt < 302638755221) := hw
      refine lv_if_ne (tgt := 46) hx hb dX6_old_39 (by decide) (fun c_39 => ?_) (fun c_39 => ?_)
      · have i_39 : ¬ (r_36.toInt = 0) := fun q9 => c_39 (zi_eq.mpr q9)
        refine lv_lload_n hx hb dX6_old_46 rfl (lv_at hl 1 rfl) ?_
        refine zRo_l (va_runS (As := [.long p0]) (rest := []) ⟨hx, hb, hml, hown, hts⟩ (cc_X6_serialOf l D z H.size p0 ) (va_cwS 1 hts gX6_old_X6_serialOf rfl rfl rfl (by decide +kernel) ⟨Nat.le_of_ble_eq_true rfl, Nat.le_of_ble_eq_true rfl⟩) ⟨zPre_blind, (zPre_mk (wc := []) (tc := []) hP hK hD hC hS [] (by decide) rfl rfl [] rfl (zro_free hS hA))⟩ rfl rfl hl.1 rfl (lv_room (Nat.le_of_ble_eq_true rfl)) dX6_old_47 ⟨Nat.zero_le _, Nat.zero_le _⟩) hS hA hP (fun r_47 H locs hw hP hS => ?_)
        have hw_47 : r_47 = zser p0 := hw
        refine lv_ldc2 hx hb hown k_0 dX6_old_50 ?_
        refine lv_lsub hx hb dX6_old_53 ?_
        refine lv_lstore_n (lv' := [(3, .long (r_47 - 20000000000)), (0, .ref oo), (1, .long p0)]) hx hb dX6_old_54 rfl hl (by decide) rfl (fun ls hl => ?_)
        refine lv_lload_n hx hb dX6_old_55 rfl (lv_at hl 0 rfl) ?_
        refine lv_lconst (v := 0) hx hb dX6_old_56 (by decide) ?_
        refine W.lcmp hx hb dX6_old_57 ?_
        refine lv_if_lt (tgt := 69) hx hb dX6_old_58 (by decide) (fun c_58 => ?_) (fun c_58 => ?_)
        · have c_58 : (r_47 - 20000000000) < 0 := (lg_cmp_lt _ _).mp c_58
          have i_58 : (r_47 - 20000000000).toInt < 0 := zl_lt.mp c_58
          refine lv_ldc2 hx hb hown k_1 dX6_old_69 ?_
          exact W.lret (v := (-102)) hx hb hr (fun t9 ht9 hW9 => ⟨⟨_, (), rfl, Or.inr (Or.inl ⟨by omega, fun q => by rw [hw_47] at *; omega, rfl⟩), trivial⟩, hS.F ht9⟩) hS.2.2 dX6_old_72
        · have c_58 : ¬ ((r_47 - 20000000000) < 0) := fun q9 => c_58 ((lg_cmp_lt _ _).mpr q9)
          have i_58 : ¬ ((r_47 - 20000000000).toInt < 0) := fun q9 => c_58 (zl_lt.mpr q9)
          refine lv_lload_n hx hb dX6_old_61 rfl (lv_at hl 0 rfl) ?_
          refine lv_ldc2 hx hb hown k_2 dX6_old_62 ?_
          refine W.lcmp hx hb dX6_old_65 ?_
          refine lv_if_lt (tgt := 73) hx hb dX6_old_66 (by decide) (fun c_66 => ?_) (fun c_66 => ?_)
          · have c_66 : (r_47 - 20000000000) < 1000000000 := (lg_cmp_lt _ _).mp c_66
            have i_66 : (r_47 - 20000000000).toInt < 1000000000 := zl_lt.mp c_66
            refine lv_lload_n hx hb dX6_old_73 rfl (lv_at hl 2 rfl) ?_
            refine zRo_l (va_runS (As := [.long p0]) (rest := []) ⟨hx, hb, hml, hown, hts⟩ (cc_X6_serviceOf l D z H.size p0 ) (va_cwS 1 hts gX6_old_X6_serviceOf rfl rfl rfl (by decide +kernel) ⟨Nat.le_of_ble_eq_true rfl, Nat.le_of_ble_eq_true rfl⟩) ⟨zPre_blind, (zPre_mk (wc := []) (tc := []) hP hK hD hC hS [] (by decide) rfl rfl [] rfl (zro_free hS hA))⟩ rfl rfl hl.1 rfl (lv_room (Nat.le_of_ble_eq_true rfl)) dX6_old_74 ⟨Nat.zero_le _, Nat.zero_le _⟩) hS hA hP (fun r_74 H locs hw hP hS => ?_)
            have hw_74 : r_74 = zsvc p0 := hw
            refine lv_ldc2 hx hb hown k_2 dX6_old_77 ?_
            refine lv_lmul hx hb dX6_old_80 ?_
            refine lv_lload_n hx hb dX6_old_81 rfl (lv_at hl 0 rfl) ?_
            refine lv_ladd hx hb dX6_old_82 ?_
            exact W.lret (v := ((r_74 * 1000000000) + (r_47 - 20000000000))) hx hb hr (fun t9 ht9 hW9 => ⟨⟨_, (), rfl, by rw [hw_47] at *; exact Or.inr (Or.inr ⟨by omega, ⟨zB_ne hw_36 c_39, by omega, by omega⟩, by rw [hw_74]⟩), trivial⟩, hS.F ht9⟩) hS.2.2 dX6_old_83
          · have c_66 : ¬ ((r_47 - 20000000000) < 1000000000) := fun q9 => c_66 ((lg_cmp_lt _ _).mpr q9)
            have i_66 : ¬ ((r_47 - 20000000000).toInt < 1000000000) := fun q9 => c_66 (zl_lt.mpr q9)
            refine lv_ldc2 hx hb hown k_1 dX6_old_69 ?_
            exact W.lret (v := (-102)) hx hb hr (fun t9 ht9 hW9 => ⟨⟨_, (), rfl, Or.inr (Or.inl ⟨by omega, fun q => by rw [hw_47] at *; omega, rfl⟩), trivial⟩, hS.F ht9⟩) hS.2.2 dX6_old_72
      · have i_39 : r_36.toInt = 0 := zi_eq.mp c_39
        refine lv_ldc2 hx hb hown k_1 dX6_old_42 ?_
        exact W.lret (v := (-102)) hx hb hr (fun t9 ht9 hW9 => ⟨⟨_, (), rfl, Or.inr (Or.inl ⟨by omega, fun q => zB_eq hw_36 c_39 q.1, rfl⟩), trivial⟩, hS.F ht9⟩) hS.2.2 dX6_old_45
    · have c_11 : ¬ (10000000000 ≤ p0) := fun q9 => c_11 ((lg_cmp_ge _ _).mpr q9)
      have i_11 : ¬ (10000000000 ≤ p0.toInt) := fun q9 => c_11 (zl_le.mpr q9)
      refine lv_lload_n hx hb dX6_old_14 rfl (lv_at hl 1 rfl) ?_
      refine lv_ldc2 hx hb hown k_2 dX6_old_15 ?_
      refine lv_ldiv hx hb dX6_old_18 (by decide) ?_
      refine lv_l2i (v := (p0 / 1000000000).toInt32) hx hb dX6_old_19 rfl ?_
      refine lv_istore_n (lv' := [(3, .int ((p0 / 1000000000).toInt32)), (0, .ref oo), (1, .long p0)]) hx hb dX6_old_20 rfl hl (by decide) rfl (fun ls hl => ?_)
      refine lv_iload_n hx hb dX6_old_21 rfl (lv_at hl 0 rfl) ?_
      refine lv_ldc2 hx hb hown k_0 dX6_old_22 ?_
      refine lv_lload_n hx hb dX6_old_25 rfl (lv_at hl 2 rfl) ?_
      refine lv_ldc2 hx hb hown k_2 dX6_old_26 ?_
      refine lv_lrem hx hb dX6_old_29 (by decide) ?_
      refine lv_ladd hx hb dX6_old_30 ?_
      refine zRo_l (va_runS (As := [.int ((p0 / 1000000000).toInt32), .long (20000000000 + (p0 - p0 / 1000000000 * 1000000000))]) (rest := []) ⟨hx, hb, hml, hown, hts⟩ (cc_X6_numberOf l D z H.size ((p0 / 1000000000).toInt32) (20000000000 + (p0 - p0 / 1000000000 * 1000000000)) ) (va_cwS 2 hts gX6_old_X6_numberOf rfl rfl rfl (by decide +kernel) ⟨Nat.le_of_ble_eq_true rfl, Nat.le_of_ble_eq_true rfl⟩) ⟨zPre_blind, (zPre_mk (wc := []) (tc := []) hP hK hD hC hS [] (by decide) rfl rfl [] rfl (zro_free hS hA))⟩ rfl rfl hl.1 rfl (lv_room (Nat.le_of_ble_eq_true rfl)) dX6_old_31 ⟨Nat.zero_le _, Nat.zero_le _⟩) hS hA hP (fun r_31 H locs hw hP hS => ?_)
      have hw_31 : r_31 = znum ((p0 / 1000000000).toInt32) (20000000000 + (p0 - p0 / 1000000000 * 1000000000)) := hw
      exact W.lret (v := r_31) hx hb hr (fun t9 ht9 hW9 => ⟨⟨_, (), rfl, Or.inl ⟨by omega, hw_31⟩, trivial⟩, hS.F ht9⟩) hS.2.2 dX6_old_34

set_option maxHeartbeats 4000000 in
set_option maxRecDepth 100000 in
theorem cc_X6_named (l : Launch) (D : va_G) (z : zG) (sz : Nat) (oo : Nat) (ob : Nat) (oq : Nat) (ov : Nat) (on : Nat) (ot : Nat) (on1 : Nat) (on2 : Nat) (on3 : Nat) (kn1 : ClassId) (kn2 : ClassId) (kn3 : ClassId) (nn : Nat) (sd : Nat → Int32) (rf : Nat → Int64) (nm : Nat → Int64) (p0 : Int32) (p1 : Int64) (hn : nn ≤ 300) : Met l yX6_named wsX6_named ({ frames := 1, cells := 0, slots := 0, locals := 24 }) (zPre D z [.ref oo, .int p0, .long p1] sz [(oo, .inr (6, [.ref ob, .ref oq, .ref ov, .ref on, .ref ot])), (on, .inr (4, [.ref on1, .ref on2, .ref on3, .int (nI nn)])), (on1, .inl (kn1, 300, .inl sd)), (on2, .inl (kn2, 300, .inr (.inl rf))), (on3, .inl (kn3, 300, .inr (.inl nm)))] [(kn1, .int), (kn2, .long), (kn3, .long)] (va_A [] sz)) (va_Ql (fun (r : Int64) (u : Unit) => zFnd nn sd rf nm p0 p1 r) zT (va_A [] sz)) 0 0 (va_A [] sz) := by
  refine Met.ofW (cc := cX6_named) (maxL := 4) (ret := (some .long)) (by decide) rfl ?_
  intro p e s m args below meth c s₁ B hml hv
  obtain ⟨rfl, hsz, hP, hK, hD, hC⟩ := hv
  have hx := B.exec
  have hb := B.bytes
  have hr := B.returns
  have hts := atoms_spec (ws := wsX6_named) B.pre
  have hown : s.vm.findClass RX6 = some m.cls := findClass_of_methodNamed B.named
  have hlocks := B.notSynchronized
  subst hsz
  generalize hAe : va_A [] s.heap.size = A at hC ⊢
  have hA : ∀ q : Nat, s.heap.size ≤ q → A q := fun q h => by rw [← hAe]; exact Or.inr h
  have hS : va_S A s.heap s.heap [] := va_S.rf
  have hP : va_P D vwCl [(oo, .inr (6, [.ref ob, .ref oq, .ref ov, .ref on, .ref ot])), (on, .inr (4, [.ref on1, .ref on2, .ref on3, .int (nI nn)])), (on1, .inl (kn1, 300, .inl sd)), (on2, .inl (kn2, 300, .inr (.inl rf))), (on3, .inl (kn3, 300, .inr (.inl nm)))] s.heap := hP
  have hl := lv_entry ([.ref oo, .int p0, .long p1]) (n := 4) (Nat.le_of_ble_eq_true rfl)
  rw [lg_entry_eq]
  generalize (lg_sl ([.ref oo, .int p0, .long p1]) ++ List.replicate (4 - (lg_sl ([.ref oo, .int p0, .long p1])).length) Slot.unset).toArray = ls at hl ⊢
  have hl : lv_has ls 4 [(0, .ref oo), (1, .int p0), (2, .long p1)] := hl
  refine zNameH (D := D) (A := A) (ws := [(oo, .inr (6, [.ref ob, .ref oq, .ref ov, .ref on, .ref ot])), (on, .inr (4, [.ref on1, .ref on2, .ref on3, .int (nI nn)])), (on1, .inl (kn1, 300, .inl sd)), (on2, .inl (kn2, 300, .inr (.inl rf))), (on3, .inl (kn3, 300, .inr (.inl nm)))]) (fun H locs hP hS => ?_) hP hS
  have k_0 := hts (.fieldLink RX6 33 "NumberRows2" "names" "LNumberRows2$Names;") (by decide +kernel)
  have k_1 : ∀ w ∈ wsX60, w ∈ wsX6_named := by decide +kernel
  refine lv_aload_n hx hb dX6_named_0 rfl (lv_at hl 0 rfl) ?_
  refine va_get (D := D) (ci := 6) (v := .ref on) (C := RX6) (T := TX6) (N := 5) hx hb hts k_1 hown hK hP 0 rfl rfl 3 (by decide) k_0 (fun _ h9 => h9) rfl dX6_named_1 ?_
  refine lv_iload_n hx hb dX6_named_4 rfl (lv_at hl 1 rfl) ?_
  refine lv_lload_n hx hb dX6_named_5 rfl (lv_at hl 2 rfl) ?_
  refine zRo_l (va_runV (As := [.int p0, .long p1]) (rest := []) ⟨hx, hb, hml, hown, hts⟩ (cc_X4_numberOfReference l D z H.size on on1 on2 on3 kn1 kn2 kn3 nn sd rf nm p0 p1 (by omega)) (cwV 2 hts gX6_named_X4_numberOfReference rfl rfl rfl (by decide +kernel) ⟨Nat.le_of_ble_eq_true rfl, Nat.le_of_ble_eq_true rfl⟩) ⟨zPre_blind, va_recv hK hP (ci := 4) (q0 := 1) rfl rfl, (zPre_mk (wc := [(on, .inr (4, [.ref on1, .ref on2, .ref on3, .int (nI nn)])), (on1, .inl (kn1, 300, .inl sd)), (on2, .inl (kn2, 300, .inr (.inl rf))), (on3, .inl (kn3, 300, .inr (.inl nm)))]) (tc := [(kn1, .int), (kn2, .long), (kn3, .long)]) hP hK hD hC hS [1, 2, 3, 4] (by decide) rfl rfl [0, 1, 2] rfl (zro_free hS hA))⟩ rfl rfl hl.1 rfl (lv_room (Nat.le_of_ble_eq_true rfl)) dX6_named_6 ⟨Nat.zero_le _, Nat.zero_le _⟩) hS hA hP (fun r_6 H locs hw hP hS => ?_)
  have hw_6 : (∃ j, j < nn ∧ sd j = p0 ∧ rf j = p1 ∧ r_6 = nm j) ∨ ((∀ j, j < nn → ¬ (sd j = p0 ∧ rf j = p1)) ∧ r_6 = -101) := hw
  exact W.lret (v := r_6) hx hb hr (fun t9 ht9 hW9 => ⟨⟨_, (), rfl, hw_6, trivial⟩, hS.F ht9⟩) hS.2.2 dX6_named_9

theorem zRpl_t {n : Nat} {sd : Nat → Int32} {rf nm ur : Nat → Int64} {p0 r : Int32} {p1 p2 : Int64} (h : (∃ j, j < n ∧ sd j = p0 ∧ nm j = p2 ∧ ur = vp_updL rf j p1 ∧ r = 1) ∨ ((∀ j, j < n → ¬ (sd j = p0 ∧ nm j = p2)) ∧ ur = rf ∧ r = 0)) (h0 : ¬ r = 0) : ∃ j, j < n ∧ sd j = p0 ∧ nm j = p2 ∧ ur = vp_updL rf j p1 := by
  rcases h with ⟨j, h1, h2, h3, h4, -⟩ | ⟨-, -, h⟩
  · exact ⟨j, h1, h2, h3, h4⟩
  · exact absurd h h0
theorem zRpl_f {n : Nat} {sd : Nat → Int32} {rf nm ur : Nat → Int64} {p0 r : Int32} {p1 p2 : Int64} (h : (∃ j, j < n ∧ sd j = p0 ∧ nm j = p2 ∧ ur = vp_updL rf j p1 ∧ r = 1) ∨ ((∀ j, j < n → ¬ (sd j = p0 ∧ nm j = p2)) ∧ ur = rf ∧ r = 0)) (h0 : r = 0) : (∀ j, j < n → ¬ (sd j = p0 ∧ nm j = p2)) ∧ ur = rf := by
  rcases h with ⟨j, -, -, -, -, h⟩ | ⟨h1, h2, -⟩
  · rw [h] at h0; exact absurd h0 (by decide)
  · exact ⟨h1, h2⟩

set_option maxHeartbeats 4000000 in
set_option maxRecDepth 100000 in
theorem cc_X6_map (l : Launch) (D : va_G) (z : zG) (sz : Nat) (oo : Nat) (ob : Nat) (oq : Nat) (ov : Nat) (on : Nat) (ot : Nat) (ov1 : Nat) (kv1 : ClassId) (nv : Nat) (gv : Nat → Int64) (on1 : Nat) (on2 : Nat) (on3 : Nat) (kn1 : ClassId) (kn2 : ClassId) (kn3 : ClassId) (nn : Nat) (sd : Nat → Int32) (rf : Nat → Int64) (nm : Nat → Int64) (p0 : Int32) (p1 : Int64) (p2 : Int64) (hv9 : nv ≤ 512) (hn : nn ≤ 300) : Met l yX6_map wsX6_map ({ frames := 1, cells := 0, slots := 0, locals := 26 }) (zPre D z [.ref oo, .int p0, .long p1, .long p2] sz [(oo, .inr (6, [.ref ob, .ref oq, .ref ov, .ref on, .ref ot])), (ov, .inr (3, [.ref ov1, .int (nI nv)])), (ov1, .inl (kv1, 512, .inr (.inl gv))), (on, .inr (4, [.ref on1, .ref on2, .ref on3, .int (nI nn)])), (on1, .inl (kn1, 300, .inl sd)), (on2, .inl (kn2, 300, .inr (.inl rf))), (on3, .inl (kn3, 300, .inr (.inl nm)))] [(kv1, .long), (kn1, .int), (kn2, .long), (kn3, .long)] (va_A [(oo, .inr (6, [.ref ob, .ref oq, .ref ov, .ref on, .ref ot])), (ov, .inr (3, [.ref ov1, .int (nI nv)])), (ov1, .inl (kv1, 512, .inr (.inl gv))), (on, .inr (4, [.ref on1, .ref on2, .ref on3, .int (nI nn)])), (on1, .inl (kn1, 300, .inl sd)), (on2, .inl (kn2, 300, .inr (.inl rf))), (on3, .inl (kn3, 300, .inr (.inl nm)))] sz)) (va_Qi (fun (r : Int32) (u : Nat × (Nat → Int32) × (Nat → Int64) × (Nat → Int64)) => (¬ (∃ j, j < nv ∧ gv j = p2) ∧ r = -101 ∧ u.1 = nn ∧ u.2.1 = sd ∧ u.2.2.1 = rf ∧ u.2.2.2 = nm) ∨ ((∃ j, j < nv ∧ gv j = p2) ∧ ((¬ (0 ≤ p0.toInt ∧ p0.toInt < 100 ∧ 0 ≤ p1.toInt) ∧ r = -102 ∧ u.1 = nn ∧ u.2.1 = sd ∧ u.2.2.1 = rf ∧ u.2.2.2 = nm) ∨ ((0 ≤ p0.toInt ∧ p0.toInt < 100 ∧ 0 ≤ p1.toInt) ∧ ∃ x, zFnd nn sd rf nm p0 p1 x ∧ ((x = p2 ∧ r = 0 ∧ u.1 = nn ∧ u.2.1 = sd ∧ u.2.2.1 = rf ∧ u.2.2.2 = nm) ∨ (¬ x = p2 ∧ ¬ x = -101 ∧ r = -103 ∧ u.1 = nn ∧ u.2.1 = sd ∧ u.2.2.1 = rf ∧ u.2.2.2 = nm) ∨ (¬ x = p2 ∧ x = -101 ∧ (∃ j, j < nn ∧ sd j = p0 ∧ nm j = p2 ∧ u.2.2.1 = vp_updL rf j p1) ∧ r = 2 ∧ u.1 = nn ∧ u.2.1 = sd ∧ u.2.2.2 = nm) ∨ (¬ x = p2 ∧ x = -101 ∧ (∀ j, j < nn → ¬ (sd j = p0 ∧ nm j = p2)) ∧ ((300 ≤ nn ∧ r = -104 ∧ u.1 = nn ∧ u.2.1 = sd ∧ u.2.2.1 = rf ∧ u.2.2.2 = nm) ∨ (nn < 300 ∧ r = 1 ∧ u.1 = nn + 1 ∧ u.2.1 = upd sd nn p0 ∧ u.2.2.1 = vp_updL rf nn p1 ∧ u.2.2.2 = vp_updL nm nn p2)))))))) (zAt D [(kv1, .long), (kn1, .int), (kn2, .long), (kn3, .long)] (va_A [(oo, .inr (6, [.ref ob, .ref oq, .ref ov, .ref on, .ref ot])), (ov, .inr (3, [.ref ov1, .int (nI nv)])), (ov1, .inl (kv1, 512, .inr (.inl gv))), (on, .inr (4, [.ref on1, .ref on2, .ref on3, .int (nI nn)])), (on1, .inl (kn1, 300, .inl sd)), (on2, .inl (kn2, 300, .inr (.inl rf))), (on3, .inl (kn3, 300, .inr (.inl nm)))] sz) (fun u : Nat × (Nat → Int32) × (Nat → Int64) × (Nat → Int64) => [(oo, .inr (6, [.ref ob, .ref oq, .ref ov, .ref on, .ref ot])), (ov, .inr (3, [.ref ov1, .int (nI nv)])), (ov1, .inl (kv1, 512, .inr (.inl gv))), (on, .inr (4, [.ref on1, .ref on2, .ref on3, .int (nI u.1)])), (on1, .inl (kn1, 300, .inl u.2.1)), (on2, .inl (kn2, 300, .inr (.inl u.2.2.1))), (on3, .inl (kn3, 300, .inr (.inl u.2.2.2)))])) (va_A [(oo, .inr (6, [.ref ob, .ref oq, .ref ov, .ref on, .ref ot])), (ov, .inr (3, [.ref ov1, .int (nI nv)])), (ov1, .inl (kv1, 512, .inr (.inl gv))), (on, .inr (4, [.ref on1, .ref on2, .ref on3, .int (nI nn)])), (on1, .inl (kn1, 300, .inl sd)), (on2, .inl (kn2, 300, .inr (.inl rf))), (on3, .inl (kn3, 300, .inr (.inl nm)))] sz)) 0 0 (va_A [(oo, .inr (6, [.ref ob, .ref oq, .ref ov, .ref on, .ref ot])), (ov, .inr (3, [.ref ov1, .int (nI nv)])), (ov1, .inl (kv1, 512, .inr (.inl gv))), (on, .inr (4, [.ref on1, .ref on2, .ref on3, .int (nI nn)])), (on1, .inl (kn1, 300, .inl sd)), (on2, .inl (kn2, 300, .inr (.inl rf))), (on3, .inl (kn3, 300, .inr (.inl nm)))] sz) := by
  refine Met.ofW (cc := cX6_map) (maxL := 8) (ret := (some .int)) (by decide) rfl ?_
  intro p e s m args below meth c s₁ B hml hv
  obtain ⟨rfl, hsz, hP, hK, hD, hC⟩ := hv
  have hx := B.exec
  have hb := B.bytes
  have hr := B.returns
  have hts := atoms_spec (ws := wsX6_map) B.pre
  have hown : s.vm.findClass RX6 = some m.cls := findClass_of_methodNamed B.named
  have hlocks := B.notSynchronized
  subst hsz
  have hD := hD.self (sz := s.heap.size)
  generalize hAe : va_A [(oo, .inr (6, [.ref ob, .ref oq, .ref ov, .ref on, .ref ot])), (ov, .inr (3, [.ref ov1, .int (nI nv)])), (ov1, .inl (kv1, 512, .inr (.inl gv))), (on, .inr (4, [.ref on1, .ref on2, .ref on3, .int (nI nn)])), (on1, .inl (kn1, 300, .inl sd)), (on2, .inl (kn2, 300, .inr (.inl rf))), (on3, .inl (kn3, 300, .inr (.inl nm)))] s.heap.size = A at hC hD ⊢
  have hA : ∀ q : Nat, s.heap.size ≤ q → A q := fun q h => by rw [← hAe]; exact Or.inr h
  have hS : va_S A s.heap s.heap [] := va_S.rf
  have hP : va_P D vwCl [(oo, .inr (6, [.ref ob, .ref oq, .ref ov, .ref on, .ref ot])), (ov, .inr (3, [.ref ov1, .int (nI nv)])), (ov1, .inl (kv1, 512, .inr (.inl gv))), (on, .inr (4, [.ref on1, .ref on2, .ref on3, .int (nI nn)])), (on1, .inl (kn1, 300, .inl sd)), (on2, .inl (kn2, 300, .inr (.inl rf))), (on3, .inl (kn3, 300, .inr (.inl nm)))] s.heap := hP
  have hl := lv_entry ([.ref oo, .int p0, .long p1, .long p2]) (n := 8) (Nat.le_of_ble_eq_true rfl)
  rw [lg_entry_eq]
  generalize (lg_sl ([.ref oo, .int p0, .long p1, .long p2]) ++ List.replicate (8 - (lg_sl ([.ref oo, .int p0, .long p1, .long p2])).length) Slot.unset).toArray = ls at hl ⊢
  have hl : lv_has ls 8 [(0, .ref oo), (1, .int p0), (2, .long p1), (4, .long p2)] := hl
  refine zNameH (D := D) (A := A) (ws := [(oo, .inr (6, [.ref ob, .ref oq, .ref ov, .ref on, .ref ot])), (ov, .inr (3, [.ref ov1, .int (nI nv)])), (ov1, .inl (kv1, 512, .inr (.inl gv))), (on, .inr (4, [.ref on1, .ref on2, .ref on3, .int (nI nn)])), (on1, .inl (kn1, 300, .inl sd)), (on2, .inl (kn2, 300, .inr (.inl rf))), (on3, .inl (kn3, 300, .inr (.inl nm)))]) (fun H locs hP hS => ?_) hP hS
  have k_0 := hts (.fieldLink RX6 26 "NumberRows2" "givenNumbers" "LNumberRows2$GivenNumbers;") (by decide +kernel)
  have k_1 : ∀ w ∈ wsX60, w ∈ wsX6_map := by decide +kernel
  have k_2 := hts (.fieldLink RX6 33 "NumberRows2" "names" "LNumberRows2$Names;") (by decide +kernel)
  have k_3 := hts (.constantLong RX6 143 (-101)) (by decide +kernel)
  refine lv_aload_n hx hb dX6_map_0 rfl (lv_at hl 0 rfl) ?_
  refine va_get (D := D) (ci := 6) (v := .ref ov) (C := RX6) (T := TX6) (N := 5) hx hb hts k_1 hown hK hP 0 rfl rfl 2 (by decide) k_0 (fun _ h9 => h9) rfl dX6_map_1 ?_
  refine lv_lload hx hb dX6_map_4 (lv_at hl 3 rfl) ?_
  refine zRo_i (va_runV (As := [.long p2]) (rest := []) ⟨hx, hb, hml, hown, hts⟩ (cc_X3_contains l D z H.size ov ov1 kv1 nv gv p2 (by omega)) (cwV 1 hts gX6_map_X3_contains rfl rfl rfl (by decide +kernel) ⟨Nat.le_of_ble_eq_true rfl, Nat.le_of_ble_eq_true rfl⟩) ⟨zPre_blind, va_recv hK hP (ci := 3) (q0 := 1) rfl rfl, (zPre_mk (wc := [(ov, .inr (3, [.ref ov1, .int (nI nv)])), (ov1, .inl (kv1, 512, .inr (.inl gv)))]) (tc := [(kv1, .long)]) hP hK hD hC hS [1, 2] (by decide) rfl rfl [0] rfl (zro_free hS hA))⟩ rfl rfl hl.1 rfl (lv_room (Nat.le_of_ble_eq_true rfl)) dX6_map_6 ⟨Nat.zero_le _, Nat.zero_le _⟩) hS hA hP (fun r_6 H locs hw hP hS => ?_)
  have hw_6 : zB r_6 (∃ j, j < nv ∧ gv j = p2) := hw
  refine lv_if_ne (tgt := 15) hx hb dX6_map_9 (by decide) (fun c_9 => ?_) (fun c_9 => ?_)
  · have i_9 : ¬ (r_6.toInt = 0) := fun q9 => c_9 (zi_eq.mpr q9)
    refine lv_iload_n hx hb dX6_map_15 rfl (lv_at hl 1 rfl) ?_
    refine lv_if_lt (tgt := 31) hx hb dX6_map_16 (by decide) (fun c_16 => ?_) (fun c_16 => ?_)
    · have i_16 : p0.toInt < 0 := zi_lt.mp c_16
      refine lv_bipush (v := -102) hx hb dX6_map_31 (by decide) ?_
      exact W.iret (v := (-102)) hx hb hr (fun t9 ht9 hW9 => ⟨⟨_, (nn, sd, rf, nm), rfl, Or.inr ⟨zB_ne hw_6 c_9, Or.inl ⟨by omega, rfl, rfl, rfl, rfl, rfl⟩⟩, by rw [ht9]; exact hP, va_K.moved hW9.alike hK, hD⟩, hS.F ht9⟩) hS.2.2 dX6_map_33
    · have i_16 : ¬ (p0.toInt < 0) := fun q9 => c_16 (zi_lt.mpr q9)
      refine lv_iload_n hx hb dX6_map_19 rfl (lv_at hl 1 rfl) ?_
      refine lv_bipush (v := 100) hx hb dX6_map_20 (by decide) ?_
      refine lv_icmp_ge (tgt := 31) hx hb dX6_map_22 (by decide) (fun c_22 => ?_) (fun c_22 => ?_)
      · have i_22 : 100 ≤ p0.toInt := zi_le.mp c_22
        refine lv_bipush (v := -102) hx hb dX6_map_31 (by decide) ?_
        exact W.iret (v := (-102)) hx hb hr (fun t9 ht9 hW9 => ⟨⟨_, (nn, sd, rf, nm), rfl, Or.inr ⟨zB_ne hw_6 c_9, Or.inl ⟨by omega, rfl, rfl, rfl, rfl, rfl⟩⟩, by rw [ht9]; exact hP, va_K.moved hW9.alike hK, hD⟩, hS.F ht9⟩) hS.2.2 dX6_map_33
      · have i_22 : ¬ (100 ≤ p0.toInt) := fun q9 => c_22 (zi_le.mpr q9)
        refine lv_lload_n hx hb dX6_map_25 rfl (lv_at hl 2 rfl) ?_
        refine lv_lconst (v := 0) hx hb dX6_map_26 (by decide) ?_
        refine W.lcmp hx hb dX6_map_27 ?_
        refine lv_if_ge (tgt := 34) hx hb dX6_map_28 (by decide) (fun c_28 => ?_) (fun c_28 => ?_)
        · have c_28 : 0 ≤ p1 := (lg_cmp_ge _ _).mp c_28
          have i_28 : 0 ≤ p1.toInt := zl_le.mp c_28
          refine lv_aload_n hx hb dX6_map_34 rfl (lv_at hl 0 rfl) ?_
          refine va_get (D := D) (ci := 6) (v := .ref on) (C := RX6) (T := TX6) (N := 5) hx hb hts k_1 hown hK hP 0 rfl rfl 3 (by decide) k_2 (fun _ h9 => h9) rfl dX6_map_35 ?_
          refine lv_iload_n hx hb dX6_map_38 rfl (lv_at hl 1 rfl) ?_
          refine lv_lload_n hx hb dX6_map_39 rfl (lv_at hl 2 rfl) ?_
          refine zRo_l (va_runV (As := [.int p0, .long p1]) (rest := []) ⟨hx, hb, hml, hown, hts⟩ (cc_X4_numberOfReference l D z H.size on on1 on2 on3 kn1 kn2 kn3 nn sd rf nm p0 p1 (by omega)) (cwV 2 hts gX6_map_X4_numberOfReference rfl rfl rfl (by decide +kernel) ⟨Nat.le_of_ble_eq_true rfl, Nat.le_of_ble_eq_true rfl⟩) ⟨zPre_blind, va_recv hK hP (ci := 4) (q0 := 3) rfl rfl, (zPre_mk (wc := [(on, .inr (4, [.ref on1, .ref on2, .ref on3, .int (nI nn)])), (on1, .inl (kn1, 300, .inl sd)), (on2, .inl (kn2, 300, .inr (.inl rf))), (on3, .inl (kn3, 300, .inr (.inl nm)))]) (tc := [(kn1, .int), (kn2, .long), (kn3, .long)]) hP hK hD hC hS [3, 4, 5, 6] (by decide) rfl rfl [1, 2, 3] rfl (zro_free hS hA))⟩ rfl rfl hl.1 rfl (lv_room (Nat.le_of_ble_eq_true rfl)) dX6_map_40 ⟨Nat.zero_le _, Nat.zero_le _⟩) hS hA hP (fun r_40 H locs hw hP hS => ?_)
          have hw_40 : (∃ j, j < nn ∧ sd j = p0 ∧ rf j = p1 ∧ r_40 = nm j) ∨ ((∀ j, j < nn → ¬ (sd j = p0 ∧ rf j = p1)) ∧ r_40 = -101) := hw
          refine lv_lstore (lv' := [(6, .long r_40), (0, .ref oo), (1, .int p0), (2, .long p1), (4, .long p2)]) hx hb dX6_map_43 hl (by decide) rfl (fun ls hl => ?_)
          refine lv_lload hx hb dX6_map_45 (lv_at hl 0 rfl) ?_
          refine lv_lload hx hb dX6_map_47 (lv_at hl 4 rfl) ?_
          refine W.lcmp hx hb dX6_map_49 ?_
          refine lv_if_ne (tgt := 55) hx hb dX6_map_50 (by decide) (fun c_50 => ?_) (fun c_50 => ?_)
          · have c_50 : ¬ (r_40 = p2) := fun q9 => c_50 ((lg_cmp_eq _ _).mpr q9)
            have i_50 : ¬ (r_40.toInt = p2.toInt) := fun q9 => c_50 (zl_eq.mpr q9)
            refine lv_lload hx hb dX6_map_55 (lv_at hl 0 rfl) ?_
            refine lv_ldc2 hx hb hown k_3 dX6_map_57 ?_
            refine W.lcmp hx hb dX6_map_60 ?_
            refine lv_if_eq (tgt := 67) hx hb dX6_map_61 (by decide) (fun c_61 => ?_) (fun c_61 => ?_)
            · have c_61 : r_40 = (-101) := (lg_cmp_eq _ _).mp c_61
              have i_61 : r_40.toInt = (-101) := zl_eq.mp c_61
              refine lv_aload_n hx hb dX6_map_67 rfl (lv_at hl 1 rfl) ?_
              refine va_get (D := D) (ci := 6) (v := .ref on) (C := RX6) (T := TX6) (N := 5) hx hb hts k_1 hown hK hP 0 rfl rfl 3 (by decide) k_2 (fun _ h9 => h9) rfl dX6_map_68 ?_
              refine lv_iload_n hx hb dX6_map_71 rfl (lv_at hl 2 rfl) ?_
              refine lv_lload_n hx hb dX6_map_72 rfl (lv_at hl 3 rfl) ?_
              refine lv_lload hx hb dX6_map_73 (lv_at hl 4 rfl) ?_
              refine zMu_i (wr := [(oo, .inr (6, [.ref ob, .ref oq, .ref ov, .ref on, .ref ot])), (ov, .inr (3, [.ref ov1, .int (nI nv)])), (ov1, .inl (kv1, 512, .inr (.inl gv)))]) (va_runV (As := [.int p0, .long p1, .long p2]) (rest := []) ⟨hx, hb, hml, hown, hts⟩ (cc_X4_replace l D z H.size on on1 on2 on3 kn1 kn2 kn3 nn sd rf nm p0 p1 p2 (by omega)) (cwV 3 hts gX6_map_X4_replace rfl rfl rfl (by decide +kernel) ⟨Nat.le_of_ble_eq_true rfl, Nat.le_of_ble_eq_true rfl⟩) ⟨zPre_blind, va_recv hK hP (ci := 4) (q0 := 3) rfl rfl, (zPre_mk (wc := [(on, .inr (4, [.ref on1, .ref on2, .ref on3, .int (nI nn)])), (on1, .inl (kn1, 300, .inl sd)), (on2, .inl (kn2, 300, .inr (.inl rf))), (on3, .inl (kn3, 300, .inr (.inl nm)))]) (tc := [(kn1, .int), (kn2, .long), (kn3, .long)]) hP hK hD hC hS [3, 4, 5, 6] (by decide) rfl rfl [1, 2, 3] rfl (va_free (wc := [(on, .inr (4, [.ref on1, .ref on2, .ref on3, .int (nI nn)])), (on1, .inl (kn1, 300, .inl sd)), (on2, .inl (kn2, 300, .inr (.inl rf))), (on3, .inl (kn3, 300, .inr (.inl nm)))]) hD hS hA [3, 4, 5, 6] rfl))⟩ rfl rfl hl.1 rfl (lv_room (Nat.le_of_ble_eq_true rfl)) dX6_map_75 ⟨Nat.zero_le _, Nat.zero_le _⟩) hS hA hP hD [3, 4, 5, 6] [0, 1, 2] rfl rfl (by decide) (by decide) (fun r_75 u H locs hw hP hD hS => ?_)
              obtain ⟨ur_75, rfl⟩ : ∃ y9, y9 = u := ⟨_, rfl⟩
              have hw_75 : (∃ j, j < nn ∧ sd j = p0 ∧ nm j = p2 ∧ ur_75 = vp_updL rf j p1 ∧ r_75 = 1) ∨ ((∀ j, j < nn → ¬ (sd j = p0 ∧ nm j = p2)) ∧ ur_75 = rf ∧ r_75 = 0) := hw
              have hP : va_P D vwCl [(oo, .inr (6, [.ref ob, .ref oq, .ref ov, .ref on, .ref ot])), (ov, .inr (3, [.ref ov1, .int (nI nv)])), (ov1, .inl (kv1, 512, .inr (.inl gv))), (on, .inr (4, [.ref on1, .ref on2, .ref on3, .int (nI nn)])), (on1, .inl (kn1, 300, .inl sd)), (on2, .inl (kn2, 300, .inr (.inl ur_75))), (on3, .inl (kn3, 300, .inr (.inl nm)))] H := hP
              have hD : va_D A [(oo, .inr (6, [.ref ob, .ref oq, .ref ov, .ref on, .ref ot])), (ov, .inr (3, [.ref ov1, .int (nI nv)])), (ov1, .inl (kv1, 512, .inr (.inl gv))), (on, .inr (4, [.ref on1, .ref on2, .ref on3, .int (nI nn)])), (on1, .inl (kn1, 300, .inl sd)), (on2, .inl (kn2, 300, .inr (.inl ur_75))), (on3, .inl (kn3, 300, .inr (.inl nm)))] := hD
              refine lv_if_eq (tgt := 83) hx hb dX6_map_78 (by decide) (fun c_78 => ?_) (fun c_78 => ?_)
              · have i_78 : r_75.toInt = 0 := zi_eq.mp c_78
                refine lv_aload_n hx hb dX6_map_83 rfl (lv_at hl 1 rfl) ?_
                refine va_get (D := D) (ci := 6) (v := .ref on) (C := RX6) (T := TX6) (N := 5) hx hb hts k_1 hown hK hP 0 rfl rfl 3 (by decide) k_2 (fun _ h9 => h9) rfl dX6_map_84 ?_
                refine zRo_i (va_runV (As := []) (rest := []) ⟨hx, hb, hml, hown, hts⟩ (cc_X4_isFull l D z H.size on on1 on2 on3 kn1 kn2 kn3 nn sd ur_75 nm (by omega)) (cwV 0 hts gX6_map_X4_isFull rfl rfl rfl (by decide +kernel) ⟨Nat.le_of_ble_eq_true rfl, Nat.le_of_ble_eq_true rfl⟩) ⟨zPre_blind, va_recv hK hP (ci := 4) (q0 := 3) rfl rfl, (zPre_mk (wc := [(on, .inr (4, [.ref on1, .ref on2, .ref on3, .int (nI nn)])), (on1, .inl (kn1, 300, .inl sd)), (on2, .inl (kn2, 300, .inr (.inl ur_75))), (on3, .inl (kn3, 300, .inr (.inl nm)))]) (tc := [(kn1, .int), (kn2, .long), (kn3, .long)]) hP hK hD hC hS [3, 4, 5, 6] (by decide) rfl rfl [1, 2, 3] rfl (zro_free hS hA))⟩ rfl rfl hl.1 rfl (lv_room (Nat.le_of_ble_eq_true rfl)) dX6_map_87 ⟨Nat.zero_le _, Nat.zero_le _⟩) hS hA hP (fun r_87 H locs hw hP hS => ?_)
                have hw_87 : zB r_87 (300 ≤ nn) := hw
                refine lv_if_eq (tgt := 96) hx hb dX6_map_90 (by decide) (fun c_90 => ?_) (fun c_90 => ?_)
                · have i_90 : r_87.toInt = 0 := zi_eq.mp c_90
                  have hf := zB_eq hw_87 c_90
                  refine lv_aload_n hx hb dX6_map_96 rfl (lv_at hl 1 rfl) ?_
                  refine va_get (D := D) (ci := 6) (v := .ref on) (C := RX6) (T := TX6) (N := 5) hx hb hts k_1 hown hK hP 0 rfl rfl 3 (by decide) k_2 (fun _ h9 => h9) rfl dX6_map_97 ?_
                  refine lv_iload_n hx hb dX6_map_100 rfl (lv_at hl 2 rfl) ?_
                  refine lv_lload_n hx hb dX6_map_101 rfl (lv_at hl 3 rfl) ?_
                  refine lv_lload hx hb dX6_map_102 (lv_at hl 4 rfl) ?_
                  refine zMu_v (wr := [(oo, .inr (6, [.ref ob, .ref oq, .ref ov, .ref on, .ref ot])), (ov, .inr (3, [.ref ov1, .int (nI nv)])), (ov1, .inl (kv1, 512, .inr (.inl gv)))]) (va_runV (As := [.int p0, .long p1, .long p2]) (rest := []) ⟨hx, hb, hml, hown, hts⟩ (cc_X4_add l D z H.size on on1 on2 on3 kn1 kn2 kn3 nn sd ur_75 nm p0 p1 p2 (by omega)) (cwV 3 hts gX6_map_X4_add rfl rfl rfl (by decide +kernel) ⟨Nat.le_of_ble_eq_true rfl, Nat.le_of_ble_eq_true rfl⟩) ⟨zPre_blind, va_recv hK hP (ci := 4) (q0 := 3) rfl rfl, (zPre_mk (wc := [(on, .inr (4, [.ref on1, .ref on2, .ref on3, .int (nI nn)])), (on1, .inl (kn1, 300, .inl sd)), (on2, .inl (kn2, 300, .inr (.inl ur_75))), (on3, .inl (kn3, 300, .inr (.inl nm)))]) (tc := [(kn1, .int), (kn2, .long), (kn3, .long)]) hP hK hD hC hS [3, 4, 5, 6] (by decide) rfl rfl [1, 2, 3] rfl (va_free (wc := [(on, .inr (4, [.ref on1, .ref on2, .ref on3, .int (nI nn)])), (on1, .inl (kn1, 300, .inl sd)), (on2, .inl (kn2, 300, .inr (.inl ur_75))), (on3, .inl (kn3, 300, .inr (.inl nm)))]) hD hS hA [3, 4, 5, 6] rfl))⟩ rfl rfl hl.1 rfl (lv_room (Nat.le_of_ble_eq_true rfl)) dX6_map_104 ⟨Nat.zero_le _, Nat.zero_le _⟩) hS hA hP hD [3, 4, 5, 6] [0, 1, 2] rfl rfl (by decide) (by decide) (fun u H locs hw hP hD hS => ?_)
                  obtain ⟨un_104, us_104, ur_104, um_104⟩ := u
                  have hw_104 : un_104 = nn + 1 ∧ us_104 = upd sd nn p0 ∧ ur_104 = vp_updL ur_75 nn p1 ∧ um_104 = vp_updL nm nn p2 := hw
                  have hP : va_P D vwCl [(oo, .inr (6, [.ref ob, .ref oq, .ref ov, .ref on, .ref ot])), (ov, .inr (3, [.ref ov1, .int (nI nv)])), (ov1, .inl (kv1, 512, .inr (.inl gv))), (on, .inr (4, [.ref on1, .ref on2, .ref on3, .int (nI un_104)])), (on1, .inl (kn1, 300, .inl us_104)), (on2, .inl (kn2, 300, .inr (.inl ur_104))), (on3, .inl (kn3, 300, .inr (.inl um_104)))] H := hP
                  have hD : va_D A [(oo, .inr (6, [.ref ob, .ref oq, .ref ov, .ref on, .ref ot])), (ov, .inr (3, [.ref ov1, .int (nI nv)])), (ov1, .inl (kv1, 512, .inr (.inl gv))), (on, .inr (4, [.ref on1, .ref on2, .ref on3, .int (nI un_104)])), (on1, .inl (kn1, 300, .inl us_104)), (on2, .inl (kn2, 300, .inr (.inl ur_104))), (on3, .inl (kn3, 300, .inr (.inl um_104)))] := hD
                  refine lv_iconst (v := 1) hx hb dX6_map_107 (by decide) ?_
                  exact W.iret (v := 1) hx hb hr (fun t9 ht9 hW9 => ⟨⟨_, (un_104, us_104, ur_104, um_104), rfl, Or.inr ⟨zB_ne hw_6 c_9, Or.inr ⟨by omega, r_40, hw_40, Or.inr (Or.inr (Or.inr ⟨c_50, c_61, (zRpl_f hw_75 c_78).1, Or.inr ⟨by omega, rfl, hw_104.1, hw_104.2.1, hw_104.2.2.1.trans (by rw [(zRpl_f hw_75 c_78).2]), hw_104.2.2.2⟩⟩))⟩⟩, by rw [ht9]; exact hP, va_K.moved hW9.alike hK, hD⟩, hS.F ht9⟩) hS.2.2 dX6_map_108
                · have i_90 : ¬ (r_87.toInt = 0) := fun q9 => c_90 (zi_eq.mpr q9)
                  refine lv_bipush (v := -104) hx hb dX6_map_93 (by decide) ?_
                  exact W.iret (v := (-104)) hx hb hr (fun t9 ht9 hW9 => ⟨⟨_, (nn, sd, ur_75, nm), rfl, Or.inr ⟨zB_ne hw_6 c_9, Or.inr ⟨by omega, r_40, hw_40, Or.inr (Or.inr (Or.inr ⟨c_50, c_61, (zRpl_f hw_75 c_78).1, Or.inl ⟨zB_ne hw_87 c_90, rfl, rfl, rfl, (zRpl_f hw_75 c_78).2, rfl⟩⟩))⟩⟩, by rw [ht9]; exact hP, va_K.moved hW9.alike hK, hD⟩, hS.F ht9⟩) hS.2.2 dX6_map_95
              · have i_78 : ¬ (r_75.toInt = 0) := fun q9 => c_78 (zi_eq.mpr q9)
                refine lv_iconst (v := 2) hx hb dX6_map_81 (by decide) ?_
                exact W.iret (v := 2) hx hb hr (fun t9 ht9 hW9 => ⟨⟨_, (nn, sd, ur_75, nm), rfl, Or.inr ⟨zB_ne hw_6 c_9, Or.inr ⟨by omega, r_40, hw_40, Or.inr (Or.inr (Or.inl ⟨c_50, c_61, zRpl_t hw_75 c_78, rfl, rfl, rfl, rfl⟩))⟩⟩, by rw [ht9]; exact hP, va_K.moved hW9.alike hK, hD⟩, hS.F ht9⟩) hS.2.2 dX6_map_82
            · have c_61 : ¬ (r_40 = (-101)) := fun q9 => c_61 ((lg_cmp_eq _ _).mpr q9)
              have i_61 : ¬ (r_40.toInt = (-101)) := fun q9 => c_61 (zl_eq.mpr q9)
              refine lv_bipush (v := -103) hx hb dX6_map_64 (by decide) ?_
              exact W.iret (v := (-103)) hx hb hr (fun t9 ht9 hW9 => ⟨⟨_, (nn, sd, rf, nm), rfl, Or.inr ⟨zB_ne hw_6 c_9, Or.inr ⟨by omega, r_40, hw_40, Or.inr (Or.inl ⟨c_50, c_61, rfl, rfl, rfl, rfl, rfl⟩)⟩⟩, by rw [ht9]; exact hP, va_K.moved hW9.alike hK, hD⟩, hS.F ht9⟩) hS.2.2 dX6_map_66
          · have c_50 : r_40 = p2 := (lg_cmp_eq _ _).mp c_50
            have i_50 : r_40.toInt = p2.toInt := zl_eq.mp c_50
            refine lv_iconst (v := 0) hx hb dX6_map_53 (by decide) ?_
            exact W.iret (v := 0) hx hb hr (fun t9 ht9 hW9 => ⟨⟨_, (nn, sd, rf, nm), rfl, Or.inr ⟨zB_ne hw_6 c_9, Or.inr ⟨by omega, r_40, hw_40, Or.inl ⟨c_50, rfl, rfl, rfl, rfl, rfl⟩⟩⟩, by rw [ht9]; exact hP, va_K.moved hW9.alike hK, hD⟩, hS.F ht9⟩) hS.2.2 dX6_map_54
        · have c_28 : ¬ (0 ≤ p1) := fun q9 => c_28 ((lg_cmp_ge _ _).mpr q9)
          have i_28 : ¬ (0 ≤ p1.toInt) := fun q9 => c_28 (zl_le.mpr q9)
          refine lv_bipush (v := -102) hx hb dX6_map_31 (by decide) ?_
          exact W.iret (v := (-102)) hx hb hr (fun t9 ht9 hW9 => ⟨⟨_, (nn, sd, rf, nm), rfl, Or.inr ⟨zB_ne hw_6 c_9, Or.inl ⟨by omega, rfl, rfl, rfl, rfl, rfl⟩⟩, by rw [ht9]; exact hP, va_K.moved hW9.alike hK, hD⟩, hS.F ht9⟩) hS.2.2 dX6_map_33
  · have i_9 : r_6.toInt = 0 := zi_eq.mp c_9
    refine lv_bipush (v := -101) hx hb dX6_map_12 (by decide) ?_
    exact W.iret (v := (-101)) hx hb hr (fun t9 ht9 hW9 => ⟨⟨_, (nn, sd, rf, nm), rfl, Or.inl ⟨zB_eq hw_6 c_9, rfl, rfl, rfl, rfl, rfl⟩, by rw [ht9]; exact hP, va_K.moved hW9.alike hK, hD⟩, hS.F ht9⟩) hS.2.2 dX6_map_14
end
section
/-! the reference: rows of its own -/
def zG9 (n : Nat) (gn : Nat → Int64) (x : Int64) : Prop := ∃ k, k < n ∧ zser (gn k) = x
def zFul (nq : Nat) (qf ql : Nat → Int64) (ng : Nat) (gn : Nat → Int64) (a b : Int64) : Prop := ∀ x, a ≤ x → x ≤ b → zBar nq qf ql x ∨ zG9 ng gn x
def zFre (nq : Nat) (qf ql : Nat → Int64) (ng : Nat) (gn : Nat → Int64) (a b x : Int64) : Prop := a ≤ x ∧ x ≤ b ∧ ¬ zBar nq qf ql x ∧ ¬ zG9 ng gn x ∧ ∀ y, a ≤ y → y < x → zBar nq qf ql y ∨ zG9 ng gn y
def zBt (nq : Nat) (qf ql : Nat → Int64) (p r : Int64) : Prop := (r = -1 ∧ ∀ j, j < nq → ¬ (qf j ≤ p ∧ p ≤ ql j)) ∨ ∃ j, j < nq ∧ qf j ≤ p ∧ p ≤ ql j ∧ r = ql j
def zBtI (nq : Nat) (qf ql : Nat → Int64) (p : Int64) (i : Nat) (r : Int64) : Prop := i ≤ nq ∧ ((r = -1 ∧ ∀ j, j < i → ¬ (qf j ≤ p ∧ p ≤ ql j)) ∨ ∃ j, j < nq ∧ qf j ≤ p ∧ p ≤ ql j ∧ r = ql j)
theorem zBtI_hit {nq i : Nat} {qf ql : Nat → Int64} {p r : Int64} (h : zBtI nq qf ql p i r) (hi : i < nq) (hb : (qf i).toInt ≤ p.toInt ∧ p.toInt ≤ (ql i).toInt) : zBtI nq qf ql p (i + 1) (ql i) := ⟨hi, Or.inr ⟨i, hi, zl_le.mpr hb.1, zl_le.mpr hb.2, rfl⟩⟩
theorem zBtI_low {nq i : Nat} {qf ql : Nat → Int64} {p r : Int64} (h : zBtI nq qf ql p i r) (hi : i < nq) (h0 : 0 ≤ p.toInt) (hb : (qf i).toInt ≤ p.toInt ∧ p.toInt ≤ (ql i).toInt) (hl : (ql i).toInt ≤ r.toInt) : zBtI nq qf ql p (i + 1) r := by
  obtain ⟨h1, h2⟩ := h
  rcases h2 with ⟨e, -⟩ | h2
  · rw [e] at hl
    have : ((-1 : Int64)).toInt = -1 := by decide
    omega
  · exact ⟨hi, Or.inr h2⟩
theorem zBtI_no {nq i : Nat} {qf ql : Nat → Int64} {p r : Int64} (h : zBtI nq qf ql p i r) (hi : i < nq) (hb : ¬ ((qf i).toInt ≤ p.toInt ∧ p.toInt ≤ (ql i).toInt)) : zBtI nq qf ql p (i + 1) r := by
  obtain ⟨h1, h2⟩ := h
  rcases h2 with ⟨e, h2⟩ | h2
  · exact ⟨hi, Or.inl ⟨e, lt_s h2 (fun q => hb ⟨zl_le.mp q.1, zl_le.mp q.2⟩)⟩⟩
  · exact ⟨hi, Or.inr h2⟩
theorem zBtI_end {nq i : Nat} {qf ql : Nat → Int64} {p r : Int64} (h : zBtI nq qf ql p i r) (hi : nq ≤ i) : zBt nq qf ql p r := by
  obtain ⟨h1, h2⟩ := h
  rcases h2 with ⟨e, h2⟩ | h2
  · exact Or.inl ⟨e, fun j hj => h2 j (by omega)⟩
  · exact Or.inr h2
/-- the search for a free serial -/
def zFrI (nq : Nat) (qf ql : Nat → Int64) (ng : Nat) (gn : Nat → Int64) (a b x : Int64) (k : Nat) : Prop := k ≤ 1 ∧ a ≤ x ∧ x.toInt ≤ 27512614111 ∧ (∀ y, a ≤ y → y < x → zBar nq qf ql y ∨ zG9 ng gn y) ∧ (k = 0 → x ≤ b ∧ ¬ zBar nq qf ql x ∧ ¬ zG9 ng gn x)
theorem zFrI_bar {nq : Nat} {qf ql : Nat → Int64} {ng : Nat} {gn : Nat → Int64} {a b x e : Int64} {k : Nat} (ht : zTop nq ql) (h : zFrI nq qf ql ng gn a b x k) (hx : 0 ≤ x.toInt) (hb : zBt nq qf ql x e) (he : 0 ≤ e.toInt) : zFrI nq qf ql ng gn a b (e + 1) 1 ∧ (e + 1).toInt = e.toInt + 1 ∧ x.toInt ≤ e.toInt := by
  obtain ⟨h1, h2, h3, h4, h5⟩ := h
  rcases hb with ⟨q, -⟩ | ⟨j, g1, g2, g3, g4⟩
  · rw [q] at he; exact absurd he (by decide)
  · have := ht j g1
    have e1 : (e + 1).toInt = e.toInt + 1 := zl_add (by have := zl_lo e; simp; omega) (by rw [g4]; simp; omega)
    rw [zl_le] at g2 g3 h2
    rw [← g4] at this g3
    refine ⟨⟨Nat.le_refl _, zl_le.mpr (by omega), by omega, fun y q1 q2 => ?_, fun q => by omega⟩, e1, g3⟩
    by_cases hy : y < x
    · exact h4 y q1 hy
    · rw [zl_lt] at hy q2
      exact Or.inl ⟨j, g1, zl_le.mpr (by omega), zl_le.mpr (by rw [← g4]; omega)⟩
theorem zFrI_giv {nq : Nat} {qf ql : Nat → Int64} {ng : Nat} {gn : Nat → Int64} {a b x : Int64} {k : Nat} (h : zFrI nq qf ql ng gn a b x k) (hb : x.toInt < 20000000000) (hg : zG9 ng gn x) : zFrI nq qf ql ng gn a b (x + 1) 1 ∧ (x + 1).toInt = x.toInt + 1 := by
  obtain ⟨h1, h2, h3, h4, h5⟩ := h
  have e1 : (x + 1).toInt = x.toInt + 1 := zl_add (by have := zl_lo x; simp; omega) (by simp; omega)
  rw [zl_le] at h2
  refine ⟨⟨Nat.le_refl _, zl_le.mpr (by omega), by omega, fun y q1 q2 => ?_, fun q => by omega⟩, e1⟩
  by_cases hy : y < x
  · exact h4 y q1 hy
  · rw [zl_lt] at hy q2
    have : y = x := zl_eq.mpr (by omega)
    rw [this]; exact Or.inr hg
theorem zFrI_stop {nq : Nat} {qf ql : Nat → Int64} {ng : Nat} {gn : Nat → Int64} {a b x e : Int64} {k : Nat} (h : zFrI nq qf ql ng gn a b x k) (hx : x ≤ b) (hb : zBt nq qf ql x e) (he : ¬ 0 ≤ e.toInt) (h0 : 0 ≤ x.toInt) (hg : ¬ zG9 ng gn x) : zFrI nq qf ql ng gn a b x 0 := by
  obtain ⟨h1, h2, h3, h4, h5⟩ := h
  refine ⟨by omega, h2, h3, h4, fun _ => ⟨hx, ?_, hg⟩⟩
  rcases hb with ⟨q, hn⟩ | ⟨j, g1, g2, g3, g4⟩
  · exact fun ⟨j, q1, q2⟩ => hn j q1 q2
  · rw [zl_le] at g3; rw [g4] at he; omega

set_option maxHeartbeats 4000000 in
set_option maxRecDepth 100000 in
theorem mx_thrown (l : Launch) (D : va_G) (z : zG) (sz : Nat) (mo : Nat) (ma1 : Nat) (ma2 : Nat) (ma3 : Nat) (mb1 : Nat) (mb2 : Nat) (mg1 : Nat) (mg2 : Nat) (mt1 : Nat) (mn1 : Nat) (mn2 : Nat) (mn3 : Nat) (ml1 : Nat) (mw1 : Nat) (th : Int32) (nb : Nat) (nq : Nat) (ng : Nat) (nt : Nat) (nn : Nat)  : Met l yX7_thrown wsX7_thrown ({ frames := 0, cells := 0, slots := 0, locals := 0 }) (zPre D z [.ref mo] sz [(mo, .inr (7, [.int th, .int (nI nb), .ref ma1, .ref ma2, .ref ma3, .int (nI nq), .ref mb1, .ref mb2, .int (nI ng), .ref mg1, .ref mg2, .int (nI nt), .ref mt1, .int (nI nn), .ref mn1, .ref mn2, .ref mn3, .ref ml1, .ref mw1]))] [] (va_A [] sz)) (va_Qi (fun (r : Int32) (u : Unit) => r = th) zT (va_A [] sz)) 0 0 (va_A [] sz) := by
  refine Met.ofW (cc := cX7_thrown) (maxL := 1) (ret := (some .int)) (by decide) rfl ?_
  intro p e s m args below meth c s₁ B hml hv
  obtain ⟨rfl, hsz, hP, hK, hD, hC⟩ := hv
  have hx := B.exec
  have hb := B.bytes
  have hr := B.returns
  have hts := atoms_spec (ws := wsX7_thrown) B.pre
  have hown : s.vm.findClass RX7 = some m.cls := findClass_of_methodNamed B.named
  have hlocks := B.notSynchronized
  subst hsz
  generalize hAe : va_A [] s.heap.size = A at hC ⊢
  have hA : ∀ q : Nat, s.heap.size ≤ q → A q := fun q h => by rw [← hAe]; exact Or.inr h
  have hS : va_S A s.heap s.heap [] := va_S.rf
  have hP : va_P D vwCl [(mo, .inr (7, [.int th, .int (nI nb), .ref ma1, .ref ma2, .ref ma3, .int (nI nq), .ref mb1, .ref mb2, .int (nI ng), .ref mg1, .ref mg2, .int (nI nt), .ref mt1, .int (nI nn), .ref mn1, .ref mn2, .ref mn3, .ref ml1, .ref mw1]))] s.heap := hP
  have hl := lv_entry ([.ref mo]) (n := 1) (Nat.le_of_ble_eq_true rfl)
  rw [lg_entry_eq]
  generalize (lg_sl ([.ref mo]) ++ List.replicate (1 - (lg_sl ([.ref mo])).length) Slot.unset).toArray = ls at hl ⊢
  have hl : lv_has ls 1 [(0, .ref mo)] := hl
  refine zNameH (D := D) (A := A) (ws := [(mo, .inr (7, [.int th, .int (nI nb), .ref ma1, .ref ma2, .ref ma3, .int (nI nq), .ref mb1, .ref mb2, .int (nI ng), .ref mg1, .ref mg2, .int (nI nt), .ref mt1, .int (nI nn), .ref mn1, .ref mn2, .ref mn3, .ref ml1, .ref mw1]))]) (fun H locs hP hS => ?_) hP hS
  have k_0 := hts (.fieldLink RX7 55 "NumberRows2Model" "thrown" "I") (by decide +kernel)
  have k_1 : ∀ w ∈ wsX70, w ∈ wsX7_thrown := by decide +kernel
  refine lv_aload_n hx hb dX7_thrown_0 rfl (lv_at hl 0 rfl) ?_
  refine va_get (D := D) (ci := 7) (v := .int th) (C := RX7) (T := TX7) (N := 19) hx hb hts k_1 hown hK hP 0 rfl rfl 0 (by decide) k_0 (fun _ h9 => h9) rfl dX7_thrown_1 ?_
  exact W.iret (v := th) hx hb hr (fun t9 ht9 hW9 => ⟨⟨_, (), rfl, rfl, trivial⟩, hS.F ht9⟩) hS.2.2 dX7_thrown_4

set_option maxHeartbeats 4000000 in
set_option maxRecDepth 100000 in
theorem mx_isIn (l : Launch) (D : va_G) (z : zG) (sz : Nat) (p0 : Int64) (p1 : Int64) (p2 : Int64)  : Met l yX7_isIn wsX7_isIn ({ frames := 0, cells := 0, slots := 0, locals := 0 }) (zPre D z [.long p0, .long p1, .long p2] sz [] [] (va_A [] sz)) (va_Qi (fun (r : Int32) (u : Unit) => zB r (p1.toInt ≤ p0.toInt ∧ p0.toInt ≤ p2.toInt)) zT (va_A [] sz)) 0 0 (va_A [] sz) := by
  refine Met.ofW (cc := cX7_isIn) (maxL := 6) (ret := (some .boolean)) (by decide) rfl ?_
  intro p e s m args below meth c s₁ B hml hv
  obtain ⟨rfl, hsz, hP, hK, hD, hC⟩ := hv
  have hx := B.exec
  have hb := B.bytes
  have hr := B.returns
  have hts := atoms_spec (ws := wsX7_isIn) B.pre
  have hown : s.vm.findClass RX7 = some m.cls := findClass_of_methodNamed B.named
  have hlocks := B.notSynchronized
  subst hsz
  generalize hAe : va_A [] s.heap.size = A at hC ⊢
  have hA : ∀ q : Nat, s.heap.size ≤ q → A q := fun q h => by rw [← hAe]; exact Or.inr h
  have hS : va_S A s.heap s.heap [] := va_S.rf
  have hP : va_P D vwCl [] s.heap := hP
  have hl := lv_entry ([.long p0, .long p1, .long p2]) (n := 6) (Nat.le_of_ble_eq_true rfl)
  rw [lg_entry_eq]
  generalize (lg_sl ([.long p0, .long p1, .long p2]) ++ List.replicate (6 - (lg_sl ([.long p0, .long p1, .long p2])).length) Slot.unset).toArray = ls at hl ⊢
  have hl : lv_has ls 6 [(0, .long p0), (2, .long p1), (4, .long p2)] := hl
  refine zNameH (D := D) (A := A) (ws := []) (fun H locs hP hS => ?_) hP hS
  refine lv_lload_n hx hb dX7_isIn_0 rfl (lv_at hl 0 rfl) ?_
  refine lv_lload_n hx hb dX7_isIn_1 rfl (lv_at hl 1 rfl) ?_
  refine W.lcmp hx hb dX7_isIn_2 ?_
  refine lv_if_lt (tgt := 17) hx hb dX7_isIn_3 (by decide) (fun c_3 => ?_) (fun c_3 => ?_)
  · have c_3 : p0 < p1 := (lg_cmp_lt _ _).mp c_3
    have i_3 : p0.toInt < p1.toInt := zl_lt.mp c_3
    refine lv_iconst (v := 0) hx hb dX7_isIn_17 (by decide) ?_
    exact W.zret (v := 0) hx hb hr rfl (fun t9 ht9 hW9 => ⟨⟨_, (), rfl, zB_f (by omega), trivial⟩, hS.F ht9⟩) hS.2.2 dX7_isIn_18
  · have c_3 : ¬ (p0 < p1) := fun q9 => c_3 ((lg_cmp_lt _ _).mpr q9)
    have i_3 : ¬ (p0.toInt < p1.toInt) := fun q9 => c_3 (zl_lt.mpr q9)
    refine lv_lload_n hx hb dX7_isIn_6 rfl (lv_at hl 0 rfl) ?_
    refine lv_lload hx hb dX7_isIn_7 (lv_at hl 2 rfl) ?_
    refine W.lcmp hx hb dX7_isIn_9 ?_
    refine lv_if_gt (tgt := 17) hx hb dX7_isIn_10 (by decide) (fun c_10 => ?_) (fun c_10 => ?_)
    · have c_10 : p2 < p0 := (lg_cmp_gt _ _).mp c_10
      have i_10 : p2.toInt < p0.toInt := zl_lt.mp c_10
      refine lv_iconst (v := 0) hx hb dX7_isIn_17 (by decide) ?_
      exact W.zret (v := 0) hx hb hr rfl (fun t9 ht9 hW9 => ⟨⟨_, (), rfl, zB_f (by omega), trivial⟩, hS.F ht9⟩) hS.2.2 dX7_isIn_18
    · have c_10 : ¬ (p2 < p0) := fun q9 => c_10 ((lg_cmp_gt _ _).mpr q9)
      have i_10 : ¬ (p2.toInt < p0.toInt) := fun q9 => c_10 (zl_lt.mpr q9)
      refine lv_iconst (v := 1) hx hb dX7_isIn_13 (by decide) ?_
      refine lv_goto (tgt := 18) hx hb dX7_isIn_14 (by decide) ?_
      exact W.zret (v := 1) hx hb hr rfl (fun t9 ht9 hW9 => ⟨⟨_, (), rfl, zB_t (by omega), trivial⟩, hS.F ht9⟩) hS.2.2 dX7_isIn_18

set_option maxHeartbeats 4000000 in
set_option maxRecDepth 100000 in
theorem mx_isNumber (l : Launch) (D : va_G) (z : zG) (sz : Nat) (p0 : Int64)  : Met l yX7_isNumber wsX7_isNumber ({ frames := 0, cells := 0, slots := 0, locals := 0 }) (zPre D z [.long p0] sz [] [] (va_A [] sz)) (va_Qi (fun (r : Int32) (u : Unit) => zB r (27512614111 ≤ p0.toInt ∧ p0.toInt < 302638755221)) zT (va_A [] sz)) 0 0 (va_A [] sz) := by
  refine Met.ofW (cc := cX7_isNumber) (maxL := 2) (ret := (some .boolean)) (by decide) rfl ?_
  intro p e s m args below meth c s₁ B hml hv
  obtain ⟨rfl, hsz, hP, hK, hD, hC⟩ := hv
  have hx := B.exec
  have hb := B.bytes
  have hr := B.returns
  have hts := atoms_spec (ws := wsX7_isNumber) B.pre
  have hown : s.vm.findClass RX7 = some m.cls := findClass_of_methodNamed B.named
  have hlocks := B.notSynchronized
  subst hsz
  generalize hAe : va_A [] s.heap.size = A at hC ⊢
  have hA : ∀ q : Nat, s.heap.size ≤ q → A q := fun q h => by rw [← hAe]; exact Or.inr h
  have hS : va_S A s.heap s.heap [] := va_S.rf
  have hP : va_P D vwCl [] s.heap := hP
  have hl := lv_entry ([.long p0]) (n := 2) (Nat.le_of_ble_eq_true rfl)
  rw [lg_entry_eq]
  generalize (lg_sl ([.long p0]) ++ List.replicate (2 - (lg_sl ([.long p0])).length) Slot.unset).toArray = ls at hl ⊢
  have hl : lv_has ls 2 [(0, .long p0)] := hl
  refine zNameH (D := D) (A := A) (ws := []) (fun H locs hP hS => ?_) hP hS
  have k_0 := hts (.constantLong RX7 77 (27512614111)) (by decide +kernel)
  have k_1 := hts (.constantLong RX7 95 (302638755221)) (by decide +kernel)
  refine lv_lload_n hx hb dX7_isNumber_0 rfl (lv_at hl 0 rfl) ?_
  refine lv_ldc2 hx hb hown k_0 dX7_isNumber_1 ?_
  refine W.lcmp hx hb dX7_isNumber_4 ?_
  refine lv_if_lt (tgt := 20) hx hb dX7_isNumber_5 (by decide) (fun c_5 => ?_) (fun c_5 => ?_)
  · have c_5 : p0 < 27512614111 := (lg_cmp_lt _ _).mp c_5
    have i_5 : p0.toInt < 27512614111 := zl_lt.mp c_5
    refine lv_iconst (v := 0) hx hb dX7_isNumber_20 (by decide) ?_
    exact W.zret (v := 0) hx hb hr rfl (fun t9 ht9 hW9 => ⟨⟨_, (), rfl, zB_f (by omega), trivial⟩, hS.F ht9⟩) hS.2.2 dX7_isNumber_21
  · have c_5 : ¬ (p0 < 27512614111) := fun q9 => c_5 ((lg_cmp_lt _ _).mpr q9)
    have i_5 : ¬ (p0.toInt < 27512614111) := fun q9 => c_5 (zl_lt.mpr q9)
    refine lv_lload_n hx hb dX7_isNumber_8 rfl (lv_at hl 0 rfl) ?_
    refine lv_ldc2 hx hb hown k_1 dX7_isNumber_9 ?_
    refine W.lcmp hx hb dX7_isNumber_12 ?_
    refine lv_if_ge (tgt := 20) hx hb dX7_isNumber_13 (by decide) (fun c_13 => ?_) (fun c_13 => ?_)
    · have c_13 : 302638755221 ≤ p0 := (lg_cmp_ge _ _).mp c_13
      have i_13 : 302638755221 ≤ p0.toInt := zl_le.mp c_13
      refine lv_iconst (v := 0) hx hb dX7_isNumber_20 (by decide) ?_
      exact W.zret (v := 0) hx hb hr rfl (fun t9 ht9 hW9 => ⟨⟨_, (), rfl, zB_f (by omega), trivial⟩, hS.F ht9⟩) hS.2.2 dX7_isNumber_21
    · have c_13 : ¬ (302638755221 ≤ p0) := fun q9 => c_13 ((lg_cmp_ge _ _).mpr q9)
      have i_13 : ¬ (302638755221 ≤ p0.toInt) := fun q9 => c_13 (zl_le.mpr q9)
      refine lv_iconst (v := 1) hx hb dX7_isNumber_16 (by decide) ?_
      refine lv_goto (tgt := 21) hx hb dX7_isNumber_17 (by decide) ?_
      exact W.zret (v := 1) hx hb hr rfl (fun t9 ht9 hW9 => ⟨⟨_, (), rfl, zB_t (by omega), trivial⟩, hS.F ht9⟩) hS.2.2 dX7_isNumber_21

set_option maxHeartbeats 4000000 in
set_option maxRecDepth 100000 in
theorem mx_barredTo (l : Launch) (D : va_G) (z : zG) (sz : Nat) (mo : Nat) (ma1 : Nat) (ma2 : Nat) (ma3 : Nat) (mb1 : Nat) (mb2 : Nat) (mg1 : Nat) (mg2 : Nat) (mt1 : Nat) (mn1 : Nat) (mn2 : Nat) (mn3 : Nat) (ml1 : Nat) (mw1 : Nat) (th : Int32) (nb : Nat) (nq : Nat) (ng : Nat) (nt : Nat) (nn : Nat) (jb1 : ClassId) (qf : Nat → Int64) (jb2 : ClassId) (ql : Nat → Int64) (p0 : Int64) (hq : nq ≤ 50) (h0 : 0 ≤ p0.toInt) : Met l yX7_barredTo wsX7_barredTo ({ frames := 1, cells := 0, slots := 0, locals := 25 }) (zPre D z [.ref mo, .long p0] sz [(mo, .inr (7, [.int th, .int (nI nb), .ref ma1, .ref ma2, .ref ma3, .int (nI nq), .ref mb1, .ref mb2, .int (nI ng), .ref mg1, .ref mg2, .int (nI nt), .ref mt1, .int (nI nn), .ref mn1, .ref mn2, .ref mn3, .ref ml1, .ref mw1])), (mb1, .inl (jb1, 50, .inr (.inl qf))), (mb2, .inl (jb2, 50, .inr (.inl ql)))] [(jb1, .long), (jb2, .long)] (va_A [] sz)) (va_Ql (fun (r : Int64) (u : Unit) => zBt nq qf ql p0 r) zT (va_A [] sz)) 0 0 (va_A [] sz) := by
  refine Met.ofW (cc := cX7_barredTo) (maxL := 6) (ret := (some .long)) (by decide) rfl ?_
  intro p e s m args below meth c s₁ B hml hv
  obtain ⟨rfl, hsz, hP, hK, hD, hC⟩ := hv
  have hx := B.exec
  have hb := B.bytes
  have hr := B.returns
  have hts := atoms_spec (ws := wsX7_barredTo) B.pre
  have hown : s.vm.findClass RX7 = some m.cls := findClass_of_methodNamed B.named
  have hlocks := B.notSynchronized
  subst hsz
  generalize hAe : va_A [] s.heap.size = A at hC ⊢
  have hA : ∀ q : Nat, s.heap.size ≤ q → A q := fun q h => by rw [← hAe]; exact Or.inr h
  have hS : va_S A s.heap s.heap [] := va_S.rf
  have hP : va_P D vwCl [(mo, .inr (7, [.int th, .int (nI nb), .ref ma1, .ref ma2, .ref ma3, .int (nI nq), .ref mb1, .ref mb2, .int (nI ng), .ref mg1, .ref mg2, .int (nI nt), .ref mt1, .int (nI nn), .ref mn1, .ref mn2, .ref mn3, .ref ml1, .ref mw1])), (mb1, .inl (jb1, 50, .inr (.inl qf))), (mb2, .inl (jb2, 50, .inr (.inl ql)))] s.heap := hP
  have hl := lv_entry ([.ref mo, .long p0]) (n := 6) (Nat.le_of_ble_eq_true rfl)
  rw [lg_entry_eq]
  generalize (lg_sl ([.ref mo, .long p0]) ++ List.replicate (6 - (lg_sl ([.ref mo, .long p0])).length) Slot.unset).toArray = ls at hl ⊢
  have hl : lv_has ls 6 [(0, .ref mo), (1, .long p0)] := hl
  refine zNameH (D := D) (A := A) (ws := [(mo, .inr (7, [.int th, .int (nI nb), .ref ma1, .ref ma2, .ref ma3, .int (nI nq), .ref mb1, .ref mb2, .int (nI ng), .ref mg1, .ref mg2, .int (nI nt), .ref mt1, .int (nI nn), .ref mn1, .ref mn2, .ref mn3, .ref ml1, .ref mw1])), (mb1, .inl (jb1, 50, .inr (.inl qf))), (mb2, .inl (jb2, 50, .inr (.inl ql)))]) (fun H locs hP hS => ?_) hP hS
  have k_0 := hts (.constantLong RX7 69 (-1)) (by decide +kernel)
  have k_1 := hts (.fieldLink RX7 71 "NumberRows2Model" "barred" "I") (by decide +kernel)
  have k_2 : ∀ w ∈ wsX70, w ∈ wsX7_barredTo := by decide +kernel
  have k_3 := hts (.fieldLink RX7 20 "NumberRows2Model" "barFroms" "[J") (by decide +kernel)
  have k_4 := hts (.fieldLink RX7 23 "NumberRows2Model" "barTos" "[J") (by decide +kernel)
  refine lv_ldc2 hx hb hown k_0 dX7_barredTo_0 ?_
  refine lv_lstore_n (lv' := [(3, .long (-1)), (0, .ref mo), (1, .long p0)]) hx hb dX7_barredTo_3 rfl hl (by decide) rfl (fun ls hl => ?_)
  refine lv_iconst (v := 0) hx hb dX7_barredTo_4 (by decide) ?_
  refine lv_istore (lv' := [(5, .int 0), (3, .long (-1)), (0, .ref mo), (1, .long p0)]) hx hb dX7_barredTo_5 hl (by decide) rfl (fun ls hl => ?_)
  refine zLoop (σ := Nat × Int64) (nL := 6) (μ := fun (x : Nat × Int64) => match x with | (i, e9) => nq - i) (lv := fun (x : Nat × Int64) => match x with | (i, e9) => [(5, .int (nI i)), (0, .ref mo), (1, .long p0), (3, .long e9)]) (wf := fun (x : Nat × Int64) => match x with | (i, e9) => [(mo, .inr (7, [.int th, .int (nI nb), .ref ma1, .ref ma2, .ref ma3, .int (nI nq), .ref mb1, .ref mb2, .int (nI ng), .ref mg1, .ref mg2, .int (nI nt), .ref mt1, .int (nI nn), .ref mn1, .ref mn2, .ref mn3, .ref ml1, .ref mw1])), (mb1, .inl (jb1, 50, .inr (.inl qf))), (mb2, .inl (jb2, 50, .inr (.inl ql)))]) (I := fun (x : Nat × Int64) => match x with | (i, e9) => zBtI nq qf ql p0 i e9) (fun x H locs ls hI hP hD hS hl ih => ?_) (0, (-1)) ⟨Nat.zero_le _, Or.inl ⟨rfl, fun j hj => absurd hj (Nat.not_lt_zero j)⟩⟩ hP hD hS (lv_sub hl [0, 2, 3, 1] rfl)
  obtain ⟨i, e9⟩ := x
  have hI : zBtI nq qf ql p0 i e9 := hI
  have hl : lv_has ls 6 [(5, .int (nI i)), (0, .ref mo), (1, .long p0), (3, .long e9)] := hl
  have hP : va_P D vwCl [(mo, .inr (7, [.int th, .int (nI nb), .ref ma1, .ref ma2, .ref ma3, .int (nI nq), .ref mb1, .ref mb2, .int (nI ng), .ref mg1, .ref mg2, .int (nI nt), .ref mt1, .int (nI nn), .ref mn1, .ref mn2, .ref mn3, .ref ml1, .ref mw1])), (mb1, .inl (jb1, 50, .inr (.inl qf))), (mb2, .inl (jb2, 50, .inr (.inl ql)))] H := hP
  have hD : va_D (fun _ => True) [(mo, .inr (7, [.int th, .int (nI nb), .ref ma1, .ref ma2, .ref ma3, .int (nI nq), .ref mb1, .ref mb2, .int (nI ng), .ref mg1, .ref mg2, .int (nI nt), .ref mt1, .int (nI nn), .ref mn1, .ref mn2, .ref mn3, .ref ml1, .ref mw1])), (mb1, .inl (jb1, 50, .inr (.inl qf))), (mb2, .inl (jb2, 50, .inr (.inl ql)))] := hD
  have h1 := hI.1
  refine lv_iload hx hb dX7_barredTo_7 (lv_at hl 0 rfl) ?_
  refine lv_aload_n hx hb dX7_barredTo_9 rfl (lv_at hl 1 rfl) ?_
  refine va_get (D := D) (ci := 7) (v := .int (nI nq)) (C := RX7) (T := TX7) (N := 19) hx hb hts k_2 hown hK hP 0 rfl rfl 5 (by decide) k_1 (fun _ h9 => h9) rfl dX7_barredTo_10 ?_
  refine lv_icmp_ge (tgt := 67) hx hb dX7_barredTo_13 (by decide) (fun c_13 => ?_) (fun c_13 => ?_)
  · have c_13 : nq ≤ i := (nI_leI (a := nq) (b := i) (by omega) (by omega)).mp c_13
    refine lv_lload_n hx hb dX7_barredTo_67 rfl (lv_at hl 3 rfl) ?_
    exact W.lret (v := e9) hx hb hr (fun t9 ht9 hW9 => ⟨⟨_, (), rfl, zBtI_end hI (by omega), trivial⟩, hS.F ht9⟩) hS.2.2 dX7_barredTo_68
  · have c_13 : ¬ (nq ≤ i) := fun q9 => c_13 ((nI_leI (a := nq) (b := i) (by omega) (by omega)).mpr q9)
    refine lv_lload_n hx hb dX7_barredTo_16 rfl (lv_at hl 2 rfl) ?_
    refine lv_aload_n hx hb dX7_barredTo_17 rfl (lv_at hl 1 rfl) ?_
    refine va_get (D := D) (ci := 7) (v := .ref mb1) (C := RX7) (T := TX7) (N := 19) hx hb hts k_2 hown hK hP 0 rfl rfl 6 (by decide) k_3 (fun _ h9 => h9) rfl dX7_barredTo_18 ?_
    refine lv_iload hx hb dX7_barredTo_21 (lv_at hl 0 rfl) ?_
    refine z_lald (k := i) hx hb hK hP 1 0 rfl rfl (by omega) (by decide) dX7_barredTo_23 ?_
    refine lv_aload_n hx hb dX7_barredTo_24 rfl (lv_at hl 1 rfl) ?_
    refine va_get (D := D) (ci := 7) (v := .ref mb2) (C := RX7) (T := TX7) (N := 19) hx hb hts k_2 hown hK hP 0 rfl rfl 7 (by decide) k_4 (fun _ h9 => h9) rfl dX7_barredTo_25 ?_
    refine lv_iload hx hb dX7_barredTo_28 (lv_at hl 0 rfl) ?_
    refine z_lald (k := i) hx hb hK hP 2 1 rfl rfl (by omega) (by decide) dX7_barredTo_30 ?_
    refine zRo_i (va_runS (As := [.long p0, .long (qf i), .long (ql i)]) (rest := []) ⟨hx, hb, hml, hown, hts⟩ (mx_isIn l D z H.size p0 (qf i) (ql i) ) (va_cwS 3 hts gX7_barredTo_X7_isIn rfl rfl rfl (by decide +kernel) ⟨Nat.le_of_ble_eq_true rfl, Nat.le_of_ble_eq_true rfl⟩) ⟨zPre_blind, (zPre_mk (wc := []) (tc := []) hP hK hD hC hS [] (by decide) rfl rfl [] rfl (zro_free hS hA))⟩ rfl rfl hl.1 rfl (lv_room (Nat.le_of_ble_eq_true rfl)) dX7_barredTo_31 ⟨Nat.zero_le _, Nat.zero_le _⟩) hS hA hP (fun r_31 H locs hw hP hS => ?_)
    have hw_31 : zB r_31 ((qf i).toInt ≤ p0.toInt ∧ p0.toInt ≤ (ql i).toInt) := hw
    refine lv_if_eq (tgt := 59) hx hb dX7_barredTo_34 (by decide) (fun c_34 => ?_) (fun c_34 => ?_)
    · have i_34 : r_31.toInt = 0 := zi_eq.mp c_34
      refine lv_lload_n hx hb dX7_barredTo_59 rfl (lv_at hl 3 rfl) ?_
      refine lv_lstore_n (lv' := [(3, .long e9), (5, .int (nI i)), (0, .ref mo), (1, .long p0)]) hx hb dX7_barredTo_60 rfl hl (by decide) rfl (fun ls hl => ?_)
      refine lv_iinc (v := (nI (i + 1))) (lv' := [(5, .int (nI (i + 1))), (3, .long e9), (0, .ref mo), (1, .long p0)]) hx hb dX7_barredTo_61 hl (k := 1) rfl (by first | exact nI_1 _ | rfl) (by decide) rfl (fun ls hl => ?_)
      refine lv_goto (tgt := 7) hx hb dX7_barredTo_64 (by decide) ?_
      exact ih (i + 1, e9) _ _ _ (show nq - (i + 1) < nq - i from (by omega)) (zBtI_no hI (by omega) (zB_eq hw_31 c_34)) hP hD hS (lv_sub hl [0, 2, 3, 1] rfl)
    · have i_34 : ¬ (r_31.toInt = 0) := fun q9 => c_34 (zi_eq.mpr q9)
      refine lv_aload_n hx hb dX7_barredTo_37 rfl (lv_at hl 1 rfl) ?_
      refine va_get (D := D) (ci := 7) (v := .ref mb2) (C := RX7) (T := TX7) (N := 19) hx hb hts k_2 hown hK hP 0 rfl rfl 7 (by decide) k_4 (fun _ h9 => h9) rfl dX7_barredTo_38 ?_
      refine lv_iload hx hb dX7_barredTo_41 (lv_at hl 0 rfl) ?_
      refine z_lald (k := i) hx hb hK hP 2 1 rfl rfl (by omega) (by decide) dX7_barredTo_43 ?_
      refine lv_lload_n hx hb dX7_barredTo_44 rfl (lv_at hl 3 rfl) ?_
      refine W.lcmp hx hb dX7_barredTo_45 ?_
      refine lv_if_le (tgt := 59) hx hb dX7_barredTo_46 (by decide) (fun c_46 => ?_) (fun c_46 => ?_)
      · have c_46 : (ql i) ≤ e9 := (lg_cmp_le _ _).mp c_46
        have i_46 : (ql i).toInt ≤ e9.toInt := zl_le.mp c_46
        refine lv_lload_n hx hb dX7_barredTo_59 rfl (lv_at hl 3 rfl) ?_
        refine lv_lstore_n (lv' := [(3, .long e9), (5, .int (nI i)), (0, .ref mo), (1, .long p0)]) hx hb dX7_barredTo_60 rfl hl (by decide) rfl (fun ls hl => ?_)
        refine lv_iinc (v := (nI (i + 1))) (lv' := [(5, .int (nI (i + 1))), (3, .long e9), (0, .ref mo), (1, .long p0)]) hx hb dX7_barredTo_61 hl (k := 1) rfl (by first | exact nI_1 _ | rfl) (by decide) rfl (fun ls hl => ?_)
        refine lv_goto (tgt := 7) hx hb dX7_barredTo_64 (by decide) ?_
        exact ih (i + 1, e9) _ _ _ (show nq - (i + 1) < nq - i from (by omega)) (zBtI_low hI (by omega) h0 (zB_ne hw_31 c_34) i_46) hP hD hS (lv_sub hl [0, 2, 3, 1] rfl)
      · have c_46 : ¬ ((ql i) ≤ e9) := fun q9 => c_46 ((lg_cmp_le _ _).mpr q9)
        have i_46 : ¬ ((ql i).toInt ≤ e9.toInt) := fun q9 => c_46 (zl_le.mpr q9)
        refine lv_aload_n hx hb dX7_barredTo_49 rfl (lv_at hl 1 rfl) ?_
        refine va_get (D := D) (ci := 7) (v := .ref mb2) (C := RX7) (T := TX7) (N := 19) hx hb hts k_2 hown hK hP 0 rfl rfl 7 (by decide) k_4 (fun _ h9 => h9) rfl dX7_barredTo_50 ?_
        refine lv_iload hx hb dX7_barredTo_53 (lv_at hl 0 rfl) ?_
        refine z_lald (k := i) hx hb hK hP 2 1 rfl rfl (by omega) (by decide) dX7_barredTo_55 ?_
        refine lv_goto (tgt := 60) hx hb dX7_barredTo_56 (by decide) ?_
        refine lv_lstore_n (lv' := [(3, .long (ql i)), (5, .int (nI i)), (0, .ref mo), (1, .long p0)]) hx hb dX7_barredTo_60 rfl hl (by decide) rfl (fun ls hl => ?_)
        refine lv_iinc (v := (nI (i + 1))) (lv' := [(5, .int (nI (i + 1))), (3, .long (ql i)), (0, .ref mo), (1, .long p0)]) hx hb dX7_barredTo_61 hl (k := 1) rfl (by first | exact nI_1 _ | rfl) (by decide) rfl (fun ls hl => ?_)
        refine lv_goto (tgt := 7) hx hb dX7_barredTo_64 (by decide) ?_
        exact ih (i + 1, ql i) _ _ _ (show nq - (i + 1) < nq - i from (by omega)) (zBtI_hit hI (by omega) (zB_ne hw_31 c_34)) hP hD hS (lv_sub hl [0, 2, 3, 1] rfl)

set_option maxHeartbeats 4000000 in
set_option maxRecDepth 100000 in
theorem mx_wasGiven (l : Launch) (D : va_G) (z : zG) (sz : Nat) (mo : Nat) (ma1 : Nat) (ma2 : Nat) (ma3 : Nat) (mb1 : Nat) (mb2 : Nat) (mg1 : Nat) (mg2 : Nat) (mt1 : Nat) (mn1 : Nat) (mn2 : Nat) (mn3 : Nat) (ml1 : Nat) (mw1 : Nat) (th : Int32) (nb : Nat) (nq : Nat) (ng : Nat) (nt : Nat) (nn : Nat) (jg1 : ClassId) (gn : Nat → Int64) (p0 : Int64) (hg : ng ≤ 4200) : Met l yX7_wasGiven wsX7_wasGiven ({ frames := 0, cells := 0, slots := 0, locals := 0 }) (zPre D z [.ref mo, .long p0] sz [(mo, .inr (7, [.int th, .int (nI nb), .ref ma1, .ref ma2, .ref ma3, .int (nI nq), .ref mb1, .ref mb2, .int (nI ng), .ref mg1, .ref mg2, .int (nI nt), .ref mt1, .int (nI nn), .ref mn1, .ref mn2, .ref mn3, .ref ml1, .ref mw1])), (mg1, .inl (jg1, 4200, .inr (.inl gn)))] [(jg1, .long)] (va_A [] sz)) (va_Qi (fun (r : Int32) (u : Unit) => zB r (zG9 ng gn p0)) zT (va_A [] sz)) 0 0 (va_A [] sz) := by
  refine Met.ofW (cc := cX7_wasGiven) (maxL := 4) (ret := (some .boolean)) (by decide) rfl ?_
  intro p e s m args below meth c s₁ B hml hv
  obtain ⟨rfl, hsz, hP, hK, hD, hC⟩ := hv
  have hx := B.exec
  have hb := B.bytes
  have hr := B.returns
  have hts := atoms_spec (ws := wsX7_wasGiven) B.pre
  have hown : s.vm.findClass RX7 = some m.cls := findClass_of_methodNamed B.named
  have hlocks := B.notSynchronized
  subst hsz
  generalize hAe : va_A [] s.heap.size = A at hC ⊢
  have hA : ∀ q : Nat, s.heap.size ≤ q → A q := fun q h => by rw [← hAe]; exact Or.inr h
  have hS : va_S A s.heap s.heap [] := va_S.rf
  have hP : va_P D vwCl [(mo, .inr (7, [.int th, .int (nI nb), .ref ma1, .ref ma2, .ref ma3, .int (nI nq), .ref mb1, .ref mb2, .int (nI ng), .ref mg1, .ref mg2, .int (nI nt), .ref mt1, .int (nI nn), .ref mn1, .ref mn2, .ref mn3, .ref ml1, .ref mw1])), (mg1, .inl (jg1, 4200, .inr (.inl gn)))] s.heap := hP
  have hl := lv_entry ([.ref mo, .long p0]) (n := 4) (Nat.le_of_ble_eq_true rfl)
  rw [lg_entry_eq]
  generalize (lg_sl ([.ref mo, .long p0]) ++ List.replicate (4 - (lg_sl ([.ref mo, .long p0])).length) Slot.unset).toArray = ls at hl ⊢
  have hl : lv_has ls 4 [(0, .ref mo), (1, .long p0)] := hl
  refine zNameH (D := D) (A := A) (ws := [(mo, .inr (7, [.int th, .int (nI nb), .ref ma1, .ref ma2, .ref ma3, .int (nI nq), .ref mb1, .ref mb2, .int (nI ng), .ref mg1, .ref mg2, .int (nI nt), .ref mt1, .int (nI nn), .ref mn1, .ref mn2, .ref mn3, .ref ml1, .ref mw1])), (mg1, .inl (jg1, 4200, .inr (.inl gn)))]) (fun H locs hP hS => ?_) hP hS
  have k_0 := hts (.fieldLink RX7 74 "NumberRows2Model" "gave" "I") (by decide +kernel)
  have k_1 : ∀ w ∈ wsX70, w ∈ wsX7_wasGiven := by decide +kernel
  have k_2 := hts (.fieldLink RX7 26 "NumberRows2Model" "numbers" "[J") (by decide +kernel)
  have k_3 := hts (.constantLong RX7 77 (27512614111)) (by decide +kernel)
  refine lv_iconst (v := 0) hx hb dX7_wasGiven_0 (by decide) ?_
  refine lv_istore_n (lv' := [(3, .int 0), (0, .ref mo), (1, .long p0)]) hx hb dX7_wasGiven_1 rfl hl (by decide) rfl (fun ls hl => ?_)
  refine zLoop (σ := Nat) (nL := 4) (μ := fun (i : Nat) => ng - i) (lv := fun (i : Nat) => [(3, .int (nI i)), (0, .ref mo), (1, .long p0)]) (wf := fun (i : Nat) => [(mo, .inr (7, [.int th, .int (nI nb), .ref ma1, .ref ma2, .ref ma3, .int (nI nq), .ref mb1, .ref mb2, .int (nI ng), .ref mg1, .ref mg2, .int (nI nt), .ref mt1, .int (nI nn), .ref mn1, .ref mn2, .ref mn3, .ref ml1, .ref mw1])), (mg1, .inl (jg1, 4200, .inr (.inl gn)))]) (I := fun (i : Nat) => i ≤ ng ∧ ∀ j, j < i → ¬ zser (gn j) = p0) (fun x H locs ls hI hP hD hS hl ih => ?_) 0 ⟨Nat.zero_le _, fun j hj => absurd hj (Nat.not_lt_zero j)⟩ hP hD hS (lv_sub hl [0, 1, 2] rfl)
  obtain ⟨i, rfl⟩ : ∃ y9, y9 = x := ⟨_, rfl⟩
  have hI : i ≤ ng ∧ ∀ j, j < i → ¬ zser (gn j) = p0 := hI
  have hl : lv_has ls 4 [(3, .int (nI i)), (0, .ref mo), (1, .long p0)] := hl
  have hP : va_P D vwCl [(mo, .inr (7, [.int th, .int (nI nb), .ref ma1, .ref ma2, .ref ma3, .int (nI nq), .ref mb1, .ref mb2, .int (nI ng), .ref mg1, .ref mg2, .int (nI nt), .ref mt1, .int (nI nn), .ref mn1, .ref mn2, .ref mn3, .ref ml1, .ref mw1])), (mg1, .inl (jg1, 4200, .inr (.inl gn)))] H := hP
  have hD : va_D (fun _ => True) [(mo, .inr (7, [.int th, .int (nI nb), .ref ma1, .ref ma2, .ref ma3, .int (nI nq), .ref mb1, .ref mb2, .int (nI ng), .ref mg1, .ref mg2, .int (nI nt), .ref mt1, .int (nI nn), .ref mn1, .ref mn2, .ref mn3, .ref ml1, .ref mw1])), (mg1, .inl (jg1, 4200, .inr (.inl gn)))] := hD
  have h1 := hI.1
  refine lv_iload_n hx hb dX7_wasGiven_2 rfl (lv_at hl 0 rfl) ?_
  refine lv_aload_n hx hb dX7_wasGiven_3 rfl (lv_at hl 1 rfl) ?_
  refine va_get (D := D) (ci := 7) (v := .int (nI ng)) (C := RX7) (T := TX7) (N := 19) hx hb hts k_1 hown hK hP 0 rfl rfl 8 (by decide) k_0 (fun _ h9 => h9) rfl dX7_wasGiven_4 ?_
  refine lv_icmp_ge (tgt := 33) hx hb dX7_wasGiven_7 (by decide) (fun c_7 => ?_) (fun c_7 => ?_)
  · have c_7 : ng ≤ i := (nI_leI (a := ng) (b := i) (by omega) (by omega)).mp c_7
    refine lv_iconst (v := 0) hx hb dX7_wasGiven_33 (by decide) ?_
    exact W.zret (v := 0) hx hb hr rfl (fun t9 ht9 hW9 => ⟨⟨_, (), rfl, zB_f (fun ⟨j, q1, q2⟩ => hI.2 j (by omega) q2), trivial⟩, hS.F ht9⟩) hS.2.2 dX7_wasGiven_34
  · have c_7 : ¬ (ng ≤ i) := fun q9 => c_7 ((nI_leI (a := ng) (b := i) (by omega) (by omega)).mpr q9)
    refine lv_aload_n hx hb dX7_wasGiven_10 rfl (lv_at hl 1 rfl) ?_
    refine va_get (D := D) (ci := 7) (v := .ref mg1) (C := RX7) (T := TX7) (N := 19) hx hb hts k_1 hown hK hP 0 rfl rfl 9 (by decide) k_2 (fun _ h9 => h9) rfl dX7_wasGiven_11 ?_
    refine lv_iload_n hx hb dX7_wasGiven_14 rfl (lv_at hl 0 rfl) ?_
    refine z_lald (k := i) hx hb hK hP 1 0 rfl rfl (by omega) (by decide) dX7_wasGiven_15 ?_
    refine lv_ldc2 hx hb hown k_3 dX7_wasGiven_16 ?_
    refine lv_lrem hx hb dX7_wasGiven_19 (by decide) ?_
    refine lv_lload_n hx hb dX7_wasGiven_20 rfl (lv_at hl 2 rfl) ?_
    refine W.lcmp hx hb dX7_wasGiven_21 ?_
    refine lv_if_ne (tgt := 27) hx hb dX7_wasGiven_22 (by decide) (fun c_22 => ?_) (fun c_22 => ?_)
    · have c_22 : ¬ (((gn i) - (gn i) / 27512614111 * 27512614111) = p0) := fun q9 => c_22 ((lg_cmp_eq _ _).mpr q9)
      have i_22 : ¬ (((gn i) - (gn i) / 27512614111 * 27512614111).toInt = p0.toInt) := fun q9 => c_22 (zl_eq.mpr q9)
      refine lv_iinc (v := (nI (i + 1))) (lv' := [(3, .int (nI (i + 1))), (0, .ref mo), (1, .long p0)]) hx hb dX7_wasGiven_27 hl (k := 0) rfl (by first | exact nI_1 _ | rfl) (by decide) rfl (fun ls hl => ?_)
      refine lv_goto (tgt := 2) hx hb dX7_wasGiven_30 (by decide) ?_
      exact ih (i + 1) _ _ _ (show ng - (i + 1) < ng - i from (by omega)) ⟨by omega, lt_s hI.2 c_22⟩ hP hD hS (lv_sub hl [0, 1, 2] rfl)
    · have c_22 : ((gn i) - (gn i) / 27512614111 * 27512614111) = p0 := (lg_cmp_eq _ _).mp c_22
      have i_22 : ((gn i) - (gn i) / 27512614111 * 27512614111).toInt = p0.toInt := zl_eq.mp c_22
      refine lv_iconst (v := 1) hx hb dX7_wasGiven_25 (by decide) ?_
      exact W.zret (v := 1) hx hb hr rfl (fun t9 ht9 hW9 => ⟨⟨_, (), rfl, zB_t ⟨i, by omega, c_22⟩, trivial⟩, hS.F ht9⟩) hS.2.2 dX7_wasGiven_26

set_option maxHeartbeats 8000000 in
set_option maxRecDepth 100000 in
theorem mx_free (l : Launch) (D : va_G) (z : zG) (sz : Nat) (mo : Nat) (ma1 : Nat) (ma2 : Nat) (ma3 : Nat) (mb1 : Nat) (mb2 : Nat) (mg1 : Nat) (mg2 : Nat) (mt1 : Nat) (mn1 : Nat) (mn2 : Nat) (mn3 : Nat) (ml1 : Nat) (mw1 : Nat) (th : Int32) (nb : Nat) (nq : Nat) (ng : Nat) (nt : Nat) (nn : Nat) (ja2 : ClassId) (bf : Nat → Int64) (ja3 : ClassId) (bl : Nat → Int64) (jb1 : ClassId) (qf : Nat → Int64) (jb2 : ClassId) (ql : Nat → Int64) (jg1 : ClassId) (gn : Nat → Int64) (i : Nat) (hi : i < 50) (hq : nq ≤ 50) (hg : ng ≤ 4200) (ht : zTop nq ql) (hb0 : 0 ≤ (bf i).toInt ∧ (bf i).toInt ≤ (bl i).toInt ∧ (bl i).toInt < 20000000000) : Met l yX7_free wsX7_free ({ frames := 2, cells := 0, slots := 0, locals := 50 }) (zPre D z [.ref mo, .int (nI i)] sz [(mo, .inr (7, [.int th, .int (nI nb), .ref ma1, .ref ma2, .ref ma3, .int (nI nq), .ref mb1, .ref mb2, .int (nI ng), .ref mg1, .ref mg2, .int (nI nt), .ref mt1, .int (nI nn), .ref mn1, .ref mn2, .ref mn3, .ref ml1, .ref mw1])), (ma2, .inl (ja2, 50, .inr (.inl bf))), (ma3, .inl (ja3, 50, .inr (.inl bl))), (mb1, .inl (jb1, 50, .inr (.inl qf))), (mb2, .inl (jb2, 50, .inr (.inl ql))), (mg1, .inl (jg1, 4200, .inr (.inl gn)))] [(ja2, .long), (ja3, .long), (jb1, .long), (jb2, .long), (jg1, .long)] (va_A [] sz)) (va_Ql (fun (r : Int64) (u : Unit) => zFre nq qf ql ng gn (bf i) (bl i) r ∨ (zFul nq qf ql ng gn (bf i) (bl i) ∧ r = -1)) zT (va_A [] sz)) 0 0 (va_A [] sz) := by
  refine Met.ofW (cc := cX7_free) (maxL := 7) (ret := (some .long)) (by decide) rfl ?_
  intro p e s m args below meth c s₁ B hml hv
  obtain ⟨rfl, hsz, hP, hK, hD, hC⟩ := hv
  have hx := B.exec
  have hb := B.bytes
  have hr := B.returns
  have hts := atoms_spec (ws := wsX7_free) B.pre
  have hown : s.vm.findClass RX7 = some m.cls := findClass_of_methodNamed B.named
  have hlocks := B.notSynchronized
  subst hsz
  generalize hAe : va_A [] s.heap.size = A at hC ⊢
  have hA : ∀ q : Nat, s.heap.size ≤ q → A q := fun q h => by rw [← hAe]; exact Or.inr h
  have hS : va_S A s.heap s.heap [] := va_S.rf
  have hP : va_P D vwCl [(mo, .inr (7, [.int th, .int (nI nb), .ref ma1, .ref ma2, .ref ma3, .int (nI nq), .ref mb1, .ref mb2, .int (nI ng), .ref mg1, .ref mg2, .int (nI nt), .ref mt1, .int (nI nn), .ref mn1, .ref mn2, .ref mn3, .ref ml1, .ref mw1])), (ma2, .inl (ja2, 50, .inr (.inl bf))), (ma3, .inl (ja3, 50, .inr (.inl bl))), (mb1, .inl (jb1, 50, .inr (.inl qf))), (mb2, .inl (jb2, 50, .inr (.inl ql))), (mg1, .inl (jg1, 4200, .inr (.inl gn)))] s.heap := hP
  have hl := lv_entry ([.ref mo, .int (nI i)]) (n := 7) (Nat.le_of_ble_eq_true rfl)
  rw [lg_entry_eq]
  generalize (lg_sl ([.ref mo, .int (nI i)]) ++ List.replicate (7 - (lg_sl ([.ref mo, .int (nI i)])).length) Slot.unset).toArray = ls at hl ⊢
  have hl : lv_has ls 7 [(0, .ref mo), (1, .int (nI i))] := hl
  refine zNameH (D := D) (A := A) (ws := [(mo, .inr (7, [.int th, .int (nI nb), .ref ma1, .ref ma2, .ref ma3, .int (nI nq), .ref mb1, .ref mb2, .int (nI ng), .ref mg1, .ref mg2, .int (nI nt), .ref mt1, .int (nI nn), .ref mn1, .ref mn2, .ref mn3, .ref ml1, .ref mw1])), (ma2, .inl (ja2, 50, .inr (.inl bf))), (ma3, .inl (ja3, 50, .inr (.inl bl))), (mb1, .inl (jb1, 50, .inr (.inl qf))), (mb2, .inl (jb2, 50, .inr (.inl ql))), (mg1, .inl (jg1, 4200, .inr (.inl gn)))]) (fun H locs hP hS => ?_) hP hS
  have k_0 := hts (.fieldLink RX7 13 "NumberRows2Model" "froms" "[J") (by decide +kernel)
  have k_1 : ∀ w ∈ wsX70, w ∈ wsX7_free := by decide +kernel
  have k_2 := hts (.fieldLink RX7 17 "NumberRows2Model" "tos" "[J") (by decide +kernel)
  have k_3 := hts (.constantLong RX7 69 (-1)) (by decide +kernel)
  refine lv_aload_n hx hb dX7_free_0 rfl (lv_at hl 0 rfl) ?_
  refine va_get (D := D) (ci := 7) (v := .ref ma2) (C := RX7) (T := TX7) (N := 19) hx hb hts k_1 hown hK hP 0 rfl rfl 3 (by decide) k_0 (fun _ h9 => h9) rfl dX7_free_1 ?_
  refine lv_iload_n hx hb dX7_free_4 rfl (lv_at hl 1 rfl) ?_
  refine z_lald (k := i) hx hb hK hP 1 0 rfl rfl (by omega) (by decide) dX7_free_5 ?_
  refine lv_lstore_n (lv' := [(2, .long (bf i)), (0, .ref mo), (1, .int (nI i))]) hx hb dX7_free_6 rfl hl (by decide) rfl (fun ls hl => ?_)
  refine lv_iconst (v := 1) hx hb dX7_free_7 (by decide) ?_
  refine lv_istore (lv' := [(4, .int 1), (2, .long (bf i)), (0, .ref mo), (1, .int (nI i))]) hx hb dX7_free_8 hl (by decide) rfl (fun ls hl => ?_)
  refine zLoop (σ := Int64 × Nat) (nL := 7) (μ := fun (x : Int64 × Nat) => match x with | (x, k) => 2 * (27512614112 - x.toInt).toNat + k) (lv := fun (x : Int64 × Nat) => match x with | (x, k) => [(4, .int (nI k)), (0, .ref mo), (1, .int (nI i)), (2, .long x)]) (wf := fun (x : Int64 × Nat) => match x with | (x, k) => [(mo, .inr (7, [.int th, .int (nI nb), .ref ma1, .ref ma2, .ref ma3, .int (nI nq), .ref mb1, .ref mb2, .int (nI ng), .ref mg1, .ref mg2, .int (nI nt), .ref mt1, .int (nI nn), .ref mn1, .ref mn2, .ref mn3, .ref ml1, .ref mw1])), (ma2, .inl (ja2, 50, .inr (.inl bf))), (ma3, .inl (ja3, 50, .inr (.inl bl))), (mb1, .inl (jb1, 50, .inr (.inl qf))), (mb2, .inl (jb2, 50, .inr (.inl ql))), (mg1, .inl (jg1, 4200, .inr (.inl gn)))]) (I := fun (x : Int64 × Nat) => match x with | (x, k) => zFrI nq qf ql ng gn (bf i) (bl i) x k) (fun x H locs ls hI hP hD hS hl ih => ?_) (bf i, 1) ⟨Nat.le_refl _, zl_le.mpr (Int.le_refl _), by omega, fun y q1 q2 => by rw [zl_le] at q1; rw [zl_lt] at q2; omega, fun q => by omega⟩ hP hD hS (lv_sub hl [0, 2, 3, 1] rfl)
  obtain ⟨x, k⟩ := x
  have hI : zFrI nq qf ql ng gn (bf i) (bl i) x k := hI
  have hl : lv_has ls 7 [(4, .int (nI k)), (0, .ref mo), (1, .int (nI i)), (2, .long x)] := hl
  have hP : va_P D vwCl [(mo, .inr (7, [.int th, .int (nI nb), .ref ma1, .ref ma2, .ref ma3, .int (nI nq), .ref mb1, .ref mb2, .int (nI ng), .ref mg1, .ref mg2, .int (nI nt), .ref mt1, .int (nI nn), .ref mn1, .ref mn2, .ref mn3, .ref ml1, .ref mw1])), (ma2, .inl (ja2, 50, .inr (.inl bf))), (ma3, .inl (ja3, 50, .inr (.inl bl))), (mb1, .inl (jb1, 50, .inr (.inl qf))), (mb2, .inl (jb2, 50, .inr (.inl ql))), (mg1, .inl (jg1, 4200, .inr (.inl gn)))] H := hP
  have hD : va_D (fun _ => True) [(mo, .inr (7, [.int th, .int (nI nb), .ref ma1, .ref ma2, .ref ma3, .int (nI nq), .ref mb1, .ref mb2, .int (nI ng), .ref mg1, .ref mg2, .int (nI nt), .ref mt1, .int (nI nn), .ref mn1, .ref mn2, .ref mn3, .ref ml1, .ref mw1])), (ma2, .inl (ja2, 50, .inr (.inl bf))), (ma3, .inl (ja3, 50, .inr (.inl bl))), (mb1, .inl (jb1, 50, .inr (.inl qf))), (mb2, .inl (jb2, 50, .inr (.inl ql))), (mg1, .inl (jg1, 4200, .inr (.inl gn)))] := hD
  have h1 := hI.1
  have h0 : 0 ≤ x.toInt := by have := zl_le.mp hI.2.1; omega
  have h3 := hI.2.2.1
  refine lv_iload hx hb dX7_free_10 (lv_at hl 0 rfl) ?_
  refine lv_if_eq (tgt := 85) hx hb dX7_free_12 (by decide) (fun c_12 => ?_) (fun c_12 => ?_)
  · have c_12 : k = 0 := (nI_eq (a := k) (b := 0) (by omega) (by omega)).mp c_12
    refine lv_lload_n hx hb dX7_free_85 rfl (lv_at hl 3 rfl) ?_
    refine lv_aload_n hx hb dX7_free_86 rfl (lv_at hl 1 rfl) ?_
    refine va_get (D := D) (ci := 7) (v := .ref ma3) (C := RX7) (T := TX7) (N := 19) hx hb hts k_1 hown hK hP 0 rfl rfl 4 (by decide) k_2 (fun _ h9 => h9) rfl dX7_free_87 ?_
    refine lv_iload_n hx hb dX7_free_90 rfl (lv_at hl 2 rfl) ?_
    refine z_lald (k := i) hx hb hK hP 2 1 rfl rfl (by omega) (by decide) dX7_free_91 ?_
    refine W.lcmp hx hb dX7_free_92 ?_
    refine lv_if_gt (tgt := 100) hx hb dX7_free_93 (by decide) (fun c_93 => ?_) (fun c_93 => ?_)
    · have c_93 : (bl i) < x := (lg_cmp_gt _ _).mp c_93
      have i_93 : (bl i).toInt < x.toInt := zl_lt.mp c_93
      exact absurd c_93 (Int64.not_lt.mpr (hI.2.2.2.2 c_12).1)
    · have c_93 : ¬ ((bl i) < x) := fun q9 => c_93 ((lg_cmp_gt _ _).mpr q9)
      have i_93 : ¬ ((bl i).toInt < x.toInt) := fun q9 => c_93 (zl_lt.mpr q9)
      refine lv_lload_n hx hb dX7_free_96 rfl (lv_at hl 3 rfl) ?_
      refine lv_goto (tgt := 103) hx hb dX7_free_97 (by decide) ?_
      exact W.lret (v := x) hx hb hr (fun t9 ht9 hW9 => ⟨⟨_, (), rfl, Or.inl ⟨hI.2.1, (hI.2.2.2.2 c_12).1, (hI.2.2.2.2 c_12).2.1, (hI.2.2.2.2 c_12).2.2, hI.2.2.2.1⟩, trivial⟩, hS.F ht9⟩) hS.2.2 dX7_free_103
  · have c_12 : ¬ (k = 0) := fun q9 => c_12 ((nI_eq (a := k) (b := 0) (by omega) (by omega)).mpr q9)
    refine lv_lload_n hx hb dX7_free_15 rfl (lv_at hl 3 rfl) ?_
    refine lv_aload_n hx hb dX7_free_16 rfl (lv_at hl 1 rfl) ?_
    refine va_get (D := D) (ci := 7) (v := .ref ma3) (C := RX7) (T := TX7) (N := 19) hx hb hts k_1 hown hK hP 0 rfl rfl 4 (by decide) k_2 (fun _ h9 => h9) rfl dX7_free_17 ?_
    refine lv_iload_n hx hb dX7_free_20 rfl (lv_at hl 2 rfl) ?_
    refine z_lald (k := i) hx hb hK hP 2 1 rfl rfl (by omega) (by decide) dX7_free_21 ?_
    refine W.lcmp hx hb dX7_free_22 ?_
    refine lv_if_gt (tgt := 85) hx hb dX7_free_23 (by decide) (fun c_23 => ?_) (fun c_23 => ?_)
    · have c_23 : (bl i) < x := (lg_cmp_gt _ _).mp c_23
      have i_23 : (bl i).toInt < x.toInt := zl_lt.mp c_23
      refine lv_lload_n hx hb dX7_free_85 rfl (lv_at hl 3 rfl) ?_
      refine lv_aload_n hx hb dX7_free_86 rfl (lv_at hl 1 rfl) ?_
      refine va_get (D := D) (ci := 7) (v := .ref ma3) (C := RX7) (T := TX7) (N := 19) hx hb hts k_1 hown hK hP 0 rfl rfl 4 (by decide) k_2 (fun _ h9 => h9) rfl dX7_free_87 ?_
      refine lv_iload_n hx hb dX7_free_90 rfl (lv_at hl 2 rfl) ?_
      refine z_lald (k := i) hx hb hK hP 2 1 rfl rfl (by omega) (by decide) dX7_free_91 ?_
      refine W.lcmp hx hb dX7_free_92 ?_
      refine lv_if_gt (tgt := 100) hx hb dX7_free_93 (by decide) (fun c_93 => ?_) (fun c_93 => ?_)
      · have c_93 : (bl i) < x := (lg_cmp_gt _ _).mp c_93
        have i_93 : (bl i).toInt < x.toInt := zl_lt.mp c_93
        refine lv_ldc2 hx hb hown k_3 dX7_free_100 ?_
        exact W.lret (v := (-1)) hx hb hr (fun t9 ht9 hW9 => ⟨⟨_, (), rfl, Or.inr ⟨fun y q1 q2 => hI.2.2.2.1 y q1 (zl_lt.mpr (by rw [zl_le] at q2; omega)), rfl⟩, trivial⟩, hS.F ht9⟩) hS.2.2 dX7_free_103
      · have c_93 : ¬ ((bl i) < x) := fun q9 => c_93 ((lg_cmp_gt _ _).mpr q9)
        have i_93 : ¬ ((bl i).toInt < x.toInt) := fun q9 => c_93 (zl_lt.mpr q9)
        exact absurd c_23 c_93
    · have c_23 : ¬ ((bl i) < x) := fun q9 => c_23 ((lg_cmp_gt _ _).mpr q9)
      have i_23 : ¬ ((bl i).toInt < x.toInt) := fun q9 => c_23 (zl_lt.mpr q9)
      refine lv_aload_n hx hb dX7_free_26 rfl (lv_at hl 1 rfl) ?_
      refine lv_lload_n hx hb dX7_free_27 rfl (lv_at hl 3 rfl) ?_
      refine zRo_l (va_runV (As := [.long x]) (rest := []) ⟨hx, hb, hml, hown, hts⟩ (mx_barredTo l D z H.size mo ma1 ma2 ma3 mb1 mb2 mg1 mg2 mt1 mn1 mn2 mn3 ml1 mw1 th nb nq ng nt nn jb1 qf jb2 ql x (by omega) h0) (cwV 1 hts gX7_free_X7_barredTo rfl rfl rfl (by decide +kernel) ⟨Nat.le_of_ble_eq_true rfl, Nat.le_of_ble_eq_true rfl⟩) ⟨zPre_blind, va_recv hK hP (ci := 7) (q0 := 0) rfl rfl, (zPre_mk (wc := [(mo, .inr (7, [.int th, .int (nI nb), .ref ma1, .ref ma2, .ref ma3, .int (nI nq), .ref mb1, .ref mb2, .int (nI ng), .ref mg1, .ref mg2, .int (nI nt), .ref mt1, .int (nI nn), .ref mn1, .ref mn2, .ref mn3, .ref ml1, .ref mw1])), (mb1, .inl (jb1, 50, .inr (.inl qf))), (mb2, .inl (jb2, 50, .inr (.inl ql)))]) (tc := [(jb1, .long), (jb2, .long)]) hP hK hD hC hS [0, 3, 4] (by decide) rfl rfl [2, 3] rfl (zro_free hS hA))⟩ rfl rfl hl.1 rfl (lv_room (Nat.le_of_ble_eq_true rfl)) dX7_free_28 ⟨Nat.zero_le _, Nat.zero_le _⟩) hS hA hP (fun r_28 H locs hw hP hS => ?_)
      have hw_28 : zBt nq qf ql x r_28 := hw
      refine lv_lstore (lv' := [(5, .long r_28), (4, .int (nI k)), (0, .ref mo), (1, .int (nI i)), (2, .long x)]) hx hb dX7_free_31 hl (by decide) rfl (fun ls hl => ?_)
      refine lv_lload hx hb dX7_free_33 (lv_at hl 0 rfl) ?_
      refine lv_lconst (v := 0) hx hb dX7_free_35 (by decide) ?_
      refine W.lcmp hx hb dX7_free_36 ?_
      refine lv_if_ge (tgt := 48) hx hb dX7_free_37 (by decide) (fun c_37 => ?_) (fun c_37 => ?_)
      · have c_37 : 0 ≤ r_28 := (lg_cmp_ge _ _).mp c_37
        have i_37 : 0 ≤ r_28.toInt := zl_le.mp c_37
        refine lv_iconst (v := 1) hx hb dX7_free_48 (by decide) ?_
        refine lv_goto (tgt := 53) hx hb dX7_free_49 (by decide) ?_
        refine lv_istore (lv' := [(4, .int 1), (5, .long r_28), (0, .ref mo), (1, .int (nI i)), (2, .long x)]) hx hb dX7_free_53 hl (by decide) rfl (fun ls hl => ?_)
        refine lv_lload hx hb dX7_free_55 (lv_at hl 1 rfl) ?_
        refine lv_lconst (v := 0) hx hb dX7_free_57 (by decide) ?_
        refine W.lcmp hx hb dX7_free_58 ?_
        refine lv_if_lt (tgt := 69) hx hb dX7_free_59 (by decide) (fun c_59 => ?_) (fun c_59 => ?_)
        · have c_59 : r_28 < 0 := (lg_cmp_lt _ _).mp c_59
          have i_59 : r_28.toInt < 0 := zl_lt.mp c_59
          exact absurd i_59 (by omega)
        · have c_59 : ¬ (r_28 < 0) := fun q9 => c_59 ((lg_cmp_lt _ _).mpr q9)
          have i_59 : ¬ (r_28.toInt < 0) := fun q9 => c_59 (zl_lt.mpr q9)
          refine lv_lload hx hb dX7_free_62 (lv_at hl 1 rfl) ?_
          refine lv_lconst (v := 1) hx hb dX7_free_64 (by decide) ?_
          refine lv_ladd hx hb dX7_free_65 ?_
          refine lv_goto (tgt := 81) hx hb dX7_free_66 (by decide) ?_
          refine lv_lstore_n (lv' := [(2, .long (r_28 + 1)), (4, .int 1), (5, .long r_28), (0, .ref mo), (1, .int (nI i))]) hx hb dX7_free_81 rfl hl (by decide) rfl (fun ls hl => ?_)
          refine lv_goto (tgt := 10) hx hb dX7_free_82 (by decide) ?_
          exact ih (r_28 + 1, 1) _ _ _ (show 2 * (27512614112 - (r_28 + 1).toInt).toNat + 1 < 2 * (27512614112 - x.toInt).toNat + k from (by have := (zFrI_bar ht hI h0 hw_28 i_37).2; omega)) (zFrI_bar ht hI h0 hw_28 i_37).1 hP hD hS (lv_sub hl [1, 3, 4, 0] rfl)
      · have c_37 : ¬ (0 ≤ r_28) := fun q9 => c_37 ((lg_cmp_ge _ _).mpr q9)
        have i_37 : ¬ (0 ≤ r_28.toInt) := fun q9 => c_37 (zl_le.mpr q9)
        refine lv_aload_n hx hb dX7_free_40 rfl (lv_at hl 2 rfl) ?_
        refine lv_lload_n hx hb dX7_free_41 rfl (lv_at hl 4 rfl) ?_
        refine zRo_i (va_runV (As := [.long x]) (rest := []) ⟨hx, hb, hml, hown, hts⟩ (mx_wasGiven l D z H.size mo ma1 ma2 ma3 mb1 mb2 mg1 mg2 mt1 mn1 mn2 mn3 ml1 mw1 th nb nq ng nt nn jg1 gn x (by omega)) (cwV 1 hts gX7_free_X7_wasGiven rfl rfl rfl (by decide +kernel) ⟨Nat.le_of_ble_eq_true rfl, Nat.le_of_ble_eq_true rfl⟩) ⟨zPre_blind, va_recv hK hP (ci := 7) (q0 := 0) rfl rfl, (zPre_mk (wc := [(mo, .inr (7, [.int th, .int (nI nb), .ref ma1, .ref ma2, .ref ma3, .int (nI nq), .ref mb1, .ref mb2, .int (nI ng), .ref mg1, .ref mg2, .int (nI nt), .ref mt1, .int (nI nn), .ref mn1, .ref mn2, .ref mn3, .ref ml1, .ref mw1])), (mg1, .inl (jg1, 4200, .inr (.inl gn)))]) (tc := [(jg1, .long)]) hP hK hD hC hS [0, 5] (by decide) rfl rfl [4] rfl (zro_free hS hA))⟩ rfl rfl hl.1 rfl (lv_room (Nat.le_of_ble_eq_true rfl)) dX7_free_42 ⟨Nat.zero_le _, Nat.zero_le _⟩) hS hA hP (fun r_42 H locs hw hP hS => ?_)
        have hw_42 : zB r_42 (zG9 ng gn x) := hw
        refine lv_if_eq (tgt := 52) hx hb dX7_free_45 (by decide) (fun c_45 => ?_) (fun c_45 => ?_)
        · have i_45 : r_42.toInt = 0 := zi_eq.mp c_45
          refine lv_iconst (v := 0) hx hb dX7_free_52 (by decide) ?_
          refine lv_istore (lv' := [(4, .int 0), (5, .long r_28), (0, .ref mo), (1, .int (nI i)), (2, .long x)]) hx hb dX7_free_53 hl (by decide) rfl (fun ls hl => ?_)
          refine lv_lload hx hb dX7_free_55 (lv_at hl 1 rfl) ?_
          refine lv_lconst (v := 0) hx hb dX7_free_57 (by decide) ?_
          refine W.lcmp hx hb dX7_free_58 ?_
          refine lv_if_lt (tgt := 69) hx hb dX7_free_59 (by decide) (fun c_59 => ?_) (fun c_59 => ?_)
          · have c_59 : r_28 < 0 := (lg_cmp_lt _ _).mp c_59
            have i_59 : r_28.toInt < 0 := zl_lt.mp c_59
            refine lv_iload hx hb dX7_free_69 (lv_at hl 0 rfl) ?_
            refine lv_if_eq (tgt := 80) hx hb dX7_free_71 (by decide) (fun c_71 => ?_) (fun c_71 => ?_)
            · refine lv_lload_n hx hb dX7_free_80 rfl (lv_at hl 4 rfl) ?_
              refine lv_lstore_n (lv' := [(2, .long x), (4, .int 0), (5, .long r_28), (0, .ref mo), (1, .int (nI i))]) hx hb dX7_free_81 rfl hl (by decide) rfl (fun ls hl => ?_)
              refine lv_goto (tgt := 10) hx hb dX7_free_82 (by decide) ?_
              exact ih (x, 0) _ _ _ (show 2 * (27512614112 - x.toInt).toNat + 0 < 2 * (27512614112 - x.toInt).toNat + k from (by omega)) (zFrI_stop hI (Int64.not_lt.mp c_23) hw_28 i_37 h0 (zB_eq hw_42 c_45)) hP hD hS (lv_sub hl [1, 3, 4, 0] rfl)
            · exact absurd c_71 (fun q => q rfl)
          · have c_59 : ¬ (r_28 < 0) := fun q9 => c_59 ((lg_cmp_lt _ _).mpr q9)
            have i_59 : ¬ (r_28.toInt < 0) := fun q9 => c_59 (zl_lt.mpr q9)
            exact absurd i_37 (by omega)
        · have i_45 : ¬ (r_42.toInt = 0) := fun q9 => c_45 (zi_eq.mpr q9)
          refine lv_iconst (v := 1) hx hb dX7_free_48 (by decide) ?_
          refine lv_goto (tgt := 53) hx hb dX7_free_49 (by decide) ?_
          refine lv_istore (lv' := [(4, .int 1), (5, .long r_28), (0, .ref mo), (1, .int (nI i)), (2, .long x)]) hx hb dX7_free_53 hl (by decide) rfl (fun ls hl => ?_)
          refine lv_lload hx hb dX7_free_55 (lv_at hl 1 rfl) ?_
          refine lv_lconst (v := 0) hx hb dX7_free_57 (by decide) ?_
          refine W.lcmp hx hb dX7_free_58 ?_
          refine lv_if_lt (tgt := 69) hx hb dX7_free_59 (by decide) (fun c_59 => ?_) (fun c_59 => ?_)
          · have c_59 : r_28 < 0 := (lg_cmp_lt _ _).mp c_59
            have i_59 : r_28.toInt < 0 := zl_lt.mp c_59
            refine lv_iload hx hb dX7_free_69 (lv_at hl 0 rfl) ?_
            refine lv_if_eq (tgt := 80) hx hb dX7_free_71 (by decide) (fun c_71 => ?_) (fun c_71 => ?_)
            · exact absurd c_71 (by decide)
            · refine lv_lload_n hx hb dX7_free_74 rfl (lv_at hl 4 rfl) ?_
              refine lv_lconst (v := 1) hx hb dX7_free_75 (by decide) ?_
              refine lv_ladd hx hb dX7_free_76 ?_
              refine lv_goto (tgt := 81) hx hb dX7_free_77 (by decide) ?_
              refine lv_lstore_n (lv' := [(2, .long (x + 1)), (4, .int 1), (5, .long r_28), (0, .ref mo), (1, .int (nI i))]) hx hb dX7_free_81 rfl hl (by decide) rfl (fun ls hl => ?_)
              refine lv_goto (tgt := 10) hx hb dX7_free_82 (by decide) ?_
              exact ih (x + 1, 1) _ _ _ (show 2 * (27512614112 - (x + 1).toInt).toNat + 1 < 2 * (27512614112 - x.toInt).toNat + k from (by have := (zFrI_giv hI (by omega) (zB_ne hw_42 c_45)).2; omega)) (zFrI_giv hI (by omega) (zB_ne hw_42 c_45)).1 hP hD hS (lv_sub hl [1, 3, 4, 0] rfl)
          · have c_59 : ¬ (r_28 < 0) := fun q9 => c_59 ((lg_cmp_lt _ _).mpr q9)
            have i_59 : ¬ (r_28.toInt < 0) := fun q9 => c_59 (zl_lt.mpr q9)
            exact absurd i_37 (by omega)
end
section
/-! the reference's methods -/
def zBwf (n : Nat) (bf bl : Nat → Int64) : Prop := ∀ j, j < n → 0 ≤ (bf j).toInt ∧ (bf j).toInt ≤ (bl j).toInt ∧ (bl j).toInt < 20000000000
def znumM (k : Int32) (x : Int64) : Int64 := (k.toInt64 + 1) * 27512614111 + x
def zNxt (nq : Nat) (qf ql : Nat → Int64) (ng : Nat) (gn : Nat → Int64) (nb : Nat) (bo : Nat → Int32) (bf bl : Nat → Int64) (o : Int32) (x : Int64) : Prop := ∃ i, i < nb ∧ (∀ j, j < i → bo j = o → zFul nq qf ql ng gn (bf j) (bl j)) ∧ bo i = o ∧ zFre nq qf ql ng gn (bf i) (bl i) x
def zNon (nq : Nat) (qf ql : Nat → Int64) (ng : Nat) (gn : Nat → Int64) (nb : Nat) (bo : Nat → Int32) (bf bl : Nat → Int64) (o : Int32) : Prop := ∀ j, j < nb → bo j = o → zFul nq qf ql ng gn (bf j) (bl j)
def zMR (p0 p1 : Int64) (n : Nat) (gn : Nat → Int64) (gg g : Nat → Int32) (i c : Nat) : Prop := i ≤ n ∧ c = zcnt (fun k => decide (gg k = 0) && zIn p0 p1 (gn k)) i ∧ (∀ k, k < i → (g k = 0 ↔ gg k = 0 ∧ zIn p0 p1 (gn k) = false)) ∧ ∀ k, i ≤ k → g k = gg k
theorem zMR_0 {p0 p1 : Int64} {n : Nat} {gn : Nat → Int64} {gg : Nat → Int32} : zMR p0 p1 n gn gg gg 0 0 := ⟨Nat.zero_le _, rfl, fun k h => absurd h (Nat.not_lt_zero _), fun _ _ => rfl⟩
theorem zMR_stay {p0 p1 : Int64} {n i c : Nat} {gn : Nat → Int64} {gg g : Nat → Int32} (h : zMR p0 p1 n gn gg g i c) (hi : i < n) (hn : ¬ g i = 0 ∨ zIn p0 p1 (gn i) = false) : zMR p0 p1 n gn gg g (i + 1) c := by
  obtain ⟨h1, h2, h3, h4⟩ := h
  have e := h4 i (Nat.le_refl _)
  refine ⟨hi, ?_, lt_s h3 ?_, fun k hk => h4 k (by omega)⟩
  · show c = zcnt _ i + _
    have : (decide (gg i = 0) && zIn p0 p1 (gn i)) = false := by
      rcases hn with q | q
      · rw [← e, decide_eq_false q]; rfl
      · rw [q, Bool.and_false]
    dsimp only
    simp only [this, ← h2]; rfl
  · rw [e]
    refine ⟨fun q => ⟨q, ?_⟩, fun q => q.1⟩
    rcases hn with w | w
    · rw [e] at w; exact absurd q w
    · exact w
theorem zMR_go {p0 p1 : Int64} {n i c : Nat} {gn : Nat → Int64} {gg g : Nat → Int32} (h : zMR p0 p1 n gn gg g i c) (hi : i < n) (h0 : g i = 0) (hn : zIn p0 p1 (gn i) = true) : zMR p0 p1 n gn gg (upd g i (vp_nar .boolean 1)) (i + 1) (c + 1) := by
  obtain ⟨h1, h2, h3, h4⟩ := h
  have e := h4 i (Nat.le_refl _)
  refine ⟨hi, ?_, lt_s (fun k hk => ?_) ?_, fun k hk => by rw [pk_un (by omega)]; exact h4 k (by omega)⟩
  · show c + 1 = zcnt _ i + _
    have : (decide (gg i = 0) && zIn p0 p1 (gn i)) = true := by rw [← e, h0, hn]; rfl
    dsimp only
    simp only [this, ← h2, if_true]
  · rw [pk_un (by omega)]; exact h3 k hk
  · rw [pk_us, hn]
    exact ⟨fun q => absurd q (by decide), fun q => by cases q.2⟩
theorem zIn_iff {p0 p1 x : Int64} : zIn p0 p1 x = true ↔ p0.toInt ≤ (zser x).toInt ∧ (zser x).toInt ≤ p1.toInt := by
  unfold zIn; rw [Bool.and_eq_true, decide_eq_true_eq, decide_eq_true_eq, zl_le, zl_le]
theorem zIn_no {p0 p1 x : Int64} (h : ¬ (p0.toInt ≤ (zser x).toInt ∧ (zser x).toInt ≤ p1.toInt)) : zIn p0 p1 x = false := by
  cases e : zIn p0 p1 x
  · rfl
  · exact absurd (zIn_iff.mp e) h
def zGiv (n : Nat) (gn : Nat → Int64) (gg : Nat → Int32) (x : Int64) : Prop := ∃ k, k < n ∧ gn k = x ∧ gg k = 0
theorem zfnd {n : Nat} {gn : Nat → Int64} {gg : Nat → Int32} {x : Int64} {r : Int32} (h : (∃ k, k < n ∧ gn k = x ∧ gg k = 0 ∧ r = nI k) ∨ ((∀ k, k < n → ¬ (gn k = x ∧ gg k = 0)) ∧ r = -1)) (hn : n ≤ 4200) : (¬ r.toInt < 0 ∧ zGiv n gn gg x) ∨ (r.toInt < 0 ∧ ¬ zGiv n gn gg x) := by
  rcases h with ⟨k, h1, h2, h3, h4⟩ | ⟨h1, h2⟩
  · left; rw [h4, nI_toInt (by omega)]; exact ⟨by omega, k, h1, h2, h3⟩
  · right; rw [h2]; exact ⟨by decide, fun ⟨k, q1, q2⟩ => h1 k q1 q2⟩
/-- a search for the last place -/
def zLs (P : Nat → Prop) (i : Nat) (x : Int32) : Prop := (x = -1 ∧ ∀ j, j < i → ¬ P j) ∨ ∃ j, j < i ∧ P j ∧ x = nI j
theorem zLs_0 {P : Nat → Prop} : zLs P 0 (-1) := Or.inl ⟨rfl, fun j h => absurd h (Nat.not_lt_zero _)⟩
theorem zLs_hit {P : Nat → Prop} {i : Nat} (h : P i) : zLs P (i + 1) (nI i) := Or.inr ⟨i, by omega, h, rfl⟩
theorem zLs_no {P : Nat → Prop} {i : Nat} {x : Int32} (h : zLs P i x) (hn : ¬ P i) : zLs P (i + 1) x := by
  rcases h with ⟨h1, h2⟩ | ⟨j, h1, h2⟩
  · exact Or.inl ⟨h1, lt_s h2 hn⟩
  · exact Or.inr ⟨j, by omega, h2⟩
theorem zLs_neg {P : Nat → Prop} {i : Nat} {x : Int32} (h : zLs P i x) (hi : i ≤ 4200) (hx : x.toInt < 0) : ∀ j, j < i → ¬ P j := by
  rcases h with ⟨h1, h2⟩ | ⟨j, h1, h2, h3⟩
  · exact h2
  · rw [h3, nI_toInt (by omega)] at hx; omega
theorem zLs_pos {P : Nat → Prop} {i : Nat} {x : Int32} (h : zLs P i x) (hx : ¬ x.toInt < 0) : ∃ j, j < i ∧ P j ∧ x = nI j := by
  rcases h with ⟨h1, h2⟩ | h
  · rw [h1] at hx; exact absurd (by decide) hx
  · exact h
def zOldM (p0 r : Int64) : Prop :=
  ((0 ≤ p0.toInt ∧ p0.toInt < 10000000000) ∧ r = (p0 / 1000000000 + 1) * 27512614111 + 20000000000 + (p0 - p0 / 1000000000 * 1000000000)) ∨
  (¬ (0 ≤ p0.toInt ∧ p0.toInt < 10000000000) ∧ ¬ (zIsN p0 ∧ 0 ≤ (zser p0 - 20000000000).toInt ∧ (zser p0 - 20000000000).toInt < 1000000000) ∧ r = -102) ∨
  (¬ (0 ≤ p0.toInt ∧ p0.toInt < 10000000000) ∧ (zIsN p0 ∧ 0 ≤ (zser p0 - 20000000000).toInt ∧ (zser p0 - 20000000000).toInt < 1000000000) ∧ r = zsvc p0 * 1000000000 + (zser p0 - 20000000000))

set_option maxHeartbeats 4000000 in
set_option maxRecDepth 100000 in
theorem mx_block (l : Launch) (D : va_G) (z : zG) (sz : Nat) (mo : Nat) (ma1 : Nat) (ma2 : Nat) (ma3 : Nat) (mb1 : Nat) (mb2 : Nat) (mg1 : Nat) (mg2 : Nat) (mt1 : Nat) (mn1 : Nat) (mn2 : Nat) (mn3 : Nat) (ml1 : Nat) (mw1 : Nat) (th : Int32) (nb : Nat) (nq : Nat) (ng : Nat) (nt : Nat) (nn : Nat) (ja1 : ClassId) (bo : Nat → Int32) (ja2 : ClassId) (bf : Nat → Int64) (ja3 : ClassId) (bl : Nat → Int64) (p0 : Int32) (p1 : Int64) (p2 : Int64) (hn : nb ≤ 50) (hB : zBwf nb bf bl) : Met l yX7_block wsX7_block ({ frames := 1, cells := 0, slots := 0, locals := 25 }) (zPre D z [.ref mo, .int p0, .long p1, .long p2] sz [(mo, .inr (7, [.int th, .int (nI nb), .ref ma1, .ref ma2, .ref ma3, .int (nI nq), .ref mb1, .ref mb2, .int (nI ng), .ref mg1, .ref mg2, .int (nI nt), .ref mt1, .int (nI nn), .ref mn1, .ref mn2, .ref mn3, .ref ml1, .ref mw1])), (ma1, .inl (ja1, 50, .inl bo)), (ma2, .inl (ja2, 50, .inr (.inl bf))), (ma3, .inl (ja3, 50, .inr (.inl bl)))] [(ja1, .int), (ja2, .long), (ja3, .long)] (va_A [(mo, .inr (7, [.int th, .int (nI nb), .ref ma1, .ref ma2, .ref ma3, .int (nI nq), .ref mb1, .ref mb2, .int (nI ng), .ref mg1, .ref mg2, .int (nI nt), .ref mt1, .int (nI nn), .ref mn1, .ref mn2, .ref mn3, .ref ml1, .ref mw1])), (ma1, .inl (ja1, 50, .inl bo)), (ma2, .inl (ja2, 50, .inr (.inl bf))), (ma3, .inl (ja3, 50, .inr (.inl bl)))] sz)) (va_Qi (fun (r : Int32) (u : Nat × (Nat → Int32) × (Nat → Int64) × (Nat → Int64)) => (¬ zOkB p0 p1 p2 ∧ r = -102 ∧ u.1 = nb ∧ u.2.1 = bo ∧ u.2.2.1 = bf ∧ u.2.2.2 = bl) ∨ (zOkB p0 p1 p2 ∧ zTch nb bf bl p1 p2 ∧ r = -103 ∧ u.1 = nb ∧ u.2.1 = bo ∧ u.2.2.1 = bf ∧ u.2.2.2 = bl) ∨ (zOkB p0 p1 p2 ∧ ¬ zTch nb bf bl p1 p2 ∧ nb = 50 ∧ r = -104 ∧ u.1 = nb ∧ u.2.1 = bo ∧ u.2.2.1 = bf ∧ u.2.2.2 = bl) ∨ (zOkB p0 p1 p2 ∧ ¬ zTch nb bf bl p1 p2 ∧ ¬ nb = 50 ∧ r = nI (nb + 1) ∧ u.1 = nb + 1 ∧ u.2.1 = upd bo nb p0 ∧ u.2.2.1 = vp_updL bf nb p1 ∧ u.2.2.2 = vp_updL bl nb p2)) (zAt D [(ja1, .int), (ja2, .long), (ja3, .long)] (va_A [(mo, .inr (7, [.int th, .int (nI nb), .ref ma1, .ref ma2, .ref ma3, .int (nI nq), .ref mb1, .ref mb2, .int (nI ng), .ref mg1, .ref mg2, .int (nI nt), .ref mt1, .int (nI nn), .ref mn1, .ref mn2, .ref mn3, .ref ml1, .ref mw1])), (ma1, .inl (ja1, 50, .inl bo)), (ma2, .inl (ja2, 50, .inr (.inl bf))), (ma3, .inl (ja3, 50, .inr (.inl bl)))] sz) (fun u : Nat × (Nat → Int32) × (Nat → Int64) × (Nat → Int64) => [(mo, .inr (7, [.int 0, .int (nI u.1), .ref ma1, .ref ma2, .ref ma3, .int (nI nq), .ref mb1, .ref mb2, .int (nI ng), .ref mg1, .ref mg2, .int (nI nt), .ref mt1, .int (nI nn), .ref mn1, .ref mn2, .ref mn3, .ref ml1, .ref mw1])), (ma1, .inl (ja1, 50, .inl u.2.1)), (ma2, .inl (ja2, 50, .inr (.inl u.2.2.1))), (ma3, .inl (ja3, 50, .inr (.inl u.2.2.2)))])) (va_A [(mo, .inr (7, [.int th, .int (nI nb), .ref ma1, .ref ma2, .ref ma3, .int (nI nq), .ref mb1, .ref mb2, .int (nI ng), .ref mg1, .ref mg2, .int (nI nt), .ref mt1, .int (nI nn), .ref mn1, .ref mn2, .ref mn3, .ref ml1, .ref mw1])), (ma1, .inl (ja1, 50, .inl bo)), (ma2, .inl (ja2, 50, .inr (.inl bf))), (ma3, .inl (ja3, 50, .inr (.inl bl)))] sz)) 0 0 (va_A [(mo, .inr (7, [.int th, .int (nI nb), .ref ma1, .ref ma2, .ref ma3, .int (nI nq), .ref mb1, .ref mb2, .int (nI ng), .ref mg1, .ref mg2, .int (nI nt), .ref mt1, .int (nI nn), .ref mn1, .ref mn2, .ref mn3, .ref ml1, .ref mw1])), (ma1, .inl (ja1, 50, .inl bo)), (ma2, .inl (ja2, 50, .inr (.inl bf))), (ma3, .inl (ja3, 50, .inr (.inl bl)))] sz) := by
  refine Met.ofW (cc := cX7_block) (maxL := 7) (ret := (some .int)) (by decide) rfl ?_
  intro p e s m args below meth c s₁ B hml hv
  obtain ⟨rfl, hsz, hP, hK, hD, hC⟩ := hv
  have hx := B.exec
  have hb := B.bytes
  have hr := B.returns
  have hts := atoms_spec (ws := wsX7_block) B.pre
  have hown : s.vm.findClass RX7 = some m.cls := findClass_of_methodNamed B.named
  have hlocks := B.notSynchronized
  subst hsz
  have hD := hD.self (sz := s.heap.size)
  generalize hAe : va_A [(mo, .inr (7, [.int th, .int (nI nb), .ref ma1, .ref ma2, .ref ma3, .int (nI nq), .ref mb1, .ref mb2, .int (nI ng), .ref mg1, .ref mg2, .int (nI nt), .ref mt1, .int (nI nn), .ref mn1, .ref mn2, .ref mn3, .ref ml1, .ref mw1])), (ma1, .inl (ja1, 50, .inl bo)), (ma2, .inl (ja2, 50, .inr (.inl bf))), (ma3, .inl (ja3, 50, .inr (.inl bl)))] s.heap.size = A at hC hD ⊢
  have hA : ∀ q : Nat, s.heap.size ≤ q → A q := fun q h => by rw [← hAe]; exact Or.inr h
  have hS : va_S A s.heap s.heap [] := va_S.rf
  have hP : va_P D vwCl [(mo, .inr (7, [.int th, .int (nI nb), .ref ma1, .ref ma2, .ref ma3, .int (nI nq), .ref mb1, .ref mb2, .int (nI ng), .ref mg1, .ref mg2, .int (nI nt), .ref mt1, .int (nI nn), .ref mn1, .ref mn2, .ref mn3, .ref ml1, .ref mw1])), (ma1, .inl (ja1, 50, .inl bo)), (ma2, .inl (ja2, 50, .inr (.inl bf))), (ma3, .inl (ja3, 50, .inr (.inl bl)))] s.heap := hP
  have hl := lv_entry ([.ref mo, .int p0, .long p1, .long p2]) (n := 7) (Nat.le_of_ble_eq_true rfl)
  rw [lg_entry_eq]
  generalize (lg_sl ([.ref mo, .int p0, .long p1, .long p2]) ++ List.replicate (7 - (lg_sl ([.ref mo, .int p0, .long p1, .long p2])).length) Slot.unset).toArray = ls at hl ⊢
  have hl : lv_has ls 7 [(0, .ref mo), (1, .int p0), (2, .long p1), (4, .long p2)] := hl
  refine zNameH (D := D) (A := A) (ws := [(mo, .inr (7, [.int th, .int (nI nb), .ref ma1, .ref ma2, .ref ma3, .int (nI nq), .ref mb1, .ref mb2, .int (nI ng), .ref mg1, .ref mg2, .int (nI nt), .ref mt1, .int (nI nn), .ref mn1, .ref mn2, .ref mn3, .ref ml1, .ref mw1])), (ma1, .inl (ja1, 50, .inl bo)), (ma2, .inl (ja2, 50, .inr (.inl bf))), (ma3, .inl (ja3, 50, .inr (.inl bl)))]) (fun H locs hP hS => ?_) hP hS
  have k_0 := hts (.fieldLink RX7 55 "NumberRows2Model" "thrown" "I") (by decide +kernel)
  have k_1 : ∀ w ∈ wsX70, w ∈ wsX7_block := by decide +kernel
  have k_2 := hts (.constantLong RX7 58 (99)) (by decide +kernel)
  have k_3 := hts (.constantLong RX7 64 (20000000000)) (by decide +kernel)
  have k_4 := hts (.fieldLink RX7 66 "NumberRows2Model" "blocks" "I") (by decide +kernel)
  have k_5 := hts (.fieldLink RX7 7 "NumberRows2Model" "offices" "[I") (by decide +kernel)
  have k_6 := hts (.fieldLink RX7 13 "NumberRows2Model" "froms" "[J") (by decide +kernel)
  have k_7 := hts (.fieldLink RX7 17 "NumberRows2Model" "tos" "[J") (by decide +kernel)
  refine lv_aload_n hx hb dX7_block_0 rfl (lv_at hl 0 rfl) ?_
  refine lv_iconst (v := 0) hx hb dX7_block_1 (by decide) ?_
  refine va_put (D := D) (ci := 7) (v := .int 0) (ty := .int) (C := RX7) (T := TX7) (N := 19) hx hb hts k_1 tyX7 tyX7_ok nmX7 hown hK hP hD hS 0 rfl rfl 0 (by decide) k_0 (fun _ h9 => h9) rfl (by decide +kernel) rfl rfl (Nat.le_of_ble_eq_true rfl) dX7_block_2 (fun H locs hP hD hS => ?_)
  have hP : va_P D vwCl [(mo, .inr (7, [.int 0, .int (nI nb), .ref ma1, .ref ma2, .ref ma3, .int (nI nq), .ref mb1, .ref mb2, .int (nI ng), .ref mg1, .ref mg2, .int (nI nt), .ref mt1, .int (nI nn), .ref mn1, .ref mn2, .ref mn3, .ref ml1, .ref mw1])), (ma1, .inl (ja1, 50, .inl bo)), (ma2, .inl (ja2, 50, .inr (.inl bf))), (ma3, .inl (ja3, 50, .inr (.inl bl)))] H := hP
  have hD : va_D A [(mo, .inr (7, [.int 0, .int (nI nb), .ref ma1, .ref ma2, .ref ma3, .int (nI nq), .ref mb1, .ref mb2, .int (nI ng), .ref mg1, .ref mg2, .int (nI nt), .ref mt1, .int (nI nn), .ref mn1, .ref mn2, .ref mn3, .ref ml1, .ref mw1])), (ma1, .inl (ja1, 50, .inl bo)), (ma2, .inl (ja2, 50, .inr (.inl bf))), (ma3, .inl (ja3, 50, .inr (.inl bl)))] := hD
  refine lv_iload_n hx hb dX7_block_5 rfl (lv_at hl 1 rfl) ?_
  refine lv_i2l (v := p0.toInt64) hx hb dX7_block_6 rfl ?_
  refine lv_lconst (v := 0) hx hb dX7_block_7 (by decide) ?_
  refine lv_ldc2 hx hb hown k_2 dX7_block_8 ?_
  refine zRo_i (va_runS (As := [.long p0.toInt64, .long 0, .long 99]) (rest := []) ⟨hx, hb, hml, hown, hts⟩ (mx_isIn l D z H.size p0.toInt64 (0 : Int64) (99 : Int64) ) (va_cwS 3 hts gX7_block_X7_isIn rfl rfl rfl (by decide +kernel) ⟨Nat.le_of_ble_eq_true rfl, Nat.le_of_ble_eq_true rfl⟩) ⟨zPre_blind, (zPre_mk (wc := []) (tc := []) hP hK hD hC hS [] (by decide) rfl rfl [] rfl (zro_free hS hA))⟩ rfl rfl hl.1 rfl (lv_room (Nat.le_of_ble_eq_true rfl)) dX7_block_11 ⟨Nat.zero_le _, Nat.zero_le _⟩) hS hA hP (fun r_11 H locs hw hP hS => ?_)
  have hw_11 : zB r_11 (0 ≤ p0.toInt64.toInt ∧ p0.toInt64.toInt ≤ 99) := hw
  rw [zi_l] at hw_11
  refine lv_if_eq (tgt := 39) hx hb dX7_block_14 (by decide) (fun c_14 => ?_) (fun c_14 => ?_)
  · have i_14 : r_11.toInt = 0 := zi_eq.mp c_14
    refine lv_bipush (v := -102) hx hb dX7_block_39 (by decide) ?_
    exact W.iret (v := (-102)) hx hb hr (fun t9 ht9 hW9 => ⟨⟨_, (nb, bo, bf, bl), rfl, Or.inl ⟨fun q => zB_eq hw_11 c_14 (by unfold zOkB at q; omega), rfl, rfl, rfl, rfl, rfl⟩, by rw [ht9]; exact hP, va_K.moved hW9.alike hK, hD⟩, hS.F ht9⟩) hS.2.2 dX7_block_41
  · have i_14 : ¬ (r_11.toInt = 0) := fun q9 => c_14 (zi_eq.mpr q9)
    refine lv_lload_n hx hb dX7_block_17 rfl (lv_at hl 2 rfl) ?_
    refine lv_lconst (v := 0) hx hb dX7_block_18 (by decide) ?_
    refine W.lcmp hx hb dX7_block_19 ?_
    refine lv_if_lt (tgt := 39) hx hb dX7_block_20 (by decide) (fun c_20 => ?_) (fun c_20 => ?_)
    · have c_20 : p1 < 0 := (lg_cmp_lt _ _).mp c_20
      have i_20 : p1.toInt < 0 := zl_lt.mp c_20
      refine lv_bipush (v := -102) hx hb dX7_block_39 (by decide) ?_
      exact W.iret (v := (-102)) hx hb hr (fun t9 ht9 hW9 => ⟨⟨_, (nb, bo, bf, bl), rfl, Or.inl ⟨fun q => by unfold zOkB at q; omega, rfl, rfl, rfl, rfl, rfl⟩, by rw [ht9]; exact hP, va_K.moved hW9.alike hK, hD⟩, hS.F ht9⟩) hS.2.2 dX7_block_41
    · have c_20 : ¬ (p1 < 0) := fun q9 => c_20 ((lg_cmp_lt _ _).mpr q9)
      have i_20 : ¬ (p1.toInt < 0) := fun q9 => c_20 (zl_lt.mpr q9)
      refine lv_lload_n hx hb dX7_block_23 rfl (lv_at hl 2 rfl) ?_
      refine lv_lload hx hb dX7_block_24 (lv_at hl 3 rfl) ?_
      refine W.lcmp hx hb dX7_block_26 ?_
      refine lv_if_gt (tgt := 39) hx hb dX7_block_27 (by decide) (fun c_27 => ?_) (fun c_27 => ?_)
      · have c_27 : p2 < p1 := (lg_cmp_gt _ _).mp c_27
        have i_27 : p2.toInt < p1.toInt := zl_lt.mp c_27
        refine lv_bipush (v := -102) hx hb dX7_block_39 (by decide) ?_
        exact W.iret (v := (-102)) hx hb hr (fun t9 ht9 hW9 => ⟨⟨_, (nb, bo, bf, bl), rfl, Or.inl ⟨fun q => by unfold zOkB at q; omega, rfl, rfl, rfl, rfl, rfl⟩, by rw [ht9]; exact hP, va_K.moved hW9.alike hK, hD⟩, hS.F ht9⟩) hS.2.2 dX7_block_41
      · have c_27 : ¬ (p2 < p1) := fun q9 => c_27 ((lg_cmp_gt _ _).mpr q9)
        have i_27 : ¬ (p2.toInt < p1.toInt) := fun q9 => c_27 (zl_lt.mpr q9)
        refine lv_lload hx hb dX7_block_30 (lv_at hl 3 rfl) ?_
        refine lv_ldc2 hx hb hown k_3 dX7_block_32 ?_
        refine W.lcmp hx hb dX7_block_35 ?_
        refine lv_if_lt (tgt := 42) hx hb dX7_block_36 (by decide) (fun c_36 => ?_) (fun c_36 => ?_)
        · have c_36 : p2 < 20000000000 := (lg_cmp_lt _ _).mp c_36
          have i_36 : p2.toInt < 20000000000 := zl_lt.mp c_36
          have hok : zOkB p0 p1 p2 := by have := zB_ne hw_11 c_14; unfold zOkB; omega
          refine lv_iconst (v := 0) hx hb dX7_block_42 (by decide) ?_
          refine lv_istore (lv' := [(6, .int 0), (0, .ref mo), (1, .int p0), (2, .long p1), (4, .long p2)]) hx hb dX7_block_43 hl (by decide) rfl (fun ls hl => ?_)
          refine zLoop (σ := Nat) (nL := 7) (μ := fun (i : Nat) => nb - i) (lv := fun (i : Nat) => [(6, .int (nI i)), (0, .ref mo), (1, .int p0), (2, .long p1), (4, .long p2)]) (wf := fun (i : Nat) => [(mo, .inr (7, [.int 0, .int (nI nb), .ref ma1, .ref ma2, .ref ma3, .int (nI nq), .ref mb1, .ref mb2, .int (nI ng), .ref mg1, .ref mg2, .int (nI nt), .ref mt1, .int (nI nn), .ref mn1, .ref mn2, .ref mn3, .ref ml1, .ref mw1])), (ma1, .inl (ja1, 50, .inl bo)), (ma2, .inl (ja2, 50, .inr (.inl bf))), (ma3, .inl (ja3, 50, .inr (.inl bl)))]) (I := fun (i : Nat) => i ≤ nb ∧ ∀ j, j < i → ¬ (p1 ≤ bl j ∧ bf j ≤ p2)) (fun x H locs ls hI hP hD hS hl ih => ?_) 0 ⟨Nat.zero_le _, fun j hj => absurd hj (Nat.not_lt_zero j)⟩ hP hD hS (lv_sub hl [0, 1, 2, 3, 4] rfl)
          obtain ⟨i, rfl⟩ : ∃ y9, y9 = x := ⟨_, rfl⟩
          have hI : i ≤ nb ∧ ∀ j, j < i → ¬ (p1 ≤ bl j ∧ bf j ≤ p2) := hI
          have hl : lv_has ls 7 [(6, .int (nI i)), (0, .ref mo), (1, .int p0), (2, .long p1), (4, .long p2)] := hl
          have hP : va_P D vwCl [(mo, .inr (7, [.int 0, .int (nI nb), .ref ma1, .ref ma2, .ref ma3, .int (nI nq), .ref mb1, .ref mb2, .int (nI ng), .ref mg1, .ref mg2, .int (nI nt), .ref mt1, .int (nI nn), .ref mn1, .ref mn2, .ref mn3, .ref ml1, .ref mw1])), (ma1, .inl (ja1, 50, .inl bo)), (ma2, .inl (ja2, 50, .inr (.inl bf))), (ma3, .inl (ja3, 50, .inr (.inl bl)))] H := hP
          have hD : va_D A [(mo, .inr (7, [.int 0, .int (nI nb), .ref ma1, .ref ma2, .ref ma3, .int (nI nq), .ref mb1, .ref mb2, .int (nI ng), .ref mg1, .ref mg2, .int (nI nt), .ref mt1, .int (nI nn), .ref mn1, .ref mn2, .ref mn3, .ref ml1, .ref mw1])), (ma1, .inl (ja1, 50, .inl bo)), (ma2, .inl (ja2, 50, .inr (.inl bf))), (ma3, .inl (ja3, 50, .inr (.inl bl)))] := hD
          have h1 := hI.1
          refine lv_iload hx hb dX7_block_45 (lv_at hl 0 rfl) ?_
          refine lv_aload_n hx hb dX7_block_47 rfl (lv_at hl 1 rfl) ?_
          refine va_get (D := D) (ci := 7) (v := .int (nI nb)) (C := RX7) (T := TX7) (N := 19) hx hb hts k_1 hown hK hP 0 rfl rfl 1 (by decide) k_4 (fun _ h9 => h9) rfl dX7_block_48 ?_
          refine lv_icmp_ge (tgt := 100) hx hb dX7_block_51 (by decide) (fun c_51 => ?_) (fun c_51 => ?_)
          · have c_51 : nb ≤ i := (nI_leI (a := nb) (b := i) (by omega) (by omega)).mp c_51
            refine lv_aload_n hx hb dX7_block_100 rfl (lv_at hl 1 rfl) ?_
            refine va_get (D := D) (ci := 7) (v := .int (nI nb)) (C := RX7) (T := TX7) (N := 19) hx hb hts k_1 hown hK hP 0 rfl rfl 1 (by decide) k_4 (fun _ h9 => h9) rfl dX7_block_101 ?_
            refine lv_bipush (v := 50) hx hb dX7_block_104 (by decide) ?_
            refine lv_icmp_ne (tgt := 112) hx hb dX7_block_106 (by decide) (fun c_106 => ?_) (fun c_106 => ?_)
            · have c_106 : ¬ (nb = 50) := fun q9 => c_106 ((nI_eq (a := nb) (b := 50) (by omega) (by omega)).mpr q9)
              refine lv_aload_n hx hb dX7_block_112 rfl (lv_at hl 1 rfl) ?_
              refine va_get (D := D) (ci := 7) (v := .ref ma1) (C := RX7) (T := TX7) (N := 19) hx hb hts k_1 hown hK hP 0 rfl rfl 2 (by decide) k_5 (fun _ h9 => h9) rfl dX7_block_113 ?_
              refine lv_aload_n hx hb dX7_block_116 rfl (lv_at hl 1 rfl) ?_
              refine va_get (D := D) (ci := 7) (v := .int (nI nb)) (C := RX7) (T := TX7) (N := 19) hx hb hts k_1 hown hK hP 0 rfl rfl 1 (by decide) k_4 (fun _ h9 => h9) rfl dX7_block_117 ?_
              refine lv_iload_n hx hb dX7_block_120 rfl (lv_at hl 2 rfl) ?_
              refine z_iast (k := nb) hx hb hK hP hD hS 1 0 rfl rfl (by omega) (by decide) dX7_block_121 (fun H locs hP hD hS => ?_)
              have hP : va_P D vwCl [(mo, .inr (7, [.int 0, .int (nI nb), .ref ma1, .ref ma2, .ref ma3, .int (nI nq), .ref mb1, .ref mb2, .int (nI ng), .ref mg1, .ref mg2, .int (nI nt), .ref mt1, .int (nI nn), .ref mn1, .ref mn2, .ref mn3, .ref ml1, .ref mw1])), (ma1, .inl (ja1, 50, .inl (upd bo nb p0))), (ma2, .inl (ja2, 50, .inr (.inl bf))), (ma3, .inl (ja3, 50, .inr (.inl bl)))] H := hP
              have hD : va_D A [(mo, .inr (7, [.int 0, .int (nI nb), .ref ma1, .ref ma2, .ref ma3, .int (nI nq), .ref mb1, .ref mb2, .int (nI ng), .ref mg1, .ref mg2, .int (nI nt), .ref mt1, .int (nI nn), .ref mn1, .ref mn2, .ref mn3, .ref ml1, .ref mw1])), (ma1, .inl (ja1, 50, .inl (upd bo nb p0))), (ma2, .inl (ja2, 50, .inr (.inl bf))), (ma3, .inl (ja3, 50, .inr (.inl bl)))] := hD
              refine lv_aload_n hx hb dX7_block_122 rfl (lv_at hl 1 rfl) ?_
              refine va_get (D := D) (ci := 7) (v := .ref ma2) (C := RX7) (T := TX7) (N := 19) hx hb hts k_1 hown hK hP 0 rfl rfl 3 (by decide) k_6 (fun _ h9 => h9) rfl dX7_block_123 ?_
              refine lv_aload_n hx hb dX7_block_126 rfl (lv_at hl 1 rfl) ?_
              refine va_get (D := D) (ci := 7) (v := .int (nI nb)) (C := RX7) (T := TX7) (N := 19) hx hb hts k_1 hown hK hP 0 rfl rfl 1 (by decide) k_4 (fun _ h9 => h9) rfl dX7_block_127 ?_
              refine lv_lload_n hx hb dX7_block_130 rfl (lv_at hl 3 rfl) ?_
              refine z_last (k := nb) hx hb hK hP hD hS 2 1 rfl rfl (by omega) (by decide) dX7_block_131 (fun H locs hP hD hS => ?_)
              have hP : va_P D vwCl [(mo, .inr (7, [.int 0, .int (nI nb), .ref ma1, .ref ma2, .ref ma3, .int (nI nq), .ref mb1, .ref mb2, .int (nI ng), .ref mg1, .ref mg2, .int (nI nt), .ref mt1, .int (nI nn), .ref mn1, .ref mn2, .ref mn3, .ref ml1, .ref mw1])), (ma1, .inl (ja1, 50, .inl (upd bo nb p0))), (ma2, .inl (ja2, 50, .inr (.inl (vp_updL bf nb p1)))), (ma3, .inl (ja3, 50, .inr (.inl bl)))] H := hP
              have hD : va_D A [(mo, .inr (7, [.int 0, .int (nI nb), .ref ma1, .ref ma2, .ref ma3, .int (nI nq), .ref mb1, .ref mb2, .int (nI ng), .ref mg1, .ref mg2, .int (nI nt), .ref mt1, .int (nI nn), .ref mn1, .ref mn2, .ref mn3, .ref ml1, .ref mw1])), (ma1, .inl (ja1, 50, .inl (upd bo nb p0))), (ma2, .inl (ja2, 50, .inr (.inl (vp_updL bf nb p1)))), (ma3, .inl (ja3, 50, .inr (.inl bl)))] := hD
              refine lv_aload_n hx hb dX7_block_132 rfl (lv_at hl 1 rfl) ?_
              refine va_get (D := D) (ci := 7) (v := .ref ma3) (C := RX7) (T := TX7) (N := 19) hx hb hts k_1 hown hK hP 0 rfl rfl 4 (by decide) k_7 (fun _ h9 => h9) rfl dX7_block_133 ?_
              refine lv_aload_n hx hb dX7_block_136 rfl (lv_at hl 1 rfl) ?_
              refine va_get (D := D) (ci := 7) (v := .int (nI nb)) (C := RX7) (T := TX7) (N := 19) hx hb hts k_1 hown hK hP 0 rfl rfl 1 (by decide) k_4 (fun _ h9 => h9) rfl dX7_block_137 ?_
              refine lv_lload hx hb dX7_block_140 (lv_at hl 4 rfl) ?_
              refine z_last (k := nb) hx hb hK hP hD hS 3 2 rfl rfl (by omega) (by decide) dX7_block_142 (fun H locs hP hD hS => ?_)
              have hP : va_P D vwCl [(mo, .inr (7, [.int 0, .int (nI nb), .ref ma1, .ref ma2, .ref ma3, .int (nI nq), .ref mb1, .ref mb2, .int (nI ng), .ref mg1, .ref mg2, .int (nI nt), .ref mt1, .int (nI nn), .ref mn1, .ref mn2, .ref mn3, .ref ml1, .ref mw1])), (ma1, .inl (ja1, 50, .inl (upd bo nb p0))), (ma2, .inl (ja2, 50, .inr (.inl (vp_updL bf nb p1)))), (ma3, .inl (ja3, 50, .inr (.inl (vp_updL bl nb p2))))] H := hP
              have hD : va_D A [(mo, .inr (7, [.int 0, .int (nI nb), .ref ma1, .ref ma2, .ref ma3, .int (nI nq), .ref mb1, .ref mb2, .int (nI ng), .ref mg1, .ref mg2, .int (nI nt), .ref mt1, .int (nI nn), .ref mn1, .ref mn2, .ref mn3, .ref ml1, .ref mw1])), (ma1, .inl (ja1, 50, .inl (upd bo nb p0))), (ma2, .inl (ja2, 50, .inr (.inl (vp_updL bf nb p1)))), (ma3, .inl (ja3, 50, .inr (.inl (vp_updL bl nb p2))))] := hD
              refine lv_aload_n hx hb dX7_block_143 rfl (lv_at hl 1 rfl) ?_
              refine lv_dup hx hb dX7_block_144 rfl ?_
              refine va_get (D := D) (ci := 7) (v := .int (nI nb)) (C := RX7) (T := TX7) (N := 19) hx hb hts k_1 hown hK hP 0 rfl rfl 1 (by decide) k_4 (fun _ h9 => h9) rfl dX7_block_145 ?_
              refine lv_iconst (v := 1) hx hb dX7_block_148 (by decide) ?_
              refine lv_iadd hx hb dX7_block_149 ?_
              refine lv_topi (fun y_1 e_1 => ?_)
              obtain rfl : y_1 = nI (nb + 1) := e_1.trans (by first | exact nI_1 _ | exact nI_add _ 1)
              refine va_put (D := D) (ci := 7) (v := .int (nI (nb + 1))) (ty := .int) (C := RX7) (T := TX7) (N := 19) hx hb hts k_1 tyX7 tyX7_ok nmX7 hown hK hP hD hS 0 rfl rfl 1 (by decide) k_4 (fun _ h9 => h9) rfl (by decide +kernel) rfl rfl (Nat.le_of_ble_eq_true rfl) dX7_block_150 (fun H locs hP hD hS => ?_)
              have hP : va_P D vwCl [(mo, .inr (7, [.int 0, .int (nI (nb + 1)), .ref ma1, .ref ma2, .ref ma3, .int (nI nq), .ref mb1, .ref mb2, .int (nI ng), .ref mg1, .ref mg2, .int (nI nt), .ref mt1, .int (nI nn), .ref mn1, .ref mn2, .ref mn3, .ref ml1, .ref mw1])), (ma1, .inl (ja1, 50, .inl (upd bo nb p0))), (ma2, .inl (ja2, 50, .inr (.inl (vp_updL bf nb p1)))), (ma3, .inl (ja3, 50, .inr (.inl (vp_updL bl nb p2))))] H := hP
              have hD : va_D A [(mo, .inr (7, [.int 0, .int (nI (nb + 1)), .ref ma1, .ref ma2, .ref ma3, .int (nI nq), .ref mb1, .ref mb2, .int (nI ng), .ref mg1, .ref mg2, .int (nI nt), .ref mt1, .int (nI nn), .ref mn1, .ref mn2, .ref mn3, .ref ml1, .ref mw1])), (ma1, .inl (ja1, 50, .inl (upd bo nb p0))), (ma2, .inl (ja2, 50, .inr (.inl (vp_updL bf nb p1)))), (ma3, .inl (ja3, 50, .inr (.inl (vp_updL bl nb p2))))] := hD
              refine lv_aload_n hx hb dX7_block_153 rfl (lv_at hl 1 rfl) ?_
              refine va_get (D := D) (ci := 7) (v := .int (nI (nb + 1))) (C := RX7) (T := TX7) (N := 19) hx hb hts k_1 hown hK hP 0 rfl rfl 1 (by decide) k_4 (fun _ h9 => h9) rfl dX7_block_154 ?_
              exact W.iret (v := (nI (nb + 1))) hx hb hr (fun t9 ht9 hW9 => ⟨⟨_, ((nb + 1), (upd bo nb p0), (vp_updL bf nb p1), (vp_updL bl nb p2)), rfl, Or.inr (Or.inr (Or.inr ⟨hok, fun ⟨j, q1, q2⟩ => hI.2 j (by omega) q2, c_106, rfl, rfl, rfl, rfl, rfl⟩)), by rw [ht9]; exact hP, va_K.moved hW9.alike hK, hD⟩, hS.F ht9⟩) hS.2.2 dX7_block_157
            · have c_106 : nb = 50 := (nI_eq (a := nb) (b := 50) (by omega) (by omega)).mp c_106
              refine lv_bipush (v := -104) hx hb dX7_block_109 (by decide) ?_
              exact W.iret (v := (-104)) hx hb hr (fun t9 ht9 hW9 => ⟨⟨_, (nb, bo, bf, bl), rfl, Or.inr (Or.inr (Or.inl ⟨hok, fun ⟨j, q1, q2⟩ => hI.2 j (by omega) q2, c_106, rfl, rfl, rfl, rfl, rfl⟩)), by rw [ht9]; exact hP, va_K.moved hW9.alike hK, hD⟩, hS.F ht9⟩) hS.2.2 dX7_block_111
          · have c_51 : ¬ (nb ≤ i) := fun q9 => c_51 ((nI_leI (a := nb) (b := i) (by omega) (by omega)).mpr q9)
            refine lv_lload_n hx hb dX7_block_54 rfl (lv_at hl 3 rfl) ?_
            refine lv_aload_n hx hb dX7_block_55 rfl (lv_at hl 1 rfl) ?_
            refine va_get (D := D) (ci := 7) (v := .ref ma2) (C := RX7) (T := TX7) (N := 19) hx hb hts k_1 hown hK hP 0 rfl rfl 3 (by decide) k_6 (fun _ h9 => h9) rfl dX7_block_56 ?_
            refine lv_iload hx hb dX7_block_59 (lv_at hl 0 rfl) ?_
            refine z_lald (k := i) hx hb hK hP 2 1 rfl rfl (by omega) (by decide) dX7_block_61 ?_
            refine lv_aload_n hx hb dX7_block_62 rfl (lv_at hl 1 rfl) ?_
            refine va_get (D := D) (ci := 7) (v := .ref ma3) (C := RX7) (T := TX7) (N := 19) hx hb hts k_1 hown hK hP 0 rfl rfl 4 (by decide) k_7 (fun _ h9 => h9) rfl dX7_block_63 ?_
            refine lv_iload hx hb dX7_block_66 (lv_at hl 0 rfl) ?_
            refine z_lald (k := i) hx hb hK hP 3 2 rfl rfl (by omega) (by decide) dX7_block_68 ?_
            refine zRo_i (va_runS (As := [.long p1, .long (bf i), .long (bl i)]) (rest := []) ⟨hx, hb, hml, hown, hts⟩ (mx_isIn l D z H.size p1 (bf i) (bl i) ) (va_cwS 3 hts gX7_block_X7_isIn rfl rfl rfl (by decide +kernel) ⟨Nat.le_of_ble_eq_true rfl, Nat.le_of_ble_eq_true rfl⟩) ⟨zPre_blind, (zPre_mk (wc := []) (tc := []) hP hK hD hC hS [] (by decide) rfl rfl [] rfl (zro_free hS hA))⟩ rfl rfl hl.1 rfl (lv_room (Nat.le_of_ble_eq_true rfl)) dX7_block_69 ⟨Nat.zero_le _, Nat.zero_le _⟩) hS hA hP (fun r_69 H locs hw hP hS => ?_)
            have hw_69 : zB r_69 ((bf i).toInt ≤ p1.toInt ∧ p1.toInt ≤ (bl i).toInt) := hw
            refine lv_if_ne (tgt := 91) hx hb dX7_block_72 (by decide) (fun c_72 => ?_) (fun c_72 => ?_)
            · have i_72 : ¬ (r_69.toInt = 0) := fun q9 => c_72 (zi_eq.mpr q9)
              refine lv_bipush (v := -103) hx hb dX7_block_91 (by decide) ?_
              exact W.iret (v := (-103)) hx hb hr (fun t9 ht9 hW9 => ⟨⟨_, (nb, bo, bf, bl), rfl, Or.inr (Or.inl ⟨hok, ⟨i, by omega, by have := zB_ne hw_69 c_72; have := hB i (by omega); unfold zOkB at hok; exact ⟨zl_le.mpr (by omega), zl_le.mpr (by omega)⟩⟩, rfl, rfl, rfl, rfl, rfl⟩), by rw [ht9]; exact hP, va_K.moved hW9.alike hK, hD⟩, hS.F ht9⟩) hS.2.2 dX7_block_93
            · have i_72 : r_69.toInt = 0 := zi_eq.mp c_72
              refine lv_aload_n hx hb dX7_block_75 rfl (lv_at hl 1 rfl) ?_
              refine va_get (D := D) (ci := 7) (v := .ref ma2) (C := RX7) (T := TX7) (N := 19) hx hb hts k_1 hown hK hP 0 rfl rfl 3 (by decide) k_6 (fun _ h9 => h9) rfl dX7_block_76 ?_
              refine lv_iload hx hb dX7_block_79 (lv_at hl 0 rfl) ?_
              refine z_lald (k := i) hx hb hK hP 2 1 rfl rfl (by omega) (by decide) dX7_block_81 ?_
              refine lv_lload_n hx hb dX7_block_82 rfl (lv_at hl 3 rfl) ?_
              refine lv_lload hx hb dX7_block_83 (lv_at hl 4 rfl) ?_
              refine zRo_i (va_runS (As := [.long (bf i), .long p1, .long p2]) (rest := []) ⟨hx, hb, hml, hown, hts⟩ (mx_isIn l D z H.size (bf i) p1 p2 ) (va_cwS 3 hts gX7_block_X7_isIn rfl rfl rfl (by decide +kernel) ⟨Nat.le_of_ble_eq_true rfl, Nat.le_of_ble_eq_true rfl⟩) ⟨zPre_blind, (zPre_mk (wc := []) (tc := []) hP hK hD hC hS [] (by decide) rfl rfl [] rfl (zro_free hS hA))⟩ rfl rfl hl.1 rfl (lv_room (Nat.le_of_ble_eq_true rfl)) dX7_block_85 ⟨Nat.zero_le _, Nat.zero_le _⟩) hS hA hP (fun r_85 H locs hw hP hS => ?_)
              have hw_85 : zB r_85 (p1.toInt ≤ (bf i).toInt ∧ (bf i).toInt ≤ p2.toInt) := hw
              refine lv_if_eq (tgt := 94) hx hb dX7_block_88 (by decide) (fun c_88 => ?_) (fun c_88 => ?_)
              · have i_88 : r_85.toInt = 0 := zi_eq.mp c_88
                refine lv_iinc (v := (nI (i + 1))) (lv' := [(6, .int (nI (i + 1))), (0, .ref mo), (1, .int p0), (2, .long p1), (4, .long p2)]) hx hb dX7_block_94 hl (k := 0) rfl (by first | exact nI_1 _ | rfl) (by decide) rfl (fun ls hl => ?_)
                refine lv_goto (tgt := 45) hx hb dX7_block_97 (by decide) ?_
                exact ih (i + 1) _ _ _ (show nb - (i + 1) < nb - i from (by omega)) ⟨by omega, lt_s hI.2 (fun q => by have h2 := zB_eq hw_69 c_72; have h3 := zB_eq hw_85 c_88; have h4 := zl_le.mp q.1; have h5 := zl_le.mp q.2; omega)⟩ hP hD hS (lv_sub hl [0, 1, 2, 3, 4] rfl)
              · have i_88 : ¬ (r_85.toInt = 0) := fun q9 => c_88 (zi_eq.mpr q9)
                refine lv_bipush (v := -103) hx hb dX7_block_91 (by decide) ?_
                exact W.iret (v := (-103)) hx hb hr (fun t9 ht9 hW9 => ⟨⟨_, (nb, bo, bf, bl), rfl, Or.inr (Or.inl ⟨hok, ⟨i, by omega, by have := zB_ne hw_85 c_88; have := hB i (by omega); unfold zOkB at hok; exact ⟨zl_le.mpr (by omega), zl_le.mpr (by omega)⟩⟩, rfl, rfl, rfl, rfl, rfl⟩), by rw [ht9]; exact hP, va_K.moved hW9.alike hK, hD⟩, hS.F ht9⟩) hS.2.2 dX7_block_93
        · have c_36 : ¬ (p2 < 20000000000) := fun q9 => c_36 ((lg_cmp_lt _ _).mpr q9)
          have i_36 : ¬ (p2.toInt < 20000000000) := fun q9 => c_36 (zl_lt.mpr q9)
          refine lv_bipush (v := -102) hx hb dX7_block_39 (by decide) ?_
          exact W.iret (v := (-102)) hx hb hr (fun t9 ht9 hW9 => ⟨⟨_, (nb, bo, bf, bl), rfl, Or.inl ⟨fun q => by unfold zOkB at q; omega, rfl, rfl, rfl, rfl, rfl⟩, by rw [ht9]; exact hP, va_K.moved hW9.alike hK, hD⟩, hS.F ht9⟩) hS.2.2 dX7_block_41

set_option maxHeartbeats 4000000 in
set_option maxRecDepth 100000 in
theorem mx_next (l : Launch) (D : va_G) (z : zG) (sz : Nat) (mo : Nat) (ma1 : Nat) (ma2 : Nat) (ma3 : Nat) (mb1 : Nat) (mb2 : Nat) (mg1 : Nat) (mg2 : Nat) (mt1 : Nat) (mn1 : Nat) (mn2 : Nat) (mn3 : Nat) (ml1 : Nat) (mw1 : Nat) (th : Int32) (nb : Nat) (nq : Nat) (ng : Nat) (nt : Nat) (nn : Nat) (ja1 : ClassId) (bo : Nat → Int32) (ja2 : ClassId) (bf : Nat → Int64) (ja3 : ClassId) (bl : Nat → Int64) (jb1 : ClassId) (qf : Nat → Int64) (jb2 : ClassId) (ql : Nat → Int64) (jg1 : ClassId) (gn : Nat → Int64) (jg2 : ClassId) (gg : Nat → Int32) (p0 : Int32) (p1 : Int32) (hn : nb ≤ 50) (hq : nq ≤ 50) (hg : ng < 4200) (ht : zTop nq ql) (hB : zBwf nb bf bl) : Met l yX7_next wsX7_next ({ frames := 3, cells := 0, slots := 0, locals := 76 }) (zPre D z [.ref mo, .int p0, .int p1] sz [(mo, .inr (7, [.int th, .int (nI nb), .ref ma1, .ref ma2, .ref ma3, .int (nI nq), .ref mb1, .ref mb2, .int (nI ng), .ref mg1, .ref mg2, .int (nI nt), .ref mt1, .int (nI nn), .ref mn1, .ref mn2, .ref mn3, .ref ml1, .ref mw1])), (ma1, .inl (ja1, 50, .inl bo)), (ma2, .inl (ja2, 50, .inr (.inl bf))), (ma3, .inl (ja3, 50, .inr (.inl bl))), (mb1, .inl (jb1, 50, .inr (.inl qf))), (mb2, .inl (jb2, 50, .inr (.inl ql))), (mg1, .inl (jg1, 4200, .inr (.inl gn))), (mg2, .inl (jg2, 4200, .inl gg))] [(ja1, .int), (ja2, .long), (ja3, .long), (jb1, .long), (jb2, .long), (jg1, .long), (jg2, .boolean)] (va_A [(mo, .inr (7, [.int th, .int (nI nb), .ref ma1, .ref ma2, .ref ma3, .int (nI nq), .ref mb1, .ref mb2, .int (nI ng), .ref mg1, .ref mg2, .int (nI nt), .ref mt1, .int (nI nn), .ref mn1, .ref mn2, .ref mn3, .ref ml1, .ref mw1])), (ma1, .inl (ja1, 50, .inl bo)), (ma2, .inl (ja2, 50, .inr (.inl bf))), (ma3, .inl (ja3, 50, .inr (.inl bl))), (mb1, .inl (jb1, 50, .inr (.inl qf))), (mb2, .inl (jb2, 50, .inr (.inl ql))), (mg1, .inl (jg1, 4200, .inr (.inl gn))), (mg2, .inl (jg2, 4200, .inl gg))] sz)) (va_Ql (fun (r : Int64) (u : Nat × (Nat → Int64) × (Nat → Int32)) => (¬ zOkN p0 p1 ∧ r = -102 ∧ u.1 = ng ∧ u.2.1 = gn ∧ u.2.2 = gg) ∨ (zOkN p0 p1 ∧ ((zNon nq qf ql ng gn nb bo bf bl p0 ∧ r = 0 ∧ u.1 = ng ∧ u.2.1 = gn ∧ u.2.2 = gg) ∨ ∃ x, zNxt nq qf ql ng gn nb bo bf bl p0 x ∧ r = znumM p1 x ∧ u.1 = ng + 1 ∧ u.2.1 = vp_updL gn ng (znumM p1 x) ∧ u.2.2 = upd gg ng 0))) (zAt D [(ja1, .int), (ja2, .long), (ja3, .long), (jb1, .long), (jb2, .long), (jg1, .long), (jg2, .boolean)] (va_A [(mo, .inr (7, [.int th, .int (nI nb), .ref ma1, .ref ma2, .ref ma3, .int (nI nq), .ref mb1, .ref mb2, .int (nI ng), .ref mg1, .ref mg2, .int (nI nt), .ref mt1, .int (nI nn), .ref mn1, .ref mn2, .ref mn3, .ref ml1, .ref mw1])), (ma1, .inl (ja1, 50, .inl bo)), (ma2, .inl (ja2, 50, .inr (.inl bf))), (ma3, .inl (ja3, 50, .inr (.inl bl))), (mb1, .inl (jb1, 50, .inr (.inl qf))), (mb2, .inl (jb2, 50, .inr (.inl ql))), (mg1, .inl (jg1, 4200, .inr (.inl gn))), (mg2, .inl (jg2, 4200, .inl gg))] sz) (fun u : Nat × (Nat → Int64) × (Nat → Int32) => [(mo, .inr (7, [.int 0, .int (nI nb), .ref ma1, .ref ma2, .ref ma3, .int (nI nq), .ref mb1, .ref mb2, .int (nI u.1), .ref mg1, .ref mg2, .int (nI nt), .ref mt1, .int (nI nn), .ref mn1, .ref mn2, .ref mn3, .ref ml1, .ref mw1])), (ma1, .inl (ja1, 50, .inl bo)), (ma2, .inl (ja2, 50, .inr (.inl bf))), (ma3, .inl (ja3, 50, .inr (.inl bl))), (mb1, .inl (jb1, 50, .inr (.inl qf))), (mb2, .inl (jb2, 50, .inr (.inl ql))), (mg1, .inl (jg1, 4200, .inr (.inl u.2.1))), (mg2, .inl (jg2, 4200, .inl u.2.2))])) (va_A [(mo, .inr (7, [.int th, .int (nI nb), .ref ma1, .ref ma2, .ref ma3, .int (nI nq), .ref mb1, .ref mb2, .int (nI ng), .ref mg1, .ref mg2, .int (nI nt), .ref mt1, .int (nI nn), .ref mn1, .ref mn2, .ref mn3, .ref ml1, .ref mw1])), (ma1, .inl (ja1, 50, .inl bo)), (ma2, .inl (ja2, 50, .inr (.inl bf))), (ma3, .inl (ja3, 50, .inr (.inl bl))), (mb1, .inl (jb1, 50, .inr (.inl qf))), (mb2, .inl (jb2, 50, .inr (.inl ql))), (mg1, .inl (jg1, 4200, .inr (.inl gn))), (mg2, .inl (jg2, 4200, .inl gg))] sz)) 0 0 (va_A [(mo, .inr (7, [.int th, .int (nI nb), .ref ma1, .ref ma2, .ref ma3, .int (nI nq), .ref mb1, .ref mb2, .int (nI ng), .ref mg1, .ref mg2, .int (nI nt), .ref mt1, .int (nI nn), .ref mn1, .ref mn2, .ref mn3, .ref ml1, .ref mw1])), (ma1, .inl (ja1, 50, .inl bo)), (ma2, .inl (ja2, 50, .inr (.inl bf))), (ma3, .inl (ja3, 50, .inr (.inl bl))), (mb1, .inl (jb1, 50, .inr (.inl qf))), (mb2, .inl (jb2, 50, .inr (.inl ql))), (mg1, .inl (jg1, 4200, .inr (.inl gn))), (mg2, .inl (jg2, 4200, .inl gg))] sz) := by
  refine Met.ofW (cc := cX7_next) (maxL := 6) (ret := (some .long)) (by decide) rfl ?_
  intro p e s m args below meth c s₁ B hml hv
  obtain ⟨rfl, hsz, hP, hK, hD, hC⟩ := hv
  have hx := B.exec
  have hb := B.bytes
  have hr := B.returns
  have hts := atoms_spec (ws := wsX7_next) B.pre
  have hown : s.vm.findClass RX7 = some m.cls := findClass_of_methodNamed B.named
  have hlocks := B.notSynchronized
  subst hsz
  have hD := hD.self (sz := s.heap.size)
  generalize hAe : va_A [(mo, .inr (7, [.int th, .int (nI nb), .ref ma1, .ref ma2, .ref ma3, .int (nI nq), .ref mb1, .ref mb2, .int (nI ng), .ref mg1, .ref mg2, .int (nI nt), .ref mt1, .int (nI nn), .ref mn1, .ref mn2, .ref mn3, .ref ml1, .ref mw1])), (ma1, .inl (ja1, 50, .inl bo)), (ma2, .inl (ja2, 50, .inr (.inl bf))), (ma3, .inl (ja3, 50, .inr (.inl bl))), (mb1, .inl (jb1, 50, .inr (.inl qf))), (mb2, .inl (jb2, 50, .inr (.inl ql))), (mg1, .inl (jg1, 4200, .inr (.inl gn))), (mg2, .inl (jg2, 4200, .inl gg))] s.heap.size = A at hC hD ⊢
  have hA : ∀ q : Nat, s.heap.size ≤ q → A q := fun q h => by rw [← hAe]; exact Or.inr h
  have hS : va_S A s.heap s.heap [] := va_S.rf
  have hP : va_P D vwCl [(mo, .inr (7, [.int th, .int (nI nb), .ref ma1, .ref ma2, .ref ma3, .int (nI nq), .ref mb1, .ref mb2, .int (nI ng), .ref mg1, .ref mg2, .int (nI nt), .ref mt1, .int (nI nn), .ref mn1, .ref mn2, .ref mn3, .ref ml1, .ref mw1])), (ma1, .inl (ja1, 50, .inl bo)), (ma2, .inl (ja2, 50, .inr (.inl bf))), (ma3, .inl (ja3, 50, .inr (.inl bl))), (mb1, .inl (jb1, 50, .inr (.inl qf))), (mb2, .inl (jb2, 50, .inr (.inl ql))), (mg1, .inl (jg1, 4200, .inr (.inl gn))), (mg2, .inl (jg2, 4200, .inl gg))] s.heap := hP
  have hl := lv_entry ([.ref mo, .int p0, .int p1]) (n := 6) (Nat.le_of_ble_eq_true rfl)
  rw [lg_entry_eq]
  generalize (lg_sl ([.ref mo, .int p0, .int p1]) ++ List.replicate (6 - (lg_sl ([.ref mo, .int p0, .int p1])).length) Slot.unset).toArray = ls at hl ⊢
  have hl : lv_has ls 6 [(0, .ref mo), (1, .int p0), (2, .int p1)] := hl
  refine zNameH (D := D) (A := A) (ws := [(mo, .inr (7, [.int th, .int (nI nb), .ref ma1, .ref ma2, .ref ma3, .int (nI nq), .ref mb1, .ref mb2, .int (nI ng), .ref mg1, .ref mg2, .int (nI nt), .ref mt1, .int (nI nn), .ref mn1, .ref mn2, .ref mn3, .ref ml1, .ref mw1])), (ma1, .inl (ja1, 50, .inl bo)), (ma2, .inl (ja2, 50, .inr (.inl bf))), (ma3, .inl (ja3, 50, .inr (.inl bl))), (mb1, .inl (jb1, 50, .inr (.inl qf))), (mb2, .inl (jb2, 50, .inr (.inl ql))), (mg1, .inl (jg1, 4200, .inr (.inl gn))), (mg2, .inl (jg2, 4200, .inl gg))]) (fun H locs hP hS => ?_) hP hS
  have k_0 := hts (.fieldLink RX7 55 "NumberRows2Model" "thrown" "I") (by decide +kernel)
  have k_1 : ∀ w ∈ wsX70, w ∈ wsX7_next := by decide +kernel
  have k_2 := hts (.constantLong RX7 58 (99)) (by decide +kernel)
  have k_3 := hts (.constantLong RX7 89 (-102)) (by decide +kernel)
  have k_4 := hts (.constantLong RX7 87 (9)) (by decide +kernel)
  have k_5 := hts (.fieldLink RX7 66 "NumberRows2Model" "blocks" "I") (by decide +kernel)
  have k_6 := hts (.fieldLink RX7 7 "NumberRows2Model" "offices" "[I") (by decide +kernel)
  have k_7 := hts (.constantLong RX7 69 (-1)) (by decide +kernel)
  have k_8 := hts (.fieldLink RX7 26 "NumberRows2Model" "numbers" "[J") (by decide +kernel)
  have k_9 := hts (.fieldLink RX7 74 "NumberRows2Model" "gave" "I") (by decide +kernel)
  have k_10 := hts (.constantLong RX7 77 (27512614111)) (by decide +kernel)
  have k_11 := hts (.fieldLink RX7 29 "NumberRows2Model" "gone" "[Z") (by decide +kernel)
  refine lv_aload_n hx hb dX7_next_0 rfl (lv_at hl 0 rfl) ?_
  refine lv_iconst (v := 0) hx hb dX7_next_1 (by decide) ?_
  refine va_put (D := D) (ci := 7) (v := .int 0) (ty := .int) (C := RX7) (T := TX7) (N := 19) hx hb hts k_1 tyX7 tyX7_ok nmX7 hown hK hP hD hS 0 rfl rfl 0 (by decide) k_0 (fun _ h9 => h9) rfl (by decide +kernel) rfl rfl (Nat.le_of_ble_eq_true rfl) dX7_next_2 (fun H locs hP hD hS => ?_)
  have hP : va_P D vwCl [(mo, .inr (7, [.int 0, .int (nI nb), .ref ma1, .ref ma2, .ref ma3, .int (nI nq), .ref mb1, .ref mb2, .int (nI ng), .ref mg1, .ref mg2, .int (nI nt), .ref mt1, .int (nI nn), .ref mn1, .ref mn2, .ref mn3, .ref ml1, .ref mw1])), (ma1, .inl (ja1, 50, .inl bo)), (ma2, .inl (ja2, 50, .inr (.inl bf))), (ma3, .inl (ja3, 50, .inr (.inl bl))), (mb1, .inl (jb1, 50, .inr (.inl qf))), (mb2, .inl (jb2, 50, .inr (.inl ql))), (mg1, .inl (jg1, 4200, .inr (.inl gn))), (mg2, .inl (jg2, 4200, .inl gg))] H := hP
  have hD : va_D A [(mo, .inr (7, [.int 0, .int (nI nb), .ref ma1, .ref ma2, .ref ma3, .int (nI nq), .ref mb1, .ref mb2, .int (nI ng), .ref mg1, .ref mg2, .int (nI nt), .ref mt1, .int (nI nn), .ref mn1, .ref mn2, .ref mn3, .ref ml1, .ref mw1])), (ma1, .inl (ja1, 50, .inl bo)), (ma2, .inl (ja2, 50, .inr (.inl bf))), (ma3, .inl (ja3, 50, .inr (.inl bl))), (mb1, .inl (jb1, 50, .inr (.inl qf))), (mb2, .inl (jb2, 50, .inr (.inl ql))), (mg1, .inl (jg1, 4200, .inr (.inl gn))), (mg2, .inl (jg2, 4200, .inl gg))] := hD
  refine lv_iload_n hx hb dX7_next_5 rfl (lv_at hl 1 rfl) ?_
  refine lv_i2l (v := p0.toInt64) hx hb dX7_next_6 rfl ?_
  refine lv_lconst (v := 0) hx hb dX7_next_7 (by decide) ?_
  refine lv_ldc2 hx hb hown k_2 dX7_next_8 ?_
  refine zRo_i (va_runS (As := [.long p0.toInt64, .long 0, .long 99]) (rest := []) ⟨hx, hb, hml, hown, hts⟩ (mx_isIn l D z H.size p0.toInt64 (0 : Int64) (99 : Int64) ) (va_cwS 3 hts gX7_next_X7_isIn rfl rfl rfl (by decide +kernel) ⟨Nat.le_of_ble_eq_true rfl, Nat.le_of_ble_eq_true rfl⟩) ⟨zPre_blind, (zPre_mk (wc := []) (tc := []) hP hK hD hC hS [] (by decide) rfl rfl [] rfl (zro_free hS hA))⟩ rfl rfl hl.1 rfl (lv_room (Nat.le_of_ble_eq_true rfl)) dX7_next_11 ⟨Nat.zero_le _, Nat.zero_le _⟩) hS hA hP (fun r_11 H locs hw hP hS => ?_)
  have hw_11 : zB r_11 (0 ≤ p0.toInt64.toInt ∧ p0.toInt64.toInt ≤ 99) := hw
  rw [zi_l] at hw_11
  refine lv_if_eq (tgt := 29) hx hb dX7_next_14 (by decide) (fun c_14 => ?_) (fun c_14 => ?_)
  · have i_14 : r_11.toInt = 0 := zi_eq.mp c_14
    refine lv_ldc2 hx hb hown k_3 dX7_next_29 ?_
    exact W.lret (v := (-102)) hx hb hr (fun t9 ht9 hW9 => ⟨⟨_, (ng, gn, gg), rfl, Or.inl ⟨fun q => zB_eq hw_11 c_14 (by unfold zOkN at q; omega), rfl, rfl, rfl, rfl⟩, by rw [ht9]; exact hP, va_K.moved hW9.alike hK, hD⟩, hS.F ht9⟩) hS.2.2 dX7_next_32
  · have i_14 : ¬ (r_11.toInt = 0) := fun q9 => c_14 (zi_eq.mpr q9)
    refine lv_iload_n hx hb dX7_next_17 rfl (lv_at hl 2 rfl) ?_
    refine lv_i2l (v := p1.toInt64) hx hb dX7_next_18 rfl ?_
    refine lv_lconst (v := 0) hx hb dX7_next_19 (by decide) ?_
    refine lv_ldc2 hx hb hown k_4 dX7_next_20 ?_
    refine zRo_i (va_runS (As := [.long p1.toInt64, .long 0, .long 9]) (rest := []) ⟨hx, hb, hml, hown, hts⟩ (mx_isIn l D z H.size p1.toInt64 (0 : Int64) (9 : Int64) ) (va_cwS 3 hts gX7_next_X7_isIn rfl rfl rfl (by decide +kernel) ⟨Nat.le_of_ble_eq_true rfl, Nat.le_of_ble_eq_true rfl⟩) ⟨zPre_blind, (zPre_mk (wc := []) (tc := []) hP hK hD hC hS [] (by decide) rfl rfl [] rfl (zro_free hS hA))⟩ rfl rfl hl.1 rfl (lv_room (Nat.le_of_ble_eq_true rfl)) dX7_next_23 ⟨Nat.zero_le _, Nat.zero_le _⟩) hS hA hP (fun r_23 H locs hw hP hS => ?_)
    have hw_23 : zB r_23 (0 ≤ p1.toInt64.toInt ∧ p1.toInt64.toInt ≤ 9) := hw
    rw [zi_l] at hw_23
    refine lv_if_ne (tgt := 33) hx hb dX7_next_26 (by decide) (fun c_26 => ?_) (fun c_26 => ?_)
    · have i_26 : ¬ (r_23.toInt = 0) := fun q9 => c_26 (zi_eq.mpr q9)
      have hok : zOkN p0 p1 := by have := zB_ne hw_11 c_14; have := zB_ne hw_23 c_26; unfold zOkN; omega
      refine lv_iconst (v := 0) hx hb dX7_next_33 (by decide) ?_
      refine lv_istore_n (lv' := [(3, .int 0), (0, .ref mo), (1, .int p0), (2, .int p1)]) hx hb dX7_next_34 rfl hl (by decide) rfl (fun ls hl => ?_)
      refine zLoop (σ := Nat) (nL := 6) (μ := fun (i : Nat) => nb - i) (lv := fun (i : Nat) => [(3, .int (nI i)), (0, .ref mo), (1, .int p0), (2, .int p1)]) (wf := fun (i : Nat) => [(mo, .inr (7, [.int 0, .int (nI nb), .ref ma1, .ref ma2, .ref ma3, .int (nI nq), .ref mb1, .ref mb2, .int (nI ng), .ref mg1, .ref mg2, .int (nI nt), .ref mt1, .int (nI nn), .ref mn1, .ref mn2, .ref mn3, .ref ml1, .ref mw1])), (ma1, .inl (ja1, 50, .inl bo)), (ma2, .inl (ja2, 50, .inr (.inl bf))), (ma3, .inl (ja3, 50, .inr (.inl bl))), (mb1, .inl (jb1, 50, .inr (.inl qf))), (mb2, .inl (jb2, 50, .inr (.inl ql))), (mg1, .inl (jg1, 4200, .inr (.inl gn))), (mg2, .inl (jg2, 4200, .inl gg))]) (I := fun (i : Nat) => i ≤ nb ∧ ∀ j, j < i → bo j = p0 → zFul nq qf ql ng gn (bf j) (bl j)) (fun x H locs ls hI hP hD hS hl ih => ?_) 0 ⟨Nat.zero_le _, fun j hj => absurd hj (Nat.not_lt_zero j)⟩ hP hD hS (lv_sub hl [0, 1, 2, 3] rfl)
      obtain ⟨i, rfl⟩ : ∃ y9, y9 = x := ⟨_, rfl⟩
      have hI : i ≤ nb ∧ ∀ j, j < i → bo j = p0 → zFul nq qf ql ng gn (bf j) (bl j) := hI
      have hl : lv_has ls 6 [(3, .int (nI i)), (0, .ref mo), (1, .int p0), (2, .int p1)] := hl
      have hP : va_P D vwCl [(mo, .inr (7, [.int 0, .int (nI nb), .ref ma1, .ref ma2, .ref ma3, .int (nI nq), .ref mb1, .ref mb2, .int (nI ng), .ref mg1, .ref mg2, .int (nI nt), .ref mt1, .int (nI nn), .ref mn1, .ref mn2, .ref mn3, .ref ml1, .ref mw1])), (ma1, .inl (ja1, 50, .inl bo)), (ma2, .inl (ja2, 50, .inr (.inl bf))), (ma3, .inl (ja3, 50, .inr (.inl bl))), (mb1, .inl (jb1, 50, .inr (.inl qf))), (mb2, .inl (jb2, 50, .inr (.inl ql))), (mg1, .inl (jg1, 4200, .inr (.inl gn))), (mg2, .inl (jg2, 4200, .inl gg))] H := hP
      have hD : va_D A [(mo, .inr (7, [.int 0, .int (nI nb), .ref ma1, .ref ma2, .ref ma3, .int (nI nq), .ref mb1, .ref mb2, .int (nI ng), .ref mg1, .ref mg2, .int (nI nt), .ref mt1, .int (nI nn), .ref mn1, .ref mn2, .ref mn3, .ref ml1, .ref mw1])), (ma1, .inl (ja1, 50, .inl bo)), (ma2, .inl (ja2, 50, .inr (.inl bf))), (ma3, .inl (ja3, 50, .inr (.inl bl))), (mb1, .inl (jb1, 50, .inr (.inl qf))), (mb2, .inl (jb2, 50, .inr (.inl ql))), (mg1, .inl (jg1, 4200, .inr (.inl gn))), (mg2, .inl (jg2, 4200, .inl gg))] := hD
      have h1 := hI.1
      refine lv_iload_n hx hb dX7_next_35 rfl (lv_at hl 0 rfl) ?_
      refine lv_aload_n hx hb dX7_next_36 rfl (lv_at hl 1 rfl) ?_
      refine va_get (D := D) (ci := 7) (v := .int (nI nb)) (C := RX7) (T := TX7) (N := 19) hx hb hts k_1 hown hK hP 0 rfl rfl 1 (by decide) k_5 (fun _ h9 => h9) rfl dX7_next_37 ?_
      refine lv_icmp_ge (tgt := 131) hx hb dX7_next_40 (by decide) (fun c_40 => ?_) (fun c_40 => ?_)
      · have c_40 : nb ≤ i := (nI_leI (a := nb) (b := i) (by omega) (by omega)).mp c_40
        refine lv_lconst (v := 0) hx hb dX7_next_131 (by decide) ?_
        exact W.lret (v := 0) hx hb hr (fun t9 ht9 hW9 => ⟨⟨_, (ng, gn, gg), rfl, Or.inr ⟨hok, Or.inl ⟨fun j hj => hI.2 j (by omega), rfl, rfl, rfl, rfl⟩⟩, by rw [ht9]; exact hP, va_K.moved hW9.alike hK, hD⟩, hS.F ht9⟩) hS.2.2 dX7_next_132
      · have c_40 : ¬ (nb ≤ i) := fun q9 => c_40 ((nI_leI (a := nb) (b := i) (by omega) (by omega)).mpr q9)
        refine lv_aload_n hx hb dX7_next_43 rfl (lv_at hl 1 rfl) ?_
        refine va_get (D := D) (ci := 7) (v := .ref ma1) (C := RX7) (T := TX7) (N := 19) hx hb hts k_1 hown hK hP 0 rfl rfl 2 (by decide) k_6 (fun _ h9 => h9) rfl dX7_next_44 ?_
        refine lv_iload_n hx hb dX7_next_47 rfl (lv_at hl 0 rfl) ?_
        refine z_iald (k := i) hx hb hK hP 1 0 rfl rfl (by omega) (by decide) dX7_next_48 ?_
        refine lv_iload_n hx hb dX7_next_49 rfl (lv_at hl 2 rfl) ?_
        refine lv_icmp_ne (tgt := 61) hx hb dX7_next_50 (by decide) (fun c_50 => ?_) (fun c_50 => ?_)
        · have i_50 : ¬ ((bo i).toInt = p0.toInt) := fun q9 => c_50 (zi_eq.mpr q9)
          refine lv_ldc2 hx hb hown k_7 dX7_next_61 ?_
          refine lv_lstore (lv' := [(4, .long (-1)), (3, .int (nI i)), (0, .ref mo), (1, .int p0), (2, .int p1)]) hx hb dX7_next_64 hl (by decide) rfl (fun ls hl => ?_)
          refine lv_lload hx hb dX7_next_66 (lv_at hl 0 rfl) ?_
          refine lv_lconst (v := 0) hx hb dX7_next_68 (by decide) ?_
          refine W.lcmp hx hb dX7_next_69 ?_
          refine lv_if_lt (tgt := 125) hx hb dX7_next_70 (by decide) (fun c_70 => ?_) (fun c_70 => ?_)
          · have c_70 : ((-1) : Int64) < 0 := (lg_cmp_lt _ _).mp c_70
            refine lv_iinc (v := (nI (i + 1))) (lv' := [(3, .int (nI (i + 1))), (4, .long (-1)), (0, .ref mo), (1, .int p0), (2, .int p1)]) hx hb dX7_next_125 hl (k := 1) rfl (by first | exact nI_1 _ | rfl) (by decide) rfl (fun ls hl => ?_)
            refine lv_goto (tgt := 35) hx hb dX7_next_128 (by decide) ?_
            exact ih (i + 1) _ _ _ (show nb - (i + 1) < nb - i from (by omega)) ⟨by omega, lt_s hI.2 (fun q => absurd q c_50)⟩ hP hD hS (lv_sub hl [0, 2, 3, 4] rfl)
          · have c_70 : ¬ (((-1) : Int64) < 0) := fun q9 => c_70 ((lg_cmp_lt _ _).mpr q9)
            exact absurd c_70 (fun q => q (by decide))
        · have i_50 : (bo i).toInt = p0.toInt := zi_eq.mp c_50
          refine lv_aload_n hx hb dX7_next_53 rfl (lv_at hl 1 rfl) ?_
          refine lv_iload_n hx hb dX7_next_54 rfl (lv_at hl 0 rfl) ?_
          refine zRo_l (va_runV (As := [.int (nI i)]) (rest := []) ⟨hx, hb, hml, hown, hts⟩ (mx_free l D z H.size mo ma1 ma2 ma3 mb1 mb2 mg1 mg2 mt1 mn1 mn2 mn3 ml1 mw1 (0 : Int32) nb nq ng nt nn ja2 bf ja3 bl jb1 qf jb2 ql jg1 gn i (by omega) (by omega) (by omega) ht (hB i (by omega))) (cwV 1 hts gX7_next_X7_free rfl rfl rfl (by decide +kernel) ⟨Nat.le_of_ble_eq_true rfl, Nat.le_of_ble_eq_true rfl⟩) ⟨zPre_blind, va_recv hK hP (ci := 7) (q0 := 0) rfl rfl, (zPre_mk (wc := [(mo, .inr (7, [.int (0 : Int32), .int (nI nb), .ref ma1, .ref ma2, .ref ma3, .int (nI nq), .ref mb1, .ref mb2, .int (nI ng), .ref mg1, .ref mg2, .int (nI nt), .ref mt1, .int (nI nn), .ref mn1, .ref mn2, .ref mn3, .ref ml1, .ref mw1])), (ma2, .inl (ja2, 50, .inr (.inl bf))), (ma3, .inl (ja3, 50, .inr (.inl bl))), (mb1, .inl (jb1, 50, .inr (.inl qf))), (mb2, .inl (jb2, 50, .inr (.inl ql))), (mg1, .inl (jg1, 4200, .inr (.inl gn)))]) (tc := [(ja2, .long), (ja3, .long), (jb1, .long), (jb2, .long), (jg1, .long)]) hP hK hD hC hS [0, 2, 3, 4, 5, 6] (by decide) rfl rfl [1, 2, 3, 4, 5] rfl (zro_free hS hA))⟩ rfl rfl hl.1 rfl (lv_room (Nat.le_of_ble_eq_true rfl)) dX7_next_55 ⟨Nat.zero_le _, Nat.zero_le _⟩) hS hA hP (fun r_55 H locs hw hP hS => ?_)
          have hw_55 : zFre nq qf ql ng gn (bf i) (bl i) r_55 ∨ (zFul nq qf ql ng gn (bf i) (bl i) ∧ r_55 = -1) := hw
          refine lv_goto (tgt := 64) hx hb dX7_next_58 (by decide) ?_
          refine lv_lstore (lv' := [(4, .long r_55), (3, .int (nI i)), (0, .ref mo), (1, .int p0), (2, .int p1)]) hx hb dX7_next_64 hl (by decide) rfl (fun ls hl => ?_)
          refine lv_lload hx hb dX7_next_66 (lv_at hl 0 rfl) ?_
          refine lv_lconst (v := 0) hx hb dX7_next_68 (by decide) ?_
          refine W.lcmp hx hb dX7_next_69 ?_
          refine lv_if_lt (tgt := 125) hx hb dX7_next_70 (by decide) (fun c_70 => ?_) (fun c_70 => ?_)
          · have c_70 : r_55 < 0 := (lg_cmp_lt _ _).mp c_70
            have i_70 : r_55.toInt < 0 := zl_lt.mp c_70
            refine lv_iinc (v := (nI (i + 1))) (lv' := [(3, .int (nI (i + 1))), (4, .long r_55), (0, .ref mo), (1, .int p0), (2, .int p1)]) hx hb dX7_next_125 hl (k := 1) rfl (by first | exact nI_1 _ | rfl) (by decide) rfl (fun ls hl => ?_)
            refine lv_goto (tgt := 35) hx hb dX7_next_128 (by decide) ?_
            exact ih (i + 1) _ _ _ (show nb - (i + 1) < nb - i from (by omega)) ⟨by omega, lt_s hI.2 (fun _ => (hw_55.resolve_left (fun q => by have := zl_le.mp q.1; have := hB i (by omega); omega)).1)⟩ hP hD hS (lv_sub hl [0, 2, 3, 4] rfl)
          · have c_70 : ¬ (r_55 < 0) := fun q9 => c_70 ((lg_cmp_lt _ _).mpr q9)
            have i_70 : ¬ (r_55.toInt < 0) := fun q9 => c_70 (zl_lt.mpr q9)
            have hfr : zFre nq qf ql ng gn (bf i) (bl i) r_55 := hw_55.resolve_right (fun q => i_70 (by rw [q.2]; decide))
            refine lv_aload_n hx hb dX7_next_73 rfl (lv_at hl 2 rfl) ?_
            refine va_get (D := D) (ci := 7) (v := .ref mg1) (C := RX7) (T := TX7) (N := 19) hx hb hts k_1 hown hK hP 0 rfl rfl 9 (by decide) k_8 (fun _ h9 => h9) rfl dX7_next_74 ?_
            refine lv_aload_n hx hb dX7_next_77 rfl (lv_at hl 2 rfl) ?_
            refine va_get (D := D) (ci := 7) (v := .int (nI ng)) (C := RX7) (T := TX7) (N := 19) hx hb hts k_1 hown hK hP 0 rfl rfl 8 (by decide) k_9 (fun _ h9 => h9) rfl dX7_next_78 ?_
            refine lv_iload_n hx hb dX7_next_81 rfl (lv_at hl 4 rfl) ?_
            refine lv_i2l (v := p1.toInt64) hx hb dX7_next_82 rfl ?_
            refine lv_lconst (v := 1) hx hb dX7_next_83 (by decide) ?_
            refine lv_ladd hx hb dX7_next_84 ?_
            refine lv_ldc2 hx hb hown k_10 dX7_next_85 ?_
            refine lv_lmul hx hb dX7_next_88 ?_
            refine lv_lload hx hb dX7_next_89 (lv_at hl 0 rfl) ?_
            refine lv_ladd hx hb dX7_next_91 ?_
            refine z_last (k := ng) hx hb hK hP hD hS 6 5 rfl rfl (by omega) (by decide) dX7_next_92 (fun H locs hP hD hS => ?_)
            have hP : va_P D vwCl [(mo, .inr (7, [.int 0, .int (nI nb), .ref ma1, .ref ma2, .ref ma3, .int (nI nq), .ref mb1, .ref mb2, .int (nI ng), .ref mg1, .ref mg2, .int (nI nt), .ref mt1, .int (nI nn), .ref mn1, .ref mn2, .ref mn3, .ref ml1, .ref mw1])), (ma1, .inl (ja1, 50, .inl bo)), (ma2, .inl (ja2, 50, .inr (.inl bf))), (ma3, .inl (ja3, 50, .inr (.inl bl))), (mb1, .inl (jb1, 50, .inr (.inl qf))), (mb2, .inl (jb2, 50, .inr (.inl ql))), (mg1, .inl (jg1, 4200, .inr (.inl (vp_updL gn ng (((p1.toInt64 + 1) * 27512614111) + r_55))))), (mg2, .inl (jg2, 4200, .inl gg))] H := hP
            have hD : va_D A [(mo, .inr (7, [.int 0, .int (nI nb), .ref ma1, .ref ma2, .ref ma3, .int (nI nq), .ref mb1, .ref mb2, .int (nI ng), .ref mg1, .ref mg2, .int (nI nt), .ref mt1, .int (nI nn), .ref mn1, .ref mn2, .ref mn3, .ref ml1, .ref mw1])), (ma1, .inl (ja1, 50, .inl bo)), (ma2, .inl (ja2, 50, .inr (.inl bf))), (ma3, .inl (ja3, 50, .inr (.inl bl))), (mb1, .inl (jb1, 50, .inr (.inl qf))), (mb2, .inl (jb2, 50, .inr (.inl ql))), (mg1, .inl (jg1, 4200, .inr (.inl (vp_updL gn ng (((p1.toInt64 + 1) * 27512614111) + r_55))))), (mg2, .inl (jg2, 4200, .inl gg))] := hD
            refine lv_aload_n hx hb dX7_next_93 rfl (lv_at hl 2 rfl) ?_
            refine va_get (D := D) (ci := 7) (v := .ref mg2) (C := RX7) (T := TX7) (N := 19) hx hb hts k_1 hown hK hP 0 rfl rfl 10 (by decide) k_11 (fun _ h9 => h9) rfl dX7_next_94 ?_
            refine lv_aload_n hx hb dX7_next_97 rfl (lv_at hl 2 rfl) ?_
            refine va_get (D := D) (ci := 7) (v := .int (nI ng)) (C := RX7) (T := TX7) (N := 19) hx hb hts k_1 hown hK hP 0 rfl rfl 8 (by decide) k_9 (fun _ h9 => h9) rfl dX7_next_98 ?_
            refine lv_iconst (v := 0) hx hb dX7_next_101 (by decide) ?_
            refine z_zast (k := ng) hx hb hK hP hD hS 7 6 rfl rfl (by omega) (by decide) dX7_next_102 (fun H locs hP hD hS => ?_)
            have hP : va_P D vwCl [(mo, .inr (7, [.int 0, .int (nI nb), .ref ma1, .ref ma2, .ref ma3, .int (nI nq), .ref mb1, .ref mb2, .int (nI ng), .ref mg1, .ref mg2, .int (nI nt), .ref mt1, .int (nI nn), .ref mn1, .ref mn2, .ref mn3, .ref ml1, .ref mw1])), (ma1, .inl (ja1, 50, .inl bo)), (ma2, .inl (ja2, 50, .inr (.inl bf))), (ma3, .inl (ja3, 50, .inr (.inl bl))), (mb1, .inl (jb1, 50, .inr (.inl qf))), (mb2, .inl (jb2, 50, .inr (.inl ql))), (mg1, .inl (jg1, 4200, .inr (.inl (vp_updL gn ng (((p1.toInt64 + 1) * 27512614111) + r_55))))), (mg2, .inl (jg2, 4200, .inl (upd gg ng (vp_nar .boolean 0))))] H := hP
            have hD : va_D A [(mo, .inr (7, [.int 0, .int (nI nb), .ref ma1, .ref ma2, .ref ma3, .int (nI nq), .ref mb1, .ref mb2, .int (nI ng), .ref mg1, .ref mg2, .int (nI nt), .ref mt1, .int (nI nn), .ref mn1, .ref mn2, .ref mn3, .ref ml1, .ref mw1])), (ma1, .inl (ja1, 50, .inl bo)), (ma2, .inl (ja2, 50, .inr (.inl bf))), (ma3, .inl (ja3, 50, .inr (.inl bl))), (mb1, .inl (jb1, 50, .inr (.inl qf))), (mb2, .inl (jb2, 50, .inr (.inl ql))), (mg1, .inl (jg1, 4200, .inr (.inl (vp_updL gn ng (((p1.toInt64 + 1) * 27512614111) + r_55))))), (mg2, .inl (jg2, 4200, .inl (upd gg ng (vp_nar .boolean 0))))] := hD
            refine lv_aload_n hx hb dX7_next_103 rfl (lv_at hl 2 rfl) ?_
            refine lv_dup hx hb dX7_next_104 rfl ?_
            refine va_get (D := D) (ci := 7) (v := .int (nI ng)) (C := RX7) (T := TX7) (N := 19) hx hb hts k_1 hown hK hP 0 rfl rfl 8 (by decide) k_9 (fun _ h9 => h9) rfl dX7_next_105 ?_
            refine lv_iconst (v := 1) hx hb dX7_next_108 (by decide) ?_
            refine lv_iadd hx hb dX7_next_109 ?_
            refine lv_topi (fun y_1 e_1 => ?_)
            obtain rfl : y_1 = nI (ng + 1) := e_1.trans (by first | exact nI_1 _ | exact nI_add _ 1)
            refine va_put (D := D) (ci := 7) (v := .int (nI (ng + 1))) (ty := .int) (C := RX7) (T := TX7) (N := 19) hx hb hts k_1 tyX7 tyX7_ok nmX7 hown hK hP hD hS 0 rfl rfl 8 (by decide) k_9 (fun _ h9 => h9) rfl (by decide +kernel) rfl rfl (Nat.le_of_ble_eq_true rfl) dX7_next_110 (fun H locs hP hD hS => ?_)
            have hP : va_P D vwCl [(mo, .inr (7, [.int 0, .int (nI nb), .ref ma1, .ref ma2, .ref ma3, .int (nI nq), .ref mb1, .ref mb2, .int (nI (ng + 1)), .ref mg1, .ref mg2, .int (nI nt), .ref mt1, .int (nI nn), .ref mn1, .ref mn2, .ref mn3, .ref ml1, .ref mw1])), (ma1, .inl (ja1, 50, .inl bo)), (ma2, .inl (ja2, 50, .inr (.inl bf))), (ma3, .inl (ja3, 50, .inr (.inl bl))), (mb1, .inl (jb1, 50, .inr (.inl qf))), (mb2, .inl (jb2, 50, .inr (.inl ql))), (mg1, .inl (jg1, 4200, .inr (.inl (vp_updL gn ng (((p1.toInt64 + 1) * 27512614111) + r_55))))), (mg2, .inl (jg2, 4200, .inl (upd gg ng (vp_nar .boolean 0))))] H := hP
            have hD : va_D A [(mo, .inr (7, [.int 0, .int (nI nb), .ref ma1, .ref ma2, .ref ma3, .int (nI nq), .ref mb1, .ref mb2, .int (nI (ng + 1)), .ref mg1, .ref mg2, .int (nI nt), .ref mt1, .int (nI nn), .ref mn1, .ref mn2, .ref mn3, .ref ml1, .ref mw1])), (ma1, .inl (ja1, 50, .inl bo)), (ma2, .inl (ja2, 50, .inr (.inl bf))), (ma3, .inl (ja3, 50, .inr (.inl bl))), (mb1, .inl (jb1, 50, .inr (.inl qf))), (mb2, .inl (jb2, 50, .inr (.inl ql))), (mg1, .inl (jg1, 4200, .inr (.inl (vp_updL gn ng (((p1.toInt64 + 1) * 27512614111) + r_55))))), (mg2, .inl (jg2, 4200, .inl (upd gg ng (vp_nar .boolean 0))))] := hD
            refine lv_aload_n hx hb dX7_next_113 rfl (lv_at hl 2 rfl) ?_
            refine va_get (D := D) (ci := 7) (v := .ref mg1) (C := RX7) (T := TX7) (N := 19) hx hb hts k_1 hown hK hP 0 rfl rfl 9 (by decide) k_8 (fun _ h9 => h9) rfl dX7_next_114 ?_
            refine lv_aload_n hx hb dX7_next_117 rfl (lv_at hl 2 rfl) ?_
            refine va_get (D := D) (ci := 7) (v := .int (nI (ng + 1))) (C := RX7) (T := TX7) (N := 19) hx hb hts k_1 hown hK hP 0 rfl rfl 8 (by decide) k_9 (fun _ h9 => h9) rfl dX7_next_118 ?_
            refine lv_iconst (v := 1) hx hb dX7_next_121 (by decide) ?_
            refine lv_isub hx hb dX7_next_122 ?_
            refine lv_topi (fun t_122 et_122 => ?_)
            obtain rfl : t_122 = nI ng := et_122.trans (nI_pred ng)
            refine z_lald (k := ng) hx hb hK hP 6 5 rfl rfl (by omega) (by decide) dX7_next_123 ?_
            exact W.lret (v := ((vp_updL gn ng (((p1.toInt64 + 1) * 27512614111) + r_55)) ng)) hx hb hr (fun t9 ht9 hW9 => ⟨⟨_, ((ng + 1), (vp_updL gn ng (znumM p1 r_55)), (upd gg ng 0)), rfl, Or.inr ⟨hok, Or.inr ⟨r_55, ⟨i, by omega, hI.2, c_50, hfr⟩, pk_uLs, rfl, rfl, rfl⟩⟩, by rw [ht9]; exact hP, va_K.moved hW9.alike hK, hD⟩, hS.F ht9⟩) hS.2.2 dX7_next_124
    · have i_26 : r_23.toInt = 0 := zi_eq.mp c_26
      refine lv_ldc2 hx hb hown k_3 dX7_next_29 ?_
      exact W.lret (v := (-102)) hx hb hr (fun t9 ht9 hW9 => ⟨⟨_, (ng, gn, gg), rfl, Or.inl ⟨fun q => zB_eq hw_23 c_26 (by unfold zOkN at q; omega), rfl, rfl, rfl, rfl⟩, by rw [ht9]; exact hP, va_K.moved hW9.alike hK, hD⟩, hS.F ht9⟩) hS.2.2 dX7_next_32

set_option maxHeartbeats 4000000 in
set_option maxRecDepth 100000 in
theorem mx_type (l : Launch) (D : va_G) (z : zG) (sz : Nat) (mo : Nat) (ma1 : Nat) (ma2 : Nat) (ma3 : Nat) (mb1 : Nat) (mb2 : Nat) (mg1 : Nat) (mg2 : Nat) (mt1 : Nat) (mn1 : Nat) (mn2 : Nat) (mn3 : Nat) (ml1 : Nat) (mw1 : Nat) (th : Int32) (nb : Nat) (nq : Nat) (ng : Nat) (nt : Nat) (nn : Nat) (jt1 : ClassId) (ch : Nat → Int32) (p0 : Int32) (hn : nt ≤ 60) : Met l yX7_type wsX7_type ({ frames := 0, cells := 0, slots := 0, locals := 0 }) (zPre D z [.ref mo, .int p0] sz [(mo, .inr (7, [.int th, .int (nI nb), .ref ma1, .ref ma2, .ref ma3, .int (nI nq), .ref mb1, .ref mb2, .int (nI ng), .ref mg1, .ref mg2, .int (nI nt), .ref mt1, .int (nI nn), .ref mn1, .ref mn2, .ref mn3, .ref ml1, .ref mw1])), (mt1, .inl (jt1, 60, .inl ch))] [(jt1, .int)] (va_A [(mo, .inr (7, [.int th, .int (nI nb), .ref ma1, .ref ma2, .ref ma3, .int (nI nq), .ref mb1, .ref mb2, .int (nI ng), .ref mg1, .ref mg2, .int (nI nt), .ref mt1, .int (nI nn), .ref mn1, .ref mn2, .ref mn3, .ref ml1, .ref mw1])), (mt1, .inl (jt1, 60, .inl ch))] sz)) (va_Qv (fun u : Nat × (Nat → Int32) => (nt < 60 → u.1 = nt + 1 ∧ u.2 = upd ch nt p0) ∧ (¬ nt < 60 → u.1 = nt ∧ u.2 = ch)) (zAt D [(jt1, .int)] (va_A [(mo, .inr (7, [.int th, .int (nI nb), .ref ma1, .ref ma2, .ref ma3, .int (nI nq), .ref mb1, .ref mb2, .int (nI ng), .ref mg1, .ref mg2, .int (nI nt), .ref mt1, .int (nI nn), .ref mn1, .ref mn2, .ref mn3, .ref ml1, .ref mw1])), (mt1, .inl (jt1, 60, .inl ch))] sz) (fun u : Nat × (Nat → Int32) => [(mo, .inr (7, [.int 0, .int (nI nb), .ref ma1, .ref ma2, .ref ma3, .int (nI nq), .ref mb1, .ref mb2, .int (nI ng), .ref mg1, .ref mg2, .int (nI u.1), .ref mt1, .int (nI nn), .ref mn1, .ref mn2, .ref mn3, .ref ml1, .ref mw1])), (mt1, .inl (jt1, 60, .inl u.2))])) (va_A [(mo, .inr (7, [.int th, .int (nI nb), .ref ma1, .ref ma2, .ref ma3, .int (nI nq), .ref mb1, .ref mb2, .int (nI ng), .ref mg1, .ref mg2, .int (nI nt), .ref mt1, .int (nI nn), .ref mn1, .ref mn2, .ref mn3, .ref ml1, .ref mw1])), (mt1, .inl (jt1, 60, .inl ch))] sz)) 0 0 (va_A [(mo, .inr (7, [.int th, .int (nI nb), .ref ma1, .ref ma2, .ref ma3, .int (nI nq), .ref mb1, .ref mb2, .int (nI ng), .ref mg1, .ref mg2, .int (nI nt), .ref mt1, .int (nI nn), .ref mn1, .ref mn2, .ref mn3, .ref ml1, .ref mw1])), (mt1, .inl (jt1, 60, .inl ch))] sz) := by
  refine Met.ofW (cc := cX7_type) (maxL := 2) (ret := none) (by decide) rfl ?_
  intro p e s m args below meth c s₁ B hml hv
  obtain ⟨rfl, hsz, hP, hK, hD, hC⟩ := hv
  have hx := B.exec
  have hb := B.bytes
  have hr := B.returns
  have hts := atoms_spec (ws := wsX7_type) B.pre
  have hown : s.vm.findClass RX7 = some m.cls := findClass_of_methodNamed B.named
  have hlocks := B.notSynchronized
  subst hsz
  have hD := hD.self (sz := s.heap.size)
  generalize hAe : va_A [(mo, .inr (7, [.int th, .int (nI nb), .ref ma1, .ref ma2, .ref ma3, .int (nI nq), .ref mb1, .ref mb2, .int (nI ng), .ref mg1, .ref mg2, .int (nI nt), .ref mt1, .int (nI nn), .ref mn1, .ref mn2, .ref mn3, .ref ml1, .ref mw1])), (mt1, .inl (jt1, 60, .inl ch))] s.heap.size = A at hC hD ⊢
  have hA : ∀ q : Nat, s.heap.size ≤ q → A q := fun q h => by rw [← hAe]; exact Or.inr h
  have hS : va_S A s.heap s.heap [] := va_S.rf
  have hP : va_P D vwCl [(mo, .inr (7, [.int th, .int (nI nb), .ref ma1, .ref ma2, .ref ma3, .int (nI nq), .ref mb1, .ref mb2, .int (nI ng), .ref mg1, .ref mg2, .int (nI nt), .ref mt1, .int (nI nn), .ref mn1, .ref mn2, .ref mn3, .ref ml1, .ref mw1])), (mt1, .inl (jt1, 60, .inl ch))] s.heap := hP
  have hl := lv_entry ([.ref mo, .int p0]) (n := 2) (Nat.le_of_ble_eq_true rfl)
  rw [lg_entry_eq]
  generalize (lg_sl ([.ref mo, .int p0]) ++ List.replicate (2 - (lg_sl ([.ref mo, .int p0])).length) Slot.unset).toArray = ls at hl ⊢
  have hl : lv_has ls 2 [(0, .ref mo), (1, .int p0)] := hl
  refine zNameH (D := D) (A := A) (ws := [(mo, .inr (7, [.int th, .int (nI nb), .ref ma1, .ref ma2, .ref ma3, .int (nI nq), .ref mb1, .ref mb2, .int (nI ng), .ref mg1, .ref mg2, .int (nI nt), .ref mt1, .int (nI nn), .ref mn1, .ref mn2, .ref mn3, .ref ml1, .ref mw1])), (mt1, .inl (jt1, 60, .inl ch))]) (fun H locs hP hS => ?_) hP hS
  have k_0 := hts (.fieldLink RX7 55 "NumberRows2Model" "thrown" "I") (by decide +kernel)
  have k_1 : ∀ w ∈ wsX70, w ∈ wsX7_type := by decide +kernel
  have k_2 := hts (.fieldLink RX7 51 "NumberRows2Model" "typed" "I") (by decide +kernel)
  have k_3 := hts (.fieldLink RX7 33 "NumberRows2Model" "signs" "[I") (by decide +kernel)
  refine lv_aload_n hx hb dX7_type_0 rfl (lv_at hl 0 rfl) ?_
  refine lv_iconst (v := 0) hx hb dX7_type_1 (by decide) ?_
  refine va_put (D := D) (ci := 7) (v := .int 0) (ty := .int) (C := RX7) (T := TX7) (N := 19) hx hb hts k_1 tyX7 tyX7_ok nmX7 hown hK hP hD hS 0 rfl rfl 0 (by decide) k_0 (fun _ h9 => h9) rfl (by decide +kernel) rfl rfl (Nat.le_of_ble_eq_true rfl) dX7_type_2 (fun H locs hP hD hS => ?_)
  have hP : va_P D vwCl [(mo, .inr (7, [.int 0, .int (nI nb), .ref ma1, .ref ma2, .ref ma3, .int (nI nq), .ref mb1, .ref mb2, .int (nI ng), .ref mg1, .ref mg2, .int (nI nt), .ref mt1, .int (nI nn), .ref mn1, .ref mn2, .ref mn3, .ref ml1, .ref mw1])), (mt1, .inl (jt1, 60, .inl ch))] H := hP
  have hD : va_D A [(mo, .inr (7, [.int 0, .int (nI nb), .ref ma1, .ref ma2, .ref ma3, .int (nI nq), .ref mb1, .ref mb2, .int (nI ng), .ref mg1, .ref mg2, .int (nI nt), .ref mt1, .int (nI nn), .ref mn1, .ref mn2, .ref mn3, .ref ml1, .ref mw1])), (mt1, .inl (jt1, 60, .inl ch))] := hD
  refine lv_aload_n hx hb dX7_type_5 rfl (lv_at hl 0 rfl) ?_
  refine va_get (D := D) (ci := 7) (v := .int (nI nt)) (C := RX7) (T := TX7) (N := 19) hx hb hts k_1 hown hK hP 0 rfl rfl 11 (by decide) k_2 (fun _ h9 => h9) rfl dX7_type_6 ?_
  refine lv_bipush (v := 60) hx hb dX7_type_9 (by decide) ?_
  refine lv_icmp_ge (tgt := 34) hx hb dX7_type_11 (by decide) (fun c_11 => ?_) (fun c_11 => ?_)
  · have c_11 : 60 ≤ nt := (nI_leI (a := 60) (b := nt) (by omega) (by omega)).mp c_11
    exact W.vret hx hb hr (fun t9 ht9 hW9 => ⟨⟨(nt, ch), rfl, ⟨fun q => absurd q (by omega), fun _ => ⟨rfl, rfl⟩⟩, by rw [ht9]; exact hP, va_K.moved hW9.alike hK, hD⟩, hS.F ht9⟩) hS.2.2 dX7_type_34
  · have c_11 : ¬ (60 ≤ nt) := fun q9 => c_11 ((nI_leI (a := 60) (b := nt) (by omega) (by omega)).mpr q9)
    refine lv_aload_n hx hb dX7_type_14 rfl (lv_at hl 0 rfl) ?_
    refine va_get (D := D) (ci := 7) (v := .ref mt1) (C := RX7) (T := TX7) (N := 19) hx hb hts k_1 hown hK hP 0 rfl rfl 12 (by decide) k_3 (fun _ h9 => h9) rfl dX7_type_15 ?_
    refine lv_aload_n hx hb dX7_type_18 rfl (lv_at hl 0 rfl) ?_
    refine va_get (D := D) (ci := 7) (v := .int (nI nt)) (C := RX7) (T := TX7) (N := 19) hx hb hts k_1 hown hK hP 0 rfl rfl 11 (by decide) k_2 (fun _ h9 => h9) rfl dX7_type_19 ?_
    refine lv_iload_n hx hb dX7_type_22 rfl (lv_at hl 1 rfl) ?_
    refine z_iast (k := nt) hx hb hK hP hD hS 1 0 rfl rfl (by omega) (by decide) dX7_type_23 (fun H locs hP hD hS => ?_)
    have hP : va_P D vwCl [(mo, .inr (7, [.int 0, .int (nI nb), .ref ma1, .ref ma2, .ref ma3, .int (nI nq), .ref mb1, .ref mb2, .int (nI ng), .ref mg1, .ref mg2, .int (nI nt), .ref mt1, .int (nI nn), .ref mn1, .ref mn2, .ref mn3, .ref ml1, .ref mw1])), (mt1, .inl (jt1, 60, .inl (upd ch nt p0)))] H := hP
    have hD : va_D A [(mo, .inr (7, [.int 0, .int (nI nb), .ref ma1, .ref ma2, .ref ma3, .int (nI nq), .ref mb1, .ref mb2, .int (nI ng), .ref mg1, .ref mg2, .int (nI nt), .ref mt1, .int (nI nn), .ref mn1, .ref mn2, .ref mn3, .ref ml1, .ref mw1])), (mt1, .inl (jt1, 60, .inl (upd ch nt p0)))] := hD
    refine lv_aload_n hx hb dX7_type_24 rfl (lv_at hl 0 rfl) ?_
    refine lv_dup hx hb dX7_type_25 rfl ?_
    refine va_get (D := D) (ci := 7) (v := .int (nI nt)) (C := RX7) (T := TX7) (N := 19) hx hb hts k_1 hown hK hP 0 rfl rfl 11 (by decide) k_2 (fun _ h9 => h9) rfl dX7_type_26 ?_
    refine lv_iconst (v := 1) hx hb dX7_type_29 (by decide) ?_
    refine lv_iadd hx hb dX7_type_30 ?_
    refine lv_topi (fun y_1 e_1 => ?_)
    obtain rfl : y_1 = nI (nt + 1) := e_1.trans (by first | exact nI_1 _ | exact nI_add _ 1)
    refine va_put (D := D) (ci := 7) (v := .int (nI (nt + 1))) (ty := .int) (C := RX7) (T := TX7) (N := 19) hx hb hts k_1 tyX7 tyX7_ok nmX7 hown hK hP hD hS 0 rfl rfl 11 (by decide) k_2 (fun _ h9 => h9) rfl (by decide +kernel) rfl rfl (Nat.le_of_ble_eq_true rfl) dX7_type_31 (fun H locs hP hD hS => ?_)
    have hP : va_P D vwCl [(mo, .inr (7, [.int 0, .int (nI nb), .ref ma1, .ref ma2, .ref ma3, .int (nI nq), .ref mb1, .ref mb2, .int (nI ng), .ref mg1, .ref mg2, .int (nI (nt + 1)), .ref mt1, .int (nI nn), .ref mn1, .ref mn2, .ref mn3, .ref ml1, .ref mw1])), (mt1, .inl (jt1, 60, .inl (upd ch nt p0)))] H := hP
    have hD : va_D A [(mo, .inr (7, [.int 0, .int (nI nb), .ref ma1, .ref ma2, .ref ma3, .int (nI nq), .ref mb1, .ref mb2, .int (nI ng), .ref mg1, .ref mg2, .int (nI (nt + 1)), .ref mt1, .int (nI nn), .ref mn1, .ref mn2, .ref mn3, .ref ml1, .ref mw1])), (mt1, .inl (jt1, 60, .inl (upd ch nt p0)))] := hD
    exact W.vret hx hb hr (fun t9 ht9 hW9 => ⟨⟨((nt + 1), (upd ch nt p0)), rfl, ⟨fun _ => ⟨rfl, rfl⟩, fun q => absurd q (by omega)⟩, by rw [ht9]; exact hP, va_K.moved hW9.alike hK, hD⟩, hS.F ht9⟩) hS.2.2 dX7_type_34

set_option maxHeartbeats 4000000 in
set_option maxRecDepth 100000 in
theorem mx_bar (l : Launch) (D : va_G) (z : zG) (sz : Nat) (mo : Nat) (ma1 : Nat) (ma2 : Nat) (ma3 : Nat) (mb1 : Nat) (mb2 : Nat) (mg1 : Nat) (mg2 : Nat) (mt1 : Nat) (mn1 : Nat) (mn2 : Nat) (mn3 : Nat) (ml1 : Nat) (mw1 : Nat) (th : Int32) (nb : Nat) (nq : Nat) (ng : Nat) (nt : Nat) (nn : Nat) (jb1 : ClassId) (qf : Nat → Int64) (jb2 : ClassId) (ql : Nat → Int64) (jg1 : ClassId) (gn : Nat → Int64) (jg2 : ClassId) (gg : Nat → Int32) (p0 : Int64) (p1 : Int64) (hq : nq ≤ 50) (hg : ng ≤ 4200) : Met l yX7_bar wsX7_bar ({ frames := 1, cells := 0, slots := 0, locals := 25 }) (zPre D z [.ref mo, .long p0, .long p1] sz [(mo, .inr (7, [.int th, .int (nI nb), .ref ma1, .ref ma2, .ref ma3, .int (nI nq), .ref mb1, .ref mb2, .int (nI ng), .ref mg1, .ref mg2, .int (nI nt), .ref mt1, .int (nI nn), .ref mn1, .ref mn2, .ref mn3, .ref ml1, .ref mw1])), (mb1, .inl (jb1, 50, .inr (.inl qf))), (mb2, .inl (jb2, 50, .inr (.inl ql))), (mg1, .inl (jg1, 4200, .inr (.inl gn))), (mg2, .inl (jg2, 4200, .inl gg))] [(jb1, .long), (jb2, .long), (jg1, .long), (jg2, .boolean)] (va_A [(mo, .inr (7, [.int th, .int (nI nb), .ref ma1, .ref ma2, .ref ma3, .int (nI nq), .ref mb1, .ref mb2, .int (nI ng), .ref mg1, .ref mg2, .int (nI nt), .ref mt1, .int (nI nn), .ref mn1, .ref mn2, .ref mn3, .ref ml1, .ref mw1])), (mb1, .inl (jb1, 50, .inr (.inl qf))), (mb2, .inl (jb2, 50, .inr (.inl ql))), (mg1, .inl (jg1, 4200, .inr (.inl gn))), (mg2, .inl (jg2, 4200, .inl gg))] sz)) (va_Qi (fun (r : Int32) (u : Nat × (Nat → Int64) × (Nat → Int64) × (Nat → Int32)) => (¬ zOkR p0 p1 ∧ r = -102 ∧ u.1 = nq ∧ u.2.1 = qf ∧ u.2.2.1 = ql ∧ u.2.2.2 = gg) ∨ (zOkR p0 p1 ∧ nq = 50 ∧ r = -104 ∧ u.1 = nq ∧ u.2.1 = qf ∧ u.2.2.1 = ql ∧ u.2.2.2 = gg) ∨ (zOkR p0 p1 ∧ ¬ nq = 50 ∧ u.1 = nq + 1 ∧ u.2.1 = vp_updL qf nq p0 ∧ u.2.2.1 = vp_updL ql nq p1 ∧ ∃ c9, zMR p0 p1 ng gn gg u.2.2.2 ng c9 ∧ r = nI c9)) (zAt D [(jb1, .long), (jb2, .long), (jg1, .long), (jg2, .boolean)] (va_A [(mo, .inr (7, [.int th, .int (nI nb), .ref ma1, .ref ma2, .ref ma3, .int (nI nq), .ref mb1, .ref mb2, .int (nI ng), .ref mg1, .ref mg2, .int (nI nt), .ref mt1, .int (nI nn), .ref mn1, .ref mn2, .ref mn3, .ref ml1, .ref mw1])), (mb1, .inl (jb1, 50, .inr (.inl qf))), (mb2, .inl (jb2, 50, .inr (.inl ql))), (mg1, .inl (jg1, 4200, .inr (.inl gn))), (mg2, .inl (jg2, 4200, .inl gg))] sz) (fun u : Nat × (Nat → Int64) × (Nat → Int64) × (Nat → Int32) => [(mo, .inr (7, [.int 0, .int (nI nb), .ref ma1, .ref ma2, .ref ma3, .int (nI u.1), .ref mb1, .ref mb2, .int (nI ng), .ref mg1, .ref mg2, .int (nI nt), .ref mt1, .int (nI nn), .ref mn1, .ref mn2, .ref mn3, .ref ml1, .ref mw1])), (mb1, .inl (jb1, 50, .inr (.inl u.2.1))), (mb2, .inl (jb2, 50, .inr (.inl u.2.2.1))), (mg1, .inl (jg1, 4200, .inr (.inl gn))), (mg2, .inl (jg2, 4200, .inl u.2.2.2))])) (va_A [(mo, .inr (7, [.int th, .int (nI nb), .ref ma1, .ref ma2, .ref ma3, .int (nI nq), .ref mb1, .ref mb2, .int (nI ng), .ref mg1, .ref mg2, .int (nI nt), .ref mt1, .int (nI nn), .ref mn1, .ref mn2, .ref mn3, .ref ml1, .ref mw1])), (mb1, .inl (jb1, 50, .inr (.inl qf))), (mb2, .inl (jb2, 50, .inr (.inl ql))), (mg1, .inl (jg1, 4200, .inr (.inl gn))), (mg2, .inl (jg2, 4200, .inl gg))] sz)) 0 0 (va_A [(mo, .inr (7, [.int th, .int (nI nb), .ref ma1, .ref ma2, .ref ma3, .int (nI nq), .ref mb1, .ref mb2, .int (nI ng), .ref mg1, .ref mg2, .int (nI nt), .ref mt1, .int (nI nn), .ref mn1, .ref mn2, .ref mn3, .ref ml1, .ref mw1])), (mb1, .inl (jb1, 50, .inr (.inl qf))), (mb2, .inl (jb2, 50, .inr (.inl ql))), (mg1, .inl (jg1, 4200, .inr (.inl gn))), (mg2, .inl (jg2, 4200, .inl gg))] sz) := by
  refine Met.ofW (cc := cX7_bar) (maxL := 7) (ret := (some .int)) (by decide) rfl ?_
  intro p e s m args below meth c s₁ B hml hv
  obtain ⟨rfl, hsz, hP, hK, hD, hC⟩ := hv
  have hx := B.exec
  have hb := B.bytes
  have hr := B.returns
  have hts := atoms_spec (ws := wsX7_bar) B.pre
  have hown : s.vm.findClass RX7 = some m.cls := findClass_of_methodNamed B.named
  have hlocks := B.notSynchronized
  subst hsz
  have hD := hD.self (sz := s.heap.size)
  generalize hAe : va_A [(mo, .inr (7, [.int th, .int (nI nb), .ref ma1, .ref ma2, .ref ma3, .int (nI nq), .ref mb1, .ref mb2, .int (nI ng), .ref mg1, .ref mg2, .int (nI nt), .ref mt1, .int (nI nn), .ref mn1, .ref mn2, .ref mn3, .ref ml1, .ref mw1])), (mb1, .inl (jb1, 50, .inr (.inl qf))), (mb2, .inl (jb2, 50, .inr (.inl ql))), (mg1, .inl (jg1, 4200, .inr (.inl gn))), (mg2, .inl (jg2, 4200, .inl gg))] s.heap.size = A at hC hD ⊢
  have hA : ∀ q : Nat, s.heap.size ≤ q → A q := fun q h => by rw [← hAe]; exact Or.inr h
  have hS : va_S A s.heap s.heap [] := va_S.rf
  have hP : va_P D vwCl [(mo, .inr (7, [.int th, .int (nI nb), .ref ma1, .ref ma2, .ref ma3, .int (nI nq), .ref mb1, .ref mb2, .int (nI ng), .ref mg1, .ref mg2, .int (nI nt), .ref mt1, .int (nI nn), .ref mn1, .ref mn2, .ref mn3, .ref ml1, .ref mw1])), (mb1, .inl (jb1, 50, .inr (.inl qf))), (mb2, .inl (jb2, 50, .inr (.inl ql))), (mg1, .inl (jg1, 4200, .inr (.inl gn))), (mg2, .inl (jg2, 4200, .inl gg))] s.heap := hP
  have hl := lv_entry ([.ref mo, .long p0, .long p1]) (n := 7) (Nat.le_of_ble_eq_true rfl)
  rw [lg_entry_eq]
  generalize (lg_sl ([.ref mo, .long p0, .long p1]) ++ List.replicate (7 - (lg_sl ([.ref mo, .long p0, .long p1])).length) Slot.unset).toArray = ls at hl ⊢
  have hl : lv_has ls 7 [(0, .ref mo), (1, .long p0), (3, .long p1)] := hl
  refine zNameH (D := D) (A := A) (ws := [(mo, .inr (7, [.int th, .int (nI nb), .ref ma1, .ref ma2, .ref ma3, .int (nI nq), .ref mb1, .ref mb2, .int (nI ng), .ref mg1, .ref mg2, .int (nI nt), .ref mt1, .int (nI nn), .ref mn1, .ref mn2, .ref mn3, .ref ml1, .ref mw1])), (mb1, .inl (jb1, 50, .inr (.inl qf))), (mb2, .inl (jb2, 50, .inr (.inl ql))), (mg1, .inl (jg1, 4200, .inr (.inl gn))), (mg2, .inl (jg2, 4200, .inl gg))]) (fun H locs hP hS => ?_) hP hS
  have k_0 := hts (.fieldLink RX7 55 "NumberRows2Model" "thrown" "I") (by decide +kernel)
  have k_1 : ∀ w ∈ wsX70, w ∈ wsX7_bar := by decide +kernel
  have k_2 := hts (.constantLong RX7 77 (27512614111)) (by decide +kernel)
  have k_3 := hts (.fieldLink RX7 71 "NumberRows2Model" "barred" "I") (by decide +kernel)
  have k_4 := hts (.fieldLink RX7 20 "NumberRows2Model" "barFroms" "[J") (by decide +kernel)
  have k_5 := hts (.fieldLink RX7 23 "NumberRows2Model" "barTos" "[J") (by decide +kernel)
  have k_6 := hts (.fieldLink RX7 74 "NumberRows2Model" "gave" "I") (by decide +kernel)
  have k_7 := hts (.fieldLink RX7 29 "NumberRows2Model" "gone" "[Z") (by decide +kernel)
  have k_8 := hts (.fieldLink RX7 26 "NumberRows2Model" "numbers" "[J") (by decide +kernel)
  refine lv_aload_n hx hb dX7_bar_0 rfl (lv_at hl 0 rfl) ?_
  refine lv_iconst (v := 0) hx hb dX7_bar_1 (by decide) ?_
  refine va_put (D := D) (ci := 7) (v := .int 0) (ty := .int) (C := RX7) (T := TX7) (N := 19) hx hb hts k_1 tyX7 tyX7_ok nmX7 hown hK hP hD hS 0 rfl rfl 0 (by decide) k_0 (fun _ h9 => h9) rfl (by decide +kernel) rfl rfl (Nat.le_of_ble_eq_true rfl) dX7_bar_2 (fun H locs hP hD hS => ?_)
  have hP : va_P D vwCl [(mo, .inr (7, [.int 0, .int (nI nb), .ref ma1, .ref ma2, .ref ma3, .int (nI nq), .ref mb1, .ref mb2, .int (nI ng), .ref mg1, .ref mg2, .int (nI nt), .ref mt1, .int (nI nn), .ref mn1, .ref mn2, .ref mn3, .ref ml1, .ref mw1])), (mb1, .inl (jb1, 50, .inr (.inl qf))), (mb2, .inl (jb2, 50, .inr (.inl ql))), (mg1, .inl (jg1, 4200, .inr (.inl gn))), (mg2, .inl (jg2, 4200, .inl gg))] H := hP
  have hD : va_D A [(mo, .inr (7, [.int 0, .int (nI nb), .ref ma1, .ref ma2, .ref ma3, .int (nI nq), .ref mb1, .ref mb2, .int (nI ng), .ref mg1, .ref mg2, .int (nI nt), .ref mt1, .int (nI nn), .ref mn1, .ref mn2, .ref mn3, .ref ml1, .ref mw1])), (mb1, .inl (jb1, 50, .inr (.inl qf))), (mb2, .inl (jb2, 50, .inr (.inl ql))), (mg1, .inl (jg1, 4200, .inr (.inl gn))), (mg2, .inl (jg2, 4200, .inl gg))] := hD
  refine lv_lload_n hx hb dX7_bar_5 rfl (lv_at hl 1 rfl) ?_
  refine lv_lconst (v := 0) hx hb dX7_bar_6 (by decide) ?_
  refine W.lcmp hx hb dX7_bar_7 ?_
  refine lv_if_lt (tgt := 25) hx hb dX7_bar_8 (by decide) (fun c_8 => ?_) (fun c_8 => ?_)
  · have c_8 : p0 < 0 := (lg_cmp_lt _ _).mp c_8
    have i_8 : p0.toInt < 0 := zl_lt.mp c_8
    refine lv_bipush (v := -102) hx hb dX7_bar_25 (by decide) ?_
    exact W.iret (v := (-102)) hx hb hr (fun t9 ht9 hW9 => ⟨⟨_, (nq, qf, ql, gg), rfl, Or.inl ⟨fun q => by unfold zOkR at q; omega, rfl, rfl, rfl, rfl, rfl⟩, by rw [ht9]; exact hP, va_K.moved hW9.alike hK, hD⟩, hS.F ht9⟩) hS.2.2 dX7_bar_27
  · have c_8 : ¬ (p0 < 0) := fun q9 => c_8 ((lg_cmp_lt _ _).mpr q9)
    have i_8 : ¬ (p0.toInt < 0) := fun q9 => c_8 (zl_lt.mpr q9)
    refine lv_lload_n hx hb dX7_bar_11 rfl (lv_at hl 1 rfl) ?_
    refine lv_lload_n hx hb dX7_bar_12 rfl (lv_at hl 2 rfl) ?_
    refine W.lcmp hx hb dX7_bar_13 ?_
    refine lv_if_gt (tgt := 25) hx hb dX7_bar_14 (by decide) (fun c_14 => ?_) (fun c_14 => ?_)
    · have c_14 : p1 < p0 := (lg_cmp_gt _ _).mp c_14
      have i_14 : p1.toInt < p0.toInt := zl_lt.mp c_14
      refine lv_bipush (v := -102) hx hb dX7_bar_25 (by decide) ?_
      exact W.iret (v := (-102)) hx hb hr (fun t9 ht9 hW9 => ⟨⟨_, (nq, qf, ql, gg), rfl, Or.inl ⟨fun q => by unfold zOkR at q; omega, rfl, rfl, rfl, rfl, rfl⟩, by rw [ht9]; exact hP, va_K.moved hW9.alike hK, hD⟩, hS.F ht9⟩) hS.2.2 dX7_bar_27
    · have c_14 : ¬ (p1 < p0) := fun q9 => c_14 ((lg_cmp_gt _ _).mpr q9)
      have i_14 : ¬ (p1.toInt < p0.toInt) := fun q9 => c_14 (zl_lt.mpr q9)
      refine lv_lload_n hx hb dX7_bar_17 rfl (lv_at hl 2 rfl) ?_
      refine lv_ldc2 hx hb hown k_2 dX7_bar_18 ?_
      refine W.lcmp hx hb dX7_bar_21 ?_
      refine lv_if_lt (tgt := 28) hx hb dX7_bar_22 (by decide) (fun c_22 => ?_) (fun c_22 => ?_)
      · have c_22 : p1 < 27512614111 := (lg_cmp_lt _ _).mp c_22
        have i_22 : p1.toInt < 27512614111 := zl_lt.mp c_22
        refine lv_aload_n hx hb dX7_bar_28 rfl (lv_at hl 0 rfl) ?_
        refine va_get (D := D) (ci := 7) (v := .int (nI nq)) (C := RX7) (T := TX7) (N := 19) hx hb hts k_1 hown hK hP 0 rfl rfl 5 (by decide) k_3 (fun _ h9 => h9) rfl dX7_bar_29 ?_
        refine lv_bipush (v := 50) hx hb dX7_bar_32 (by decide) ?_
        refine lv_icmp_ne (tgt := 40) hx hb dX7_bar_34 (by decide) (fun c_34 => ?_) (fun c_34 => ?_)
        · have c_34 : ¬ (nq = 50) := fun q9 => c_34 ((nI_eq (a := nq) (b := 50) (by omega) (by omega)).mpr q9)
          refine lv_aload_n hx hb dX7_bar_40 rfl (lv_at hl 0 rfl) ?_
          refine va_get (D := D) (ci := 7) (v := .ref mb1) (C := RX7) (T := TX7) (N := 19) hx hb hts k_1 hown hK hP 0 rfl rfl 6 (by decide) k_4 (fun _ h9 => h9) rfl dX7_bar_41 ?_
          refine lv_aload_n hx hb dX7_bar_44 rfl (lv_at hl 0 rfl) ?_
          refine va_get (D := D) (ci := 7) (v := .int (nI nq)) (C := RX7) (T := TX7) (N := 19) hx hb hts k_1 hown hK hP 0 rfl rfl 5 (by decide) k_3 (fun _ h9 => h9) rfl dX7_bar_45 ?_
          refine lv_lload_n hx hb dX7_bar_48 rfl (lv_at hl 1 rfl) ?_
          refine z_last (k := nq) hx hb hK hP hD hS 1 0 rfl rfl (by omega) (by decide) dX7_bar_49 (fun H locs hP hD hS => ?_)
          have hP : va_P D vwCl [(mo, .inr (7, [.int 0, .int (nI nb), .ref ma1, .ref ma2, .ref ma3, .int (nI nq), .ref mb1, .ref mb2, .int (nI ng), .ref mg1, .ref mg2, .int (nI nt), .ref mt1, .int (nI nn), .ref mn1, .ref mn2, .ref mn3, .ref ml1, .ref mw1])), (mb1, .inl (jb1, 50, .inr (.inl (vp_updL qf nq p0)))), (mb2, .inl (jb2, 50, .inr (.inl ql))), (mg1, .inl (jg1, 4200, .inr (.inl gn))), (mg2, .inl (jg2, 4200, .inl gg))] H := hP
          have hD : va_D A [(mo, .inr (7, [.int 0, .int (nI nb), .ref ma1, .ref ma2, .ref ma3, .int (nI nq), .ref mb1, .ref mb2, .int (nI ng), .ref mg1, .ref mg2, .int (nI nt), .ref mt1, .int (nI nn), .ref mn1, .ref mn2, .ref mn3, .ref ml1, .ref mw1])), (mb1, .inl (jb1, 50, .inr (.inl (vp_updL qf nq p0)))), (mb2, .inl (jb2, 50, .inr (.inl ql))), (mg1, .inl (jg1, 4200, .inr (.inl gn))), (mg2, .inl (jg2, 4200, .inl gg))] := hD
          refine lv_aload_n hx hb dX7_bar_50 rfl (lv_at hl 0 rfl) ?_
          refine va_get (D := D) (ci := 7) (v := .ref mb2) (C := RX7) (T := TX7) (N := 19) hx hb hts k_1 hown hK hP 0 rfl rfl 7 (by decide) k_5 (fun _ h9 => h9) rfl dX7_bar_51 ?_
          refine lv_aload_n hx hb dX7_bar_54 rfl (lv_at hl 0 rfl) ?_
          refine va_get (D := D) (ci := 7) (v := .int (nI nq)) (C := RX7) (T := TX7) (N := 19) hx hb hts k_1 hown hK hP 0 rfl rfl 5 (by decide) k_3 (fun _ h9 => h9) rfl dX7_bar_55 ?_
          refine lv_lload_n hx hb dX7_bar_58 rfl (lv_at hl 2 rfl) ?_
          refine z_last (k := nq) hx hb hK hP hD hS 2 1 rfl rfl (by omega) (by decide) dX7_bar_59 (fun H locs hP hD hS => ?_)
          have hP : va_P D vwCl [(mo, .inr (7, [.int 0, .int (nI nb), .ref ma1, .ref ma2, .ref ma3, .int (nI nq), .ref mb1, .ref mb2, .int (nI ng), .ref mg1, .ref mg2, .int (nI nt), .ref mt1, .int (nI nn), .ref mn1, .ref mn2, .ref mn3, .ref ml1, .ref mw1])), (mb1, .inl (jb1, 50, .inr (.inl (vp_updL qf nq p0)))), (mb2, .inl (jb2, 50, .inr (.inl (vp_updL ql nq p1)))), (mg1, .inl (jg1, 4200, .inr (.inl gn))), (mg2, .inl (jg2, 4200, .inl gg))] H := hP
          have hD : va_D A [(mo, .inr (7, [.int 0, .int (nI nb), .ref ma1, .ref ma2, .ref ma3, .int (nI nq), .ref mb1, .ref mb2, .int (nI ng), .ref mg1, .ref mg2, .int (nI nt), .ref mt1, .int (nI nn), .ref mn1, .ref mn2, .ref mn3, .ref ml1, .ref mw1])), (mb1, .inl (jb1, 50, .inr (.inl (vp_updL qf nq p0)))), (mb2, .inl (jb2, 50, .inr (.inl (vp_updL ql nq p1)))), (mg1, .inl (jg1, 4200, .inr (.inl gn))), (mg2, .inl (jg2, 4200, .inl gg))] := hD
          refine lv_aload_n hx hb dX7_bar_60 rfl (lv_at hl 0 rfl) ?_
          refine lv_dup hx hb dX7_bar_61 rfl ?_
          refine va_get (D := D) (ci := 7) (v := .int (nI nq)) (C := RX7) (T := TX7) (N := 19) hx hb hts k_1 hown hK hP 0 rfl rfl 5 (by decide) k_3 (fun _ h9 => h9) rfl dX7_bar_62 ?_
          refine lv_iconst (v := 1) hx hb dX7_bar_65 (by decide) ?_
          refine lv_iadd hx hb dX7_bar_66 ?_
          refine lv_topi (fun y_1 e_1 => ?_)
          obtain rfl : y_1 = nI (nq + 1) := e_1.trans (by first | exact nI_1 _ | exact nI_add _ 1)
          refine va_put (D := D) (ci := 7) (v := .int (nI (nq + 1))) (ty := .int) (C := RX7) (T := TX7) (N := 19) hx hb hts k_1 tyX7 tyX7_ok nmX7 hown hK hP hD hS 0 rfl rfl 5 (by decide) k_3 (fun _ h9 => h9) rfl (by decide +kernel) rfl rfl (Nat.le_of_ble_eq_true rfl) dX7_bar_67 (fun H locs hP hD hS => ?_)
          have hP : va_P D vwCl [(mo, .inr (7, [.int 0, .int (nI nb), .ref ma1, .ref ma2, .ref ma3, .int (nI (nq + 1)), .ref mb1, .ref mb2, .int (nI ng), .ref mg1, .ref mg2, .int (nI nt), .ref mt1, .int (nI nn), .ref mn1, .ref mn2, .ref mn3, .ref ml1, .ref mw1])), (mb1, .inl (jb1, 50, .inr (.inl (vp_updL qf nq p0)))), (mb2, .inl (jb2, 50, .inr (.inl (vp_updL ql nq p1)))), (mg1, .inl (jg1, 4200, .inr (.inl gn))), (mg2, .inl (jg2, 4200, .inl gg))] H := hP
          have hD : va_D A [(mo, .inr (7, [.int 0, .int (nI nb), .ref ma1, .ref ma2, .ref ma3, .int (nI (nq + 1)), .ref mb1, .ref mb2, .int (nI ng), .ref mg1, .ref mg2, .int (nI nt), .ref mt1, .int (nI nn), .ref mn1, .ref mn2, .ref mn3, .ref ml1, .ref mw1])), (mb1, .inl (jb1, 50, .inr (.inl (vp_updL qf nq p0)))), (mb2, .inl (jb2, 50, .inr (.inl (vp_updL ql nq p1)))), (mg1, .inl (jg1, 4200, .inr (.inl gn))), (mg2, .inl (jg2, 4200, .inl gg))] := hD
          refine lv_iconst (v := 0) hx hb dX7_bar_70 (by decide) ?_
          refine lv_istore (lv' := [(5, .int 0), (0, .ref mo), (1, .long p0), (3, .long p1)]) hx hb dX7_bar_71 hl (by decide) rfl (fun ls hl => ?_)
          refine lv_iconst (v := 0) hx hb dX7_bar_73 (by decide) ?_
          refine lv_istore (lv' := [(6, .int 0), (5, .int 0), (0, .ref mo), (1, .long p0), (3, .long p1)]) hx hb dX7_bar_74 hl (by decide) rfl (fun ls hl => ?_)
          refine zLoop (σ := Nat × Nat × (Nat → Int32)) (nL := 7) (μ := fun (x : Nat × Nat × (Nat → Int32)) => match x with | (i, ct, g) => ng - i) (lv := fun (x : Nat × Nat × (Nat → Int32)) => match x with | (i, ct, g) => [(6, .int (nI i)), (0, .ref mo), (1, .long p0), (3, .long p1), (5, .int (nI ct))]) (wf := fun (x : Nat × Nat × (Nat → Int32)) => match x with | (i, ct, g) => [(mo, .inr (7, [.int 0, .int (nI nb), .ref ma1, .ref ma2, .ref ma3, .int (nI (nq + 1)), .ref mb1, .ref mb2, .int (nI ng), .ref mg1, .ref mg2, .int (nI nt), .ref mt1, .int (nI nn), .ref mn1, .ref mn2, .ref mn3, .ref ml1, .ref mw1])), (mb1, .inl (jb1, 50, .inr (.inl (vp_updL qf nq p0)))), (mb2, .inl (jb2, 50, .inr (.inl (vp_updL ql nq p1)))), (mg1, .inl (jg1, 4200, .inr (.inl gn))), (mg2, .inl (jg2, 4200, .inl g))]) (I := fun (x : Nat × Nat × (Nat → Int32)) => match x with | (i, ct, g) => zMR p0 p1 ng gn gg g i ct) (fun x H locs ls hI hP hD hS hl ih => ?_) (0, 0, gg) zMR_0 hP hD hS (lv_sub hl [0, 2, 3, 4, 1] rfl)
          obtain ⟨i, ct, g⟩ := x
          have hI : zMR p0 p1 ng gn gg g i ct := hI
          have hl : lv_has ls 7 [(6, .int (nI i)), (0, .ref mo), (1, .long p0), (3, .long p1), (5, .int (nI ct))] := hl
          have hP : va_P D vwCl [(mo, .inr (7, [.int 0, .int (nI nb), .ref ma1, .ref ma2, .ref ma3, .int (nI (nq + 1)), .ref mb1, .ref mb2, .int (nI ng), .ref mg1, .ref mg2, .int (nI nt), .ref mt1, .int (nI nn), .ref mn1, .ref mn2, .ref mn3, .ref ml1, .ref mw1])), (mb1, .inl (jb1, 50, .inr (.inl (vp_updL qf nq p0)))), (mb2, .inl (jb2, 50, .inr (.inl (vp_updL ql nq p1)))), (mg1, .inl (jg1, 4200, .inr (.inl gn))), (mg2, .inl (jg2, 4200, .inl g))] H := hP
          have hD : va_D A [(mo, .inr (7, [.int 0, .int (nI nb), .ref ma1, .ref ma2, .ref ma3, .int (nI (nq + 1)), .ref mb1, .ref mb2, .int (nI ng), .ref mg1, .ref mg2, .int (nI nt), .ref mt1, .int (nI nn), .ref mn1, .ref mn2, .ref mn3, .ref ml1, .ref mw1])), (mb1, .inl (jb1, 50, .inr (.inl (vp_updL qf nq p0)))), (mb2, .inl (jb2, 50, .inr (.inl (vp_updL ql nq p1)))), (mg1, .inl (jg1, 4200, .inr (.inl gn))), (mg2, .inl (jg2, 4200, .inl g))] := hD
          have h1 := hI.1
          refine lv_iload hx hb dX7_bar_76 (lv_at hl 0 rfl) ?_
          refine lv_aload_n hx hb dX7_bar_78 rfl (lv_at hl 1 rfl) ?_
          refine va_get (D := D) (ci := 7) (v := .int (nI ng)) (C := RX7) (T := TX7) (N := 19) hx hb hts k_1 hown hK hP 0 rfl rfl 8 (by decide) k_6 (fun _ h9 => h9) rfl dX7_bar_79 ?_
          refine lv_icmp_ge (tgt := 131) hx hb dX7_bar_82 (by decide) (fun c_82 => ?_) (fun c_82 => ?_)
          · have c_82 : ng ≤ i := (nI_leI (a := ng) (b := i) (by omega) (by omega)).mp c_82
            refine lv_iload hx hb dX7_bar_131 (lv_at hl 4 rfl) ?_
            exact W.iret (v := (nI ct)) hx hb hr (fun t9 ht9 hW9 => ⟨⟨_, ((nq + 1), (vp_updL qf nq p0), (vp_updL ql nq p1), g), rfl, Or.inr (Or.inr ⟨by unfold zOkR; omega, c_34, rfl, rfl, rfl, ct, by obtain rfl : i = ng := (by have := hI.1; omega); exact hI, rfl⟩), by rw [ht9]; exact hP, va_K.moved hW9.alike hK, hD⟩, hS.F ht9⟩) hS.2.2 dX7_bar_133
          · have c_82 : ¬ (ng ≤ i) := fun q9 => c_82 ((nI_leI (a := ng) (b := i) (by omega) (by omega)).mpr q9)
            refine lv_aload_n hx hb dX7_bar_85 rfl (lv_at hl 1 rfl) ?_
            refine va_get (D := D) (ci := 7) (v := .ref mg2) (C := RX7) (T := TX7) (N := 19) hx hb hts k_1 hown hK hP 0 rfl rfl 10 (by decide) k_7 (fun _ h9 => h9) rfl dX7_bar_86 ?_
            refine lv_iload hx hb dX7_bar_89 (lv_at hl 0 rfl) ?_
            refine z_zald (k := i) hx hb hK hP 4 3 rfl rfl (by omega) (by decide) dX7_bar_91 ?_
            refine lv_if_ne (tgt := 125) hx hb dX7_bar_92 (by decide) (fun c_92 => ?_) (fun c_92 => ?_)
            · have i_92 : ¬ ((g i).toInt = 0) := fun q9 => c_92 (zi_eq.mpr q9)
              refine lv_iinc (v := (nI (i + 1))) (lv' := [(6, .int (nI (i + 1))), (0, .ref mo), (1, .long p0), (3, .long p1), (5, .int (nI ct))]) hx hb dX7_bar_125 hl (k := 0) rfl (by first | exact nI_1 _ | rfl) (by decide) rfl (fun ls hl => ?_)
              refine lv_goto (tgt := 76) hx hb dX7_bar_128 (by decide) ?_
              exact ih (i + 1, ct, g) _ _ _ (show ng - (i + 1) < ng - i from (by omega)) (zMR_stay hI (by omega) (Or.inl c_92)) hP hD hS (lv_sub hl [0, 1, 2, 3, 4] rfl)
            · have i_92 : (g i).toInt = 0 := zi_eq.mp c_92
              refine lv_aload_n hx hb dX7_bar_95 rfl (lv_at hl 1 rfl) ?_
              refine va_get (D := D) (ci := 7) (v := .ref mg1) (C := RX7) (T := TX7) (N := 19) hx hb hts k_1 hown hK hP 0 rfl rfl 9 (by decide) k_8 (fun _ h9 => h9) rfl dX7_bar_96 ?_
              refine lv_iload hx hb dX7_bar_99 (lv_at hl 0 rfl) ?_
              refine z_lald (k := i) hx hb hK hP 3 2 rfl rfl (by omega) (by decide) dX7_bar_101 ?_
              refine lv_ldc2 hx hb hown k_2 dX7_bar_102 ?_
              refine lv_lrem hx hb dX7_bar_105 (by decide) ?_
              refine lv_lload_n hx hb dX7_bar_106 rfl (lv_at hl 2 rfl) ?_
              refine lv_lload_n hx hb dX7_bar_107 rfl (lv_at hl 3 rfl) ?_
              refine zRo_i (va_runS (As := [.long ((gn i) - (gn i) / 27512614111 * 27512614111), .long p0, .long p1]) (rest := []) ⟨hx, hb, hml, hown, hts⟩ (mx_isIn l D z H.size ((gn i) - (gn i) / 27512614111 * 27512614111) p0 p1 ) (va_cwS 3 hts gX7_bar_X7_isIn rfl rfl rfl (by decide +kernel) ⟨Nat.le_of_ble_eq_true rfl, Nat.le_of_ble_eq_true rfl⟩) ⟨zPre_blind, (zPre_mk (wc := []) (tc := []) hP hK hD hC hS [] (by decide) rfl rfl [] rfl (zro_free hS hA))⟩ rfl rfl hl.1 rfl (lv_room (Nat.le_of_ble_eq_true rfl)) dX7_bar_108 ⟨Nat.zero_le _, Nat.zero_le _⟩) hS hA hP (fun r_108 H locs hw hP hS => ?_)
              have hw_108 : zB r_108 (p0.toInt ≤ ((gn i) - (gn i) / 27512614111 * 27512614111).toInt ∧ ((gn i) - (gn i) / 27512614111 * 27512614111).toInt ≤ p1.toInt) := hw
              refine lv_if_eq (tgt := 125) hx hb dX7_bar_111 (by decide) (fun c_111 => ?_) (fun c_111 => ?_)
              · have i_111 : r_108.toInt = 0 := zi_eq.mp c_111
                refine lv_iinc (v := (nI (i + 1))) (lv' := [(6, .int (nI (i + 1))), (0, .ref mo), (1, .long p0), (3, .long p1), (5, .int (nI ct))]) hx hb dX7_bar_125 hl (k := 0) rfl (by first | exact nI_1 _ | rfl) (by decide) rfl (fun ls hl => ?_)
                refine lv_goto (tgt := 76) hx hb dX7_bar_128 (by decide) ?_
                exact ih (i + 1, ct, g) _ _ _ (show ng - (i + 1) < ng - i from (by omega)) (zMR_stay hI (by omega) (Or.inr (zIn_no (zB_eq hw_108 c_111)))) hP hD hS (lv_sub hl [0, 1, 2, 3, 4] rfl)
              · have i_111 : ¬ (r_108.toInt = 0) := fun q9 => c_111 (zi_eq.mpr q9)
                refine lv_aload_n hx hb dX7_bar_114 rfl (lv_at hl 1 rfl) ?_
                refine va_get (D := D) (ci := 7) (v := .ref mg2) (C := RX7) (T := TX7) (N := 19) hx hb hts k_1 hown hK hP 0 rfl rfl 10 (by decide) k_7 (fun _ h9 => h9) rfl dX7_bar_115 ?_
                refine lv_iload hx hb dX7_bar_118 (lv_at hl 0 rfl) ?_
                refine lv_iconst (v := 1) hx hb dX7_bar_120 (by decide) ?_
                refine z_zast (k := i) hx hb hK hP hD hS 4 3 rfl rfl (by omega) (by decide) dX7_bar_121 (fun H locs hP hD hS => ?_)
                have hP : va_P D vwCl [(mo, .inr (7, [.int 0, .int (nI nb), .ref ma1, .ref ma2, .ref ma3, .int (nI (nq + 1)), .ref mb1, .ref mb2, .int (nI ng), .ref mg1, .ref mg2, .int (nI nt), .ref mt1, .int (nI nn), .ref mn1, .ref mn2, .ref mn3, .ref ml1, .ref mw1])), (mb1, .inl (jb1, 50, .inr (.inl (vp_updL qf nq p0)))), (mb2, .inl (jb2, 50, .inr (.inl (vp_updL ql nq p1)))), (mg1, .inl (jg1, 4200, .inr (.inl gn))), (mg2, .inl (jg2, 4200, .inl (upd g i (vp_nar .boolean 1))))] H := hP
                have hD : va_D A [(mo, .inr (7, [.int 0, .int (nI nb), .ref ma1, .ref ma2, .ref ma3, .int (nI (nq + 1)), .ref mb1, .ref mb2, .int (nI ng), .ref mg1, .ref mg2, .int (nI nt), .ref mt1, .int (nI nn), .ref mn1, .ref mn2, .ref mn3, .ref ml1, .ref mw1])), (mb1, .inl (jb1, 50, .inr (.inl (vp_updL qf nq p0)))), (mb2, .inl (jb2, 50, .inr (.inl (vp_updL ql nq p1)))), (mg1, .inl (jg1, 4200, .inr (.inl gn))), (mg2, .inl (jg2, 4200, .inl (upd g i (vp_nar .boolean 1))))] := hD
                refine lv_iinc (v := (nI (ct + 1))) (lv' := [(5, .int (nI (ct + 1))), (6, .int (nI i)), (0, .ref mo), (1, .long p0), (3, .long p1)]) hx hb dX7_bar_122 hl (k := 4) rfl (by first | exact nI_1 _ | rfl) (by decide) rfl (fun ls hl => ?_)
                refine lv_iinc (v := (nI (i + 1))) (lv' := [(6, .int (nI (i + 1))), (5, .int (nI (ct + 1))), (0, .ref mo), (1, .long p0), (3, .long p1)]) hx hb dX7_bar_125 hl (k := 1) rfl (by first | exact nI_1 _ | rfl) (by decide) rfl (fun ls hl => ?_)
                refine lv_goto (tgt := 76) hx hb dX7_bar_128 (by decide) ?_
                exact ih (i + 1, ct + 1, upd g i (vp_nar .boolean 1)) _ _ _ (show ng - (i + 1) < ng - i from (by omega)) (zMR_go hI (by omega) c_92 (zIn_iff.mpr (zB_ne hw_108 c_111))) hP hD hS (lv_sub hl [0, 2, 3, 4, 1] rfl)
        · have c_34 : nq = 50 := (nI_eq (a := nq) (b := 50) (by omega) (by omega)).mp c_34
          refine lv_bipush (v := -104) hx hb dX7_bar_37 (by decide) ?_
          exact W.iret (v := (-104)) hx hb hr (fun t9 ht9 hW9 => ⟨⟨_, (nq, qf, ql, gg), rfl, Or.inr (Or.inl ⟨by unfold zOkR; omega, c_34, rfl, rfl, rfl, rfl, rfl⟩), by rw [ht9]; exact hP, va_K.moved hW9.alike hK, hD⟩, hS.F ht9⟩) hS.2.2 dX7_bar_39
      · have c_22 : ¬ (p1 < 27512614111) := fun q9 => c_22 ((lg_cmp_lt _ _).mpr q9)
        have i_22 : ¬ (p1.toInt < 27512614111) := fun q9 => c_22 (zl_lt.mpr q9)
        refine lv_bipush (v := -102) hx hb dX7_bar_25 (by decide) ?_
        exact W.iret (v := (-102)) hx hb hr (fun t9 ht9 hW9 => ⟨⟨_, (nq, qf, ql, gg), rfl, Or.inl ⟨fun q => by unfold zOkR at q; omega, rfl, rfl, rfl, rfl, rfl⟩, by rw [ht9]; exact hP, va_K.moved hW9.alike hK, hD⟩, hS.F ht9⟩) hS.2.2 dX7_bar_27

set_option maxHeartbeats 4000000 in
set_option maxRecDepth 100000 in
theorem mx_find (l : Launch) (D : va_G) (z : zG) (sz : Nat) (mo : Nat) (ma1 : Nat) (ma2 : Nat) (ma3 : Nat) (mb1 : Nat) (mb2 : Nat) (mg1 : Nat) (mg2 : Nat) (mt1 : Nat) (mn1 : Nat) (mn2 : Nat) (mn3 : Nat) (ml1 : Nat) (mw1 : Nat) (th : Int32) (nb : Nat) (nq : Nat) (ng : Nat) (nt : Nat) (nn : Nat) (jg1 : ClassId) (gn : Nat → Int64) (jg2 : ClassId) (gg : Nat → Int32) (p0 : Int64) (hg : ng ≤ 4200) : Met l yX7_find wsX7_find ({ frames := 0, cells := 0, slots := 0, locals := 0 }) (zPre D z [.ref mo, .long p0] sz [(mo, .inr (7, [.int th, .int (nI nb), .ref ma1, .ref ma2, .ref ma3, .int (nI nq), .ref mb1, .ref mb2, .int (nI ng), .ref mg1, .ref mg2, .int (nI nt), .ref mt1, .int (nI nn), .ref mn1, .ref mn2, .ref mn3, .ref ml1, .ref mw1])), (mg1, .inl (jg1, 4200, .inr (.inl gn))), (mg2, .inl (jg2, 4200, .inl gg))] [(jg1, .long), (jg2, .boolean)] (va_A [] sz)) (va_Qi (fun (r : Int32) (u : Unit) => (∃ k, k < ng ∧ gn k = p0 ∧ gg k = 0 ∧ r = nI k) ∨ ((∀ k, k < ng → ¬ (gn k = p0 ∧ gg k = 0)) ∧ r = -1)) zT (va_A [] sz)) 0 0 (va_A [] sz) := by
  refine Met.ofW (cc := cX7_find) (maxL := 4) (ret := (some .int)) (by decide) rfl ?_
  intro p e s m args below meth c s₁ B hml hv
  obtain ⟨rfl, hsz, hP, hK, hD, hC⟩ := hv
  have hx := B.exec
  have hb := B.bytes
  have hr := B.returns
  have hts := atoms_spec (ws := wsX7_find) B.pre
  have hown : s.vm.findClass RX7 = some m.cls := findClass_of_methodNamed B.named
  have hlocks := B.notSynchronized
  subst hsz
  generalize hAe : va_A [] s.heap.size = A at hC ⊢
  have hA : ∀ q : Nat, s.heap.size ≤ q → A q := fun q h => by rw [← hAe]; exact Or.inr h
  have hS : va_S A s.heap s.heap [] := va_S.rf
  have hP : va_P D vwCl [(mo, .inr (7, [.int th, .int (nI nb), .ref ma1, .ref ma2, .ref ma3, .int (nI nq), .ref mb1, .ref mb2, .int (nI ng), .ref mg1, .ref mg2, .int (nI nt), .ref mt1, .int (nI nn), .ref mn1, .ref mn2, .ref mn3, .ref ml1, .ref mw1])), (mg1, .inl (jg1, 4200, .inr (.inl gn))), (mg2, .inl (jg2, 4200, .inl gg))] s.heap := hP
  have hl := lv_entry ([.ref mo, .long p0]) (n := 4) (Nat.le_of_ble_eq_true rfl)
  rw [lg_entry_eq]
  generalize (lg_sl ([.ref mo, .long p0]) ++ List.replicate (4 - (lg_sl ([.ref mo, .long p0])).length) Slot.unset).toArray = ls at hl ⊢
  have hl : lv_has ls 4 [(0, .ref mo), (1, .long p0)] := hl
  refine zNameH (D := D) (A := A) (ws := [(mo, .inr (7, [.int th, .int (nI nb), .ref ma1, .ref ma2, .ref ma3, .int (nI nq), .ref mb1, .ref mb2, .int (nI ng), .ref mg1, .ref mg2, .int (nI nt), .ref mt1, .int (nI nn), .ref mn1, .ref mn2, .ref mn3, .ref ml1, .ref mw1])), (mg1, .inl (jg1, 4200, .inr (.inl gn))), (mg2, .inl (jg2, 4200, .inl gg))]) (fun H locs hP hS => ?_) hP hS
  have k_0 := hts (.fieldLink RX7 74 "NumberRows2Model" "gave" "I") (by decide +kernel)
  have k_1 : ∀ w ∈ wsX70, w ∈ wsX7_find := by decide +kernel
  have k_2 := hts (.fieldLink RX7 26 "NumberRows2Model" "numbers" "[J") (by decide +kernel)
  have k_3 := hts (.fieldLink RX7 29 "NumberRows2Model" "gone" "[Z") (by decide +kernel)
  refine lv_iconst (v := 0) hx hb dX7_find_0 (by decide) ?_
  refine lv_istore_n (lv' := [(3, .int 0), (0, .ref mo), (1, .long p0)]) hx hb dX7_find_1 rfl hl (by decide) rfl (fun ls hl => ?_)
  refine zLoop (σ := Nat) (nL := 4) (μ := fun (i : Nat) => ng - i) (lv := fun (i : Nat) => [(3, .int (nI i)), (0, .ref mo), (1, .long p0)]) (wf := fun (i : Nat) => [(mo, .inr (7, [.int th, .int (nI nb), .ref ma1, .ref ma2, .ref ma3, .int (nI nq), .ref mb1, .ref mb2, .int (nI ng), .ref mg1, .ref mg2, .int (nI nt), .ref mt1, .int (nI nn), .ref mn1, .ref mn2, .ref mn3, .ref ml1, .ref mw1])), (mg1, .inl (jg1, 4200, .inr (.inl gn))), (mg2, .inl (jg2, 4200, .inl gg))]) (I := fun (i : Nat) => i ≤ ng ∧ ∀ k, k < i → ¬ (gn k = p0 ∧ gg k = 0)) (fun x H locs ls hI hP hD hS hl ih => ?_) 0 ⟨Nat.zero_le _, fun j hj => absurd hj (Nat.not_lt_zero j)⟩ hP hD hS (lv_sub hl [0, 1, 2] rfl)
  obtain ⟨i, rfl⟩ : ∃ y9, y9 = x := ⟨_, rfl⟩
  have hI : i ≤ ng ∧ ∀ k, k < i → ¬ (gn k = p0 ∧ gg k = 0) := hI
  have hl : lv_has ls 4 [(3, .int (nI i)), (0, .ref mo), (1, .long p0)] := hl
  have hP : va_P D vwCl [(mo, .inr (7, [.int th, .int (nI nb), .ref ma1, .ref ma2, .ref ma3, .int (nI nq), .ref mb1, .ref mb2, .int (nI ng), .ref mg1, .ref mg2, .int (nI nt), .ref mt1, .int (nI nn), .ref mn1, .ref mn2, .ref mn3, .ref ml1, .ref mw1])), (mg1, .inl (jg1, 4200, .inr (.inl gn))), (mg2, .inl (jg2, 4200, .inl gg))] H := hP
  have hD : va_D (fun _ => True) [(mo, .inr (7, [.int th, .int (nI nb), .ref ma1, .ref ma2, .ref ma3, .int (nI nq), .ref mb1, .ref mb2, .int (nI ng), .ref mg1, .ref mg2, .int (nI nt), .ref mt1, .int (nI nn), .ref mn1, .ref mn2, .ref mn3, .ref ml1, .ref mw1])), (mg1, .inl (jg1, 4200, .inr (.inl gn))), (mg2, .inl (jg2, 4200, .inl gg))] := hD
  have h1 := hI.1
  refine lv_iload_n hx hb dX7_find_2 rfl (lv_at hl 0 rfl) ?_
  refine lv_aload_n hx hb dX7_find_3 rfl (lv_at hl 1 rfl) ?_
  refine va_get (D := D) (ci := 7) (v := .int (nI ng)) (C := RX7) (T := TX7) (N := 19) hx hb hts k_1 hown hK hP 0 rfl rfl 8 (by decide) k_0 (fun _ h9 => h9) rfl dX7_find_4 ?_
  refine lv_icmp_ge (tgt := 38) hx hb dX7_find_7 (by decide) (fun c_7 => ?_) (fun c_7 => ?_)
  · have c_7 : ng ≤ i := (nI_leI (a := ng) (b := i) (by omega) (by omega)).mp c_7
    refine lv_iconst (v := -1) hx hb dX7_find_38 (by decide) ?_
    exact W.iret (v := (-1)) hx hb hr (fun t9 ht9 hW9 => ⟨⟨_, (), rfl, Or.inr ⟨fun k hk => hI.2 k (by omega), rfl⟩, trivial⟩, hS.F ht9⟩) hS.2.2 dX7_find_39
  · have c_7 : ¬ (ng ≤ i) := fun q9 => c_7 ((nI_leI (a := ng) (b := i) (by omega) (by omega)).mpr q9)
    refine lv_aload_n hx hb dX7_find_10 rfl (lv_at hl 1 rfl) ?_
    refine va_get (D := D) (ci := 7) (v := .ref mg1) (C := RX7) (T := TX7) (N := 19) hx hb hts k_1 hown hK hP 0 rfl rfl 9 (by decide) k_2 (fun _ h9 => h9) rfl dX7_find_11 ?_
    refine lv_iload_n hx hb dX7_find_14 rfl (lv_at hl 0 rfl) ?_
    refine z_lald (k := i) hx hb hK hP 1 0 rfl rfl (by omega) (by decide) dX7_find_15 ?_
    refine lv_lload_n hx hb dX7_find_16 rfl (lv_at hl 2 rfl) ?_
    refine W.lcmp hx hb dX7_find_17 ?_
    refine lv_if_ne (tgt := 32) hx hb dX7_find_18 (by decide) (fun c_18 => ?_) (fun c_18 => ?_)
    · have c_18 : ¬ ((gn i) = p0) := fun q9 => c_18 ((lg_cmp_eq _ _).mpr q9)
      have i_18 : ¬ ((gn i).toInt = p0.toInt) := fun q9 => c_18 (zl_eq.mpr q9)
      refine lv_iinc (v := (nI (i + 1))) (lv' := [(3, .int (nI (i + 1))), (0, .ref mo), (1, .long p0)]) hx hb dX7_find_32 hl (k := 0) rfl (by first | exact nI_1 _ | rfl) (by decide) rfl (fun ls hl => ?_)
      refine lv_goto (tgt := 2) hx hb dX7_find_35 (by decide) ?_
      exact ih (i + 1) _ _ _ (show ng - (i + 1) < ng - i from (by omega)) ⟨by omega, lt_s hI.2 (fun q => c_18 q.1)⟩ hP hD hS (lv_sub hl [0, 1, 2] rfl)
    · have c_18 : (gn i) = p0 := (lg_cmp_eq _ _).mp c_18
      have i_18 : (gn i).toInt = p0.toInt := zl_eq.mp c_18
      refine lv_aload_n hx hb dX7_find_21 rfl (lv_at hl 1 rfl) ?_
      refine va_get (D := D) (ci := 7) (v := .ref mg2) (C := RX7) (T := TX7) (N := 19) hx hb hts k_1 hown hK hP 0 rfl rfl 10 (by decide) k_3 (fun _ h9 => h9) rfl dX7_find_22 ?_
      refine lv_iload_n hx hb dX7_find_25 rfl (lv_at hl 0 rfl) ?_
      refine z_zald (k := i) hx hb hK hP 2 1 rfl rfl (by omega) (by decide) dX7_find_26 ?_
      refine lv_if_ne (tgt := 32) hx hb dX7_find_27 (by decide) (fun c_27 => ?_) (fun c_27 => ?_)
      · have i_27 : ¬ ((gg i).toInt = 0) := fun q9 => c_27 (zi_eq.mpr q9)
        refine lv_iinc (v := (nI (i + 1))) (lv' := [(3, .int (nI (i + 1))), (0, .ref mo), (1, .long p0)]) hx hb dX7_find_32 hl (k := 0) rfl (by first | exact nI_1 _ | rfl) (by decide) rfl (fun ls hl => ?_)
        refine lv_goto (tgt := 2) hx hb dX7_find_35 (by decide) ?_
        exact ih (i + 1) _ _ _ (show ng - (i + 1) < ng - i from (by omega)) ⟨by omega, lt_s hI.2 (fun q => c_27 q.2)⟩ hP hD hS (lv_sub hl [0, 1, 2] rfl)
      · have i_27 : (gg i).toInt = 0 := zi_eq.mp c_27
        refine lv_iload_n hx hb dX7_find_30 rfl (lv_at hl 0 rfl) ?_
        exact W.iret (v := (nI i)) hx hb hr (fun t9 ht9 hW9 => ⟨⟨_, (), rfl, Or.inl ⟨i, by omega, c_18, c_27, rfl⟩, trivial⟩, hS.F ht9⟩) hS.2.2 dX7_find_31

set_option maxHeartbeats 4000000 in
set_option maxRecDepth 100000 in
theorem mx_given (l : Launch) (D : va_G) (z : zG) (sz : Nat) (mo : Nat) (ma1 : Nat) (ma2 : Nat) (ma3 : Nat) (mb1 : Nat) (mb2 : Nat) (mg1 : Nat) (mg2 : Nat) (mt1 : Nat) (mn1 : Nat) (mn2 : Nat) (mn3 : Nat) (ml1 : Nat) (mw1 : Nat) (th : Int32) (nb : Nat) (nq : Nat) (ng : Nat) (nt : Nat) (nn : Nat) (jg1 : ClassId) (gn : Nat → Int64) (jg2 : ClassId) (gg : Nat → Int32) (p0 : Int64) (hg : ng ≤ 4200) : Met l yX7_given wsX7_given ({ frames := 1, cells := 0, slots := 0, locals := 23 }) (zPre D z [.ref mo, .long p0] sz [(mo, .inr (7, [.int th, .int (nI nb), .ref ma1, .ref ma2, .ref ma3, .int (nI nq), .ref mb1, .ref mb2, .int (nI ng), .ref mg1, .ref mg2, .int (nI nt), .ref mt1, .int (nI nn), .ref mn1, .ref mn2, .ref mn3, .ref ml1, .ref mw1])), (mg1, .inl (jg1, 4200, .inr (.inl gn))), (mg2, .inl (jg2, 4200, .inl gg))] [(jg1, .long), (jg2, .boolean)] (va_A [(mo, .inr (7, [.int th, .int (nI nb), .ref ma1, .ref ma2, .ref ma3, .int (nI nq), .ref mb1, .ref mb2, .int (nI ng), .ref mg1, .ref mg2, .int (nI nt), .ref mt1, .int (nI nn), .ref mn1, .ref mn2, .ref mn3, .ref ml1, .ref mw1])), (mg1, .inl (jg1, 4200, .inr (.inl gn))), (mg2, .inl (jg2, 4200, .inl gg))] sz)) (va_Qi (fun (r : Int32) (u : Unit) => zB r (zGiv ng gn gg p0)) (zAt D [(jg1, .long), (jg2, .boolean)] (va_A [(mo, .inr (7, [.int th, .int (nI nb), .ref ma1, .ref ma2, .ref ma3, .int (nI nq), .ref mb1, .ref mb2, .int (nI ng), .ref mg1, .ref mg2, .int (nI nt), .ref mt1, .int (nI nn), .ref mn1, .ref mn2, .ref mn3, .ref ml1, .ref mw1])), (mg1, .inl (jg1, 4200, .inr (.inl gn))), (mg2, .inl (jg2, 4200, .inl gg))] sz) (fun u : Unit => [(mo, .inr (7, [.int 0, .int (nI nb), .ref ma1, .ref ma2, .ref ma3, .int (nI nq), .ref mb1, .ref mb2, .int (nI ng), .ref mg1, .ref mg2, .int (nI nt), .ref mt1, .int (nI nn), .ref mn1, .ref mn2, .ref mn3, .ref ml1, .ref mw1])), (mg1, .inl (jg1, 4200, .inr (.inl gn))), (mg2, .inl (jg2, 4200, .inl gg))])) (va_A [(mo, .inr (7, [.int th, .int (nI nb), .ref ma1, .ref ma2, .ref ma3, .int (nI nq), .ref mb1, .ref mb2, .int (nI ng), .ref mg1, .ref mg2, .int (nI nt), .ref mt1, .int (nI nn), .ref mn1, .ref mn2, .ref mn3, .ref ml1, .ref mw1])), (mg1, .inl (jg1, 4200, .inr (.inl gn))), (mg2, .inl (jg2, 4200, .inl gg))] sz)) 0 0 (va_A [(mo, .inr (7, [.int th, .int (nI nb), .ref ma1, .ref ma2, .ref ma3, .int (nI nq), .ref mb1, .ref mb2, .int (nI ng), .ref mg1, .ref mg2, .int (nI nt), .ref mt1, .int (nI nn), .ref mn1, .ref mn2, .ref mn3, .ref ml1, .ref mw1])), (mg1, .inl (jg1, 4200, .inr (.inl gn))), (mg2, .inl (jg2, 4200, .inl gg))] sz) := by
  refine Met.ofW (cc := cX7_given) (maxL := 3) (ret := (some .boolean)) (by decide) rfl ?_
  intro p e s m args below meth c s₁ B hml hv
  obtain ⟨rfl, hsz, hP, hK, hD, hC⟩ := hv
  have hx := B.exec
  have hb := B.bytes
  have hr := B.returns
  have hts := atoms_spec (ws := wsX7_given) B.pre
  have hown : s.vm.findClass RX7 = some m.cls := findClass_of_methodNamed B.named
  have hlocks := B.notSynchronized
  subst hsz
  have hD := hD.self (sz := s.heap.size)
  generalize hAe : va_A [(mo, .inr (7, [.int th, .int (nI nb), .ref ma1, .ref ma2, .ref ma3, .int (nI nq), .ref mb1, .ref mb2, .int (nI ng), .ref mg1, .ref mg2, .int (nI nt), .ref mt1, .int (nI nn), .ref mn1, .ref mn2, .ref mn3, .ref ml1, .ref mw1])), (mg1, .inl (jg1, 4200, .inr (.inl gn))), (mg2, .inl (jg2, 4200, .inl gg))] s.heap.size = A at hC hD ⊢
  have hA : ∀ q : Nat, s.heap.size ≤ q → A q := fun q h => by rw [← hAe]; exact Or.inr h
  have hS : va_S A s.heap s.heap [] := va_S.rf
  have hP : va_P D vwCl [(mo, .inr (7, [.int th, .int (nI nb), .ref ma1, .ref ma2, .ref ma3, .int (nI nq), .ref mb1, .ref mb2, .int (nI ng), .ref mg1, .ref mg2, .int (nI nt), .ref mt1, .int (nI nn), .ref mn1, .ref mn2, .ref mn3, .ref ml1, .ref mw1])), (mg1, .inl (jg1, 4200, .inr (.inl gn))), (mg2, .inl (jg2, 4200, .inl gg))] s.heap := hP
  have hl := lv_entry ([.ref mo, .long p0]) (n := 3) (Nat.le_of_ble_eq_true rfl)
  rw [lg_entry_eq]
  generalize (lg_sl ([.ref mo, .long p0]) ++ List.replicate (3 - (lg_sl ([.ref mo, .long p0])).length) Slot.unset).toArray = ls at hl ⊢
  have hl : lv_has ls 3 [(0, .ref mo), (1, .long p0)] := hl
  refine zNameH (D := D) (A := A) (ws := [(mo, .inr (7, [.int th, .int (nI nb), .ref ma1, .ref ma2, .ref ma3, .int (nI nq), .ref mb1, .ref mb2, .int (nI ng), .ref mg1, .ref mg2, .int (nI nt), .ref mt1, .int (nI nn), .ref mn1, .ref mn2, .ref mn3, .ref ml1, .ref mw1])), (mg1, .inl (jg1, 4200, .inr (.inl gn))), (mg2, .inl (jg2, 4200, .inl gg))]) (fun H locs hP hS => ?_) hP hS
  have k_0 := hts (.fieldLink RX7 55 "NumberRows2Model" "thrown" "I") (by decide +kernel)
  have k_1 : ∀ w ∈ wsX70, w ∈ wsX7_given := by decide +kernel
  refine lv_aload_n hx hb dX7_given_0 rfl (lv_at hl 0 rfl) ?_
  refine lv_iconst (v := 0) hx hb dX7_given_1 (by decide) ?_
  refine va_put (D := D) (ci := 7) (v := .int 0) (ty := .int) (C := RX7) (T := TX7) (N := 19) hx hb hts k_1 tyX7 tyX7_ok nmX7 hown hK hP hD hS 0 rfl rfl 0 (by decide) k_0 (fun _ h9 => h9) rfl (by decide +kernel) rfl rfl (Nat.le_of_ble_eq_true rfl) dX7_given_2 (fun H locs hP hD hS => ?_)
  have hP : va_P D vwCl [(mo, .inr (7, [.int 0, .int (nI nb), .ref ma1, .ref ma2, .ref ma3, .int (nI nq), .ref mb1, .ref mb2, .int (nI ng), .ref mg1, .ref mg2, .int (nI nt), .ref mt1, .int (nI nn), .ref mn1, .ref mn2, .ref mn3, .ref ml1, .ref mw1])), (mg1, .inl (jg1, 4200, .inr (.inl gn))), (mg2, .inl (jg2, 4200, .inl gg))] H := hP
  have hD : va_D A [(mo, .inr (7, [.int 0, .int (nI nb), .ref ma1, .ref ma2, .ref ma3, .int (nI nq), .ref mb1, .ref mb2, .int (nI ng), .ref mg1, .ref mg2, .int (nI nt), .ref mt1, .int (nI nn), .ref mn1, .ref mn2, .ref mn3, .ref ml1, .ref mw1])), (mg1, .inl (jg1, 4200, .inr (.inl gn))), (mg2, .inl (jg2, 4200, .inl gg))] := hD
  refine lv_aload_n hx hb dX7_given_5 rfl (lv_at hl 0 rfl) ?_
  refine lv_lload_n hx hb dX7_given_6 rfl (lv_at hl 1 rfl) ?_
  refine zRo_i (va_runV (As := [.long p0]) (rest := []) ⟨hx, hb, hml, hown, hts⟩ (mx_find l D z H.size mo ma1 ma2 ma3 mb1 mb2 mg1 mg2 mt1 mn1 mn2 mn3 ml1 mw1 (0 : Int32) nb nq ng nt nn jg1 gn jg2 gg p0 (by omega)) (cwV 1 hts gX7_given_X7_find rfl rfl rfl (by decide +kernel) ⟨Nat.le_of_ble_eq_true rfl, Nat.le_of_ble_eq_true rfl⟩) ⟨zPre_blind, va_recv hK hP (ci := 7) (q0 := 0) rfl rfl, (zPre_mk (wc := [(mo, .inr (7, [.int (0 : Int32), .int (nI nb), .ref ma1, .ref ma2, .ref ma3, .int (nI nq), .ref mb1, .ref mb2, .int (nI ng), .ref mg1, .ref mg2, .int (nI nt), .ref mt1, .int (nI nn), .ref mn1, .ref mn2, .ref mn3, .ref ml1, .ref mw1])), (mg1, .inl (jg1, 4200, .inr (.inl gn))), (mg2, .inl (jg2, 4200, .inl gg))]) (tc := [(jg1, .long), (jg2, .boolean)]) hP hK hD hC hS [0, 1, 2] (by decide) rfl rfl [0, 1] rfl (zro_free hS hA))⟩ rfl rfl hl.1 rfl (lv_room (Nat.le_of_ble_eq_true rfl)) dX7_given_7 ⟨Nat.zero_le _, Nat.zero_le _⟩) hS hA hP (fun r_7 H locs hw hP hS => ?_)
  have hw_7 : (∃ k, k < ng ∧ gn k = p0 ∧ gg k = 0 ∧ r_7 = nI k) ∨ ((∀ k, k < ng → ¬ (gn k = p0 ∧ gg k = 0)) ∧ r_7 = -1) := hw
  refine lv_if_lt (tgt := 17) hx hb dX7_given_10 (by decide) (fun c_10 => ?_) (fun c_10 => ?_)
  · have i_10 : r_7.toInt < 0 := zi_lt.mp c_10
    refine lv_iconst (v := 0) hx hb dX7_given_17 (by decide) ?_
    exact W.zret (v := 0) hx hb hr rfl (fun t9 ht9 hW9 => ⟨⟨_, (), rfl, zB_f (by rcases zfnd hw_7 hg with q | q; exact absurd i_10 q.1; exact q.2), by rw [ht9]; exact hP, va_K.moved hW9.alike hK, hD⟩, hS.F ht9⟩) hS.2.2 dX7_given_18
  · have i_10 : ¬ (r_7.toInt < 0) := fun q9 => c_10 (zi_lt.mpr q9)
    refine lv_iconst (v := 1) hx hb dX7_given_13 (by decide) ?_
    refine lv_goto (tgt := 18) hx hb dX7_given_14 (by decide) ?_
    exact W.zret (v := 1) hx hb hr rfl (fun t9 ht9 hW9 => ⟨⟨_, (), rfl, zB_t (by rcases zfnd hw_7 hg with q | q; exact q.2; exact absurd q.1 i_10), by rw [ht9]; exact hP, va_K.moved hW9.alike hK, hD⟩, hS.F ht9⟩) hS.2.2 dX7_given_18

set_option maxHeartbeats 4000000 in
set_option maxRecDepth 100000 in
theorem mx_old (l : Launch) (D : va_G) (z : zG) (sz : Nat) (mo : Nat) (ma1 : Nat) (ma2 : Nat) (ma3 : Nat) (mb1 : Nat) (mb2 : Nat) (mg1 : Nat) (mg2 : Nat) (mt1 : Nat) (mn1 : Nat) (mn2 : Nat) (mn3 : Nat) (ml1 : Nat) (mw1 : Nat) (th : Int32) (nb : Nat) (nq : Nat) (ng : Nat) (nt : Nat) (nn : Nat) (p0 : Int64)  : Met l yX7_old wsX7_old ({ frames := 1, cells := 0, slots := 0, locals := 25 }) (zPre D z [.ref mo, .long p0] sz [(mo, .inr (7, [.int th, .int (nI nb), .ref ma1, .ref ma2, .ref ma3, .int (nI nq), .ref mb1, .ref mb2, .int (nI ng), .ref mg1, .ref mg2, .int (nI nt), .ref mt1, .int (nI nn), .ref mn1, .ref mn2, .ref mn3, .ref ml1, .ref mw1]))] [] (va_A [(mo, .inr (7, [.int th, .int (nI nb), .ref ma1, .ref ma2, .ref ma3, .int (nI nq), .ref mb1, .ref mb2, .int (nI ng), .ref mg1, .ref mg2, .int (nI nt), .ref mt1, .int (nI nn), .ref mn1, .ref mn2, .ref mn3, .ref ml1, .ref mw1]))] sz)) (va_Ql (fun (r : Int64) (u : Unit) => zOldM p0 r) (zAt D [] (va_A [(mo, .inr (7, [.int th, .int (nI nb), .ref ma1, .ref ma2, .ref ma3, .int (nI nq), .ref mb1, .ref mb2, .int (nI ng), .ref mg1, .ref mg2, .int (nI nt), .ref mt1, .int (nI nn), .ref mn1, .ref mn2, .ref mn3, .ref ml1, .ref mw1]))] sz) (fun u : Unit => [(mo, .inr (7, [.int 0, .int (nI nb), .ref ma1, .ref ma2, .ref ma3, .int (nI nq), .ref mb1, .ref mb2, .int (nI ng), .ref mg1, .ref mg2, .int (nI nt), .ref mt1, .int (nI nn), .ref mn1, .ref mn2, .ref mn3, .ref ml1, .ref mw1]))])) (va_A [(mo, .inr (7, [.int th, .int (nI nb), .ref ma1, .ref ma2, .ref ma3, .int (nI nq), .ref mb1, .ref mb2, .int (nI ng), .ref mg1, .ref mg2, .int (nI nt), .ref mt1, .int (nI nn), .ref mn1, .ref mn2, .ref mn3, .ref ml1, .ref mw1]))] sz)) 0 0 (va_A [(mo, .inr (7, [.int th, .int (nI nb), .ref ma1, .ref ma2, .ref ma3, .int (nI nq), .ref mb1, .ref mb2, .int (nI ng), .ref mg1, .ref mg2, .int (nI nt), .ref mt1, .int (nI nn), .ref mn1, .ref mn2, .ref mn3, .ref ml1, .ref mw1]))] sz) := by
  refine Met.ofW (cc := cX7_old) (maxL := 5) (ret := (some .long)) (by decide) rfl ?_
  intro p e s m args below meth c s₁ B hml hv
  obtain ⟨rfl, hsz, hP, hK, hD, hC⟩ := hv
  have hx := B.exec
  have hb := B.bytes
  have hr := B.returns
  have hts := atoms_spec (ws := wsX7_old) B.pre
  have hown : s.vm.findClass RX7 = some m.cls := findClass_of_methodNamed B.named
  have hlocks := B.notSynchronized
  subst hsz
  have hD := hD.self (sz := s.heap.size)
  generalize hAe : va_A [(mo, .inr (7, [.int th, .int (nI nb), .ref ma1, .ref ma2, .ref ma3, .int (nI nq), .ref mb1, .ref mb2, .int (nI ng), .ref mg1, .ref mg2, .int (nI nt), .ref mt1, .int (nI nn), .ref mn1, .ref mn2, .ref mn3, .ref ml1, .ref mw1]))] s.heap.size = A at hC hD ⊢
  have hA : ∀ q : Nat, s.heap.size ≤ q → A q := fun q h => by rw [← hAe]; exact Or.inr h
  have hS : va_S A s.heap s.heap [] := va_S.rf
  have hP : va_P D vwCl [(mo, .inr (7, [.int th, .int (nI nb), .ref ma1, .ref ma2, .ref ma3, .int (nI nq), .ref mb1, .ref mb2, .int (nI ng), .ref mg1, .ref mg2, .int (nI nt), .ref mt1, .int (nI nn), .ref mn1, .ref mn2, .ref mn3, .ref ml1, .ref mw1]))] s.heap := hP
  have hl := lv_entry ([.ref mo, .long p0]) (n := 5) (Nat.le_of_ble_eq_true rfl)
  rw [lg_entry_eq]
  generalize (lg_sl ([.ref mo, .long p0]) ++ List.replicate (5 - (lg_sl ([.ref mo, .long p0])).length) Slot.unset).toArray = ls at hl ⊢
  have hl : lv_has ls 5 [(0, .ref mo), (1, .long p0)] := hl
  refine zNameH (D := D) (A := A) (ws := [(mo, .inr (7, [.int th, .int (nI nb), .ref ma1, .ref ma2, .ref ma3, .int (nI nq), .ref mb1, .ref mb2, .int (nI ng), .ref mg1, .ref mg2, .int (nI nt), .ref mt1, .int (nI nn), .ref mn1, .ref mn2, .ref mn3, .ref ml1, .ref mw1]))]) (fun H locs hP hS => ?_) hP hS
  have k_0 := hts (.fieldLink RX7 55 "NumberRows2Model" "thrown" "I") (by decide +kernel)
  have k_1 : ∀ w ∈ wsX70, w ∈ wsX7_old := by decide +kernel
  have k_2 := hts (.constantLong RX7 120 (9999999999)) (by decide +kernel)
  have k_3 := hts (.constantLong RX7 77 (27512614111)) (by decide +kernel)
  have k_4 := hts (.constantLong RX7 64 (20000000000)) (by decide +kernel)
  have k_5 := hts (.constantLong RX7 89 (-102)) (by decide +kernel)
  have k_6 := hts (.constantLong RX7 124 (999999999)) (by decide +kernel)
  have k_7 := hts (.constantLong RX7 122 (1000000000)) (by decide +kernel)
  refine lv_aload_n hx hb dX7_old_0 rfl (lv_at hl 0 rfl) ?_
  refine lv_iconst (v := 0) hx hb dX7_old_1 (by decide) ?_
  refine va_put (D := D) (ci := 7) (v := .int 0) (ty := .int) (C := RX7) (T := TX7) (N := 19) hx hb hts k_1 tyX7 tyX7_ok nmX7 hown hK hP hD hS 0 rfl rfl 0 (by decide) k_0 (fun _ h9 => h9) rfl (by decide +kernel) rfl rfl (Nat.le_of_ble_eq_true rfl) dX7_old_2 (fun H locs hP hD hS => ?_)
  have hP : va_P D vwCl [(mo, .inr (7, [.int 0, .int (nI nb), .ref ma1, .ref ma2, .ref ma3, .int (nI nq), .ref mb1, .ref mb2, .int (nI ng), .ref mg1, .ref mg2, .int (nI nt), .ref mt1, .int (nI nn), .ref mn1, .ref mn2, .ref mn3, .ref ml1, .ref mw1]))] H := hP
  have hD : va_D A [(mo, .inr (7, [.int 0, .int (nI nb), .ref ma1, .ref ma2, .ref ma3, .int (nI nq), .ref mb1, .ref mb2, .int (nI ng), .ref mg1, .ref mg2, .int (nI nt), .ref mt1, .int (nI nn), .ref mn1, .ref mn2, .ref mn3, .ref ml1, .ref mw1]))] := hD
  refine lv_lload_n hx hb dX7_old_5 rfl (lv_at hl 1 rfl) ?_
  refine lv_lconst (v := 0) hx hb dX7_old_6 (by decide) ?_
  refine lv_ldc2 hx hb hown k_2 dX7_old_7 ?_
  refine zRo_i (va_runS (As := [.long p0, .long 0, .long 9999999999]) (rest := []) ⟨hx, hb, hml, hown, hts⟩ (mx_isIn l D z H.size p0 (0 : Int64) (9999999999 : Int64) ) (va_cwS 3 hts gX7_old_X7_isIn rfl rfl rfl (by decide +kernel) ⟨Nat.le_of_ble_eq_true rfl, Nat.le_of_ble_eq_true rfl⟩) ⟨zPre_blind, (zPre_mk (wc := []) (tc := []) hP hK hD hC hS [] (by decide) rfl rfl [] rfl (zro_free hS hA))⟩ rfl rfl hl.1 rfl (lv_room (Nat.le_of_ble_eq_true rfl)) dX7_old_10 ⟨Nat.zero_le _, Nat.zero_le _⟩) hS hA hP (fun r_10 H locs hw hP hS => ?_)
  have hw_10 : zB r_10 (0 ≤ p0.toInt ∧ p0.toInt ≤ 9999999999) := hw
  refine lv_if_eq (tgt := 38) hx hb dX7_old_13 (by decide) (fun c_13 => ?_) (fun c_13 => ?_)
  · have i_13 : r_10.toInt = 0 := zi_eq.mp c_13
    refine lv_lload_n hx hb dX7_old_38 rfl (lv_at hl 1 rfl) ?_
    refine lv_ldc2 hx hb hown k_3 dX7_old_39 ?_
    refine lv_lrem hx hb dX7_old_42 (by decide) ?_
    refine lv_ldc2 hx hb hown k_4 dX7_old_43 ?_
    refine lv_lsub hx hb dX7_old_46 ?_
    refine lv_lstore_n (lv' := [(3, .long ((p0 - p0 / 27512614111 * 27512614111) - 20000000000)), (0, .ref mo), (1, .long p0)]) hx hb dX7_old_47 rfl hl (by decide) rfl (fun ls hl => ?_)
    refine lv_lload_n hx hb dX7_old_48 rfl (lv_at hl 2 rfl) ?_
    refine zRo_i (va_runS (As := [.long p0]) (rest := []) ⟨hx, hb, hml, hown, hts⟩ (mx_isNumber l D z H.size p0 ) (va_cwS 1 hts gX7_old_X7_isNumber rfl rfl rfl (by decide +kernel) ⟨Nat.le_of_ble_eq_true rfl, Nat.le_of_ble_eq_true rfl⟩) ⟨zPre_blind, (zPre_mk (wc := []) (tc := []) hP hK hD hC hS [] (by decide) rfl rfl [] rfl (zro_free hS hA))⟩ rfl rfl hl.1 rfl (lv_room (Nat.le_of_ble_eq_true rfl)) dX7_old_49 ⟨Nat.zero_le _, Nat.zero_le _⟩) hS hA hP (fun r_49 H locs hw hP hS => ?_)
    have hw_49 : zB r_49 (27512614111 ≤ p0.toInt ∧ p0.toInt < 302638755221) := hw
    refine lv_if_eq (tgt := 82) hx hb dX7_old_52 (by decide) (fun c_52 => ?_) (fun c_52 => ?_)
    · have i_52 : r_49.toInt = 0 := zi_eq.mp c_52
      refine lv_ldc2 hx hb hown k_5 dX7_old_82 ?_
      exact W.lret (v := (-102)) hx hb hr (fun t9 ht9 hW9 => ⟨⟨_, (), rfl, Or.inr (Or.inl ⟨by have := zB_eq hw_10 c_13; omega, fun q => zB_eq hw_49 c_52 q.1, rfl⟩), by rw [ht9]; exact hP, va_K.moved hW9.alike hK, hD⟩, hS.F ht9⟩) hS.2.2 dX7_old_85
    · have i_52 : ¬ (r_49.toInt = 0) := fun q9 => c_52 (zi_eq.mpr q9)
      refine lv_lload_n hx hb dX7_old_55 rfl (lv_at hl 0 rfl) ?_
      refine lv_lconst (v := 0) hx hb dX7_old_56 (by decide) ?_
      refine lv_ldc2 hx hb hown k_6 dX7_old_57 ?_
      refine zRo_i (va_runS (As := [.long ((p0 - p0 / 27512614111 * 27512614111) - 20000000000), .long 0, .long 999999999]) (rest := []) ⟨hx, hb, hml, hown, hts⟩ (mx_isIn l D z H.size ((p0 - p0 / 27512614111 * 27512614111) - 20000000000) (0 : Int64) (999999999 : Int64) ) (va_cwS 3 hts gX7_old_X7_isIn rfl rfl rfl (by decide +kernel) ⟨Nat.le_of_ble_eq_true rfl, Nat.le_of_ble_eq_true rfl⟩) ⟨zPre_blind, (zPre_mk (wc := []) (tc := []) hP hK hD hC hS [] (by decide) rfl rfl [] rfl (zro_free hS hA))⟩ rfl rfl hl.1 rfl (lv_room (Nat.le_of_ble_eq_true rfl)) dX7_old_60 ⟨Nat.zero_le _, Nat.zero_le _⟩) hS hA hP (fun r_60 H locs hw hP hS => ?_)
      have hw_60 : zB r_60 (0 ≤ ((p0 - p0 / 27512614111 * 27512614111) - 20000000000).toInt ∧ ((p0 - p0 / 27512614111 * 27512614111) - 20000000000).toInt ≤ 999999999) := hw
      refine lv_if_eq (tgt := 82) hx hb dX7_old_63 (by decide) (fun c_63 => ?_) (fun c_63 => ?_)
      · have i_63 : r_60.toInt = 0 := zi_eq.mp c_63
        refine lv_ldc2 hx hb hown k_5 dX7_old_82 ?_
        exact W.lret (v := (-102)) hx hb hr (fun t9 ht9 hW9 => ⟨⟨_, (), rfl, Or.inr (Or.inl ⟨by have := zB_eq hw_10 c_13; omega, fun q => zB_eq hw_60 c_63 (by have := q.2; unfold zser at this; omega), rfl⟩), by rw [ht9]; exact hP, va_K.moved hW9.alike hK, hD⟩, hS.F ht9⟩) hS.2.2 dX7_old_85
      · have i_63 : ¬ (r_60.toInt = 0) := fun q9 => c_63 (zi_eq.mpr q9)
        refine lv_lload_n hx hb dX7_old_66 rfl (lv_at hl 2 rfl) ?_
        refine lv_ldc2 hx hb hown k_3 dX7_old_67 ?_
        refine lv_ldiv hx hb dX7_old_70 (by decide) ?_
        refine lv_lconst (v := 1) hx hb dX7_old_71 (by decide) ?_
        refine lv_lsub hx hb dX7_old_72 ?_
        refine lv_ldc2 hx hb hown k_7 dX7_old_73 ?_
        refine lv_lmul hx hb dX7_old_76 ?_
        refine lv_lload_n hx hb dX7_old_77 rfl (lv_at hl 0 rfl) ?_
        refine lv_ladd hx hb dX7_old_78 ?_
        refine lv_goto (tgt := 85) hx hb dX7_old_79 (by decide) ?_
        exact W.lret (v := ((((p0 / 27512614111) - 1) * 1000000000) + ((p0 - p0 / 27512614111 * 27512614111) - 20000000000))) hx hb hr (fun t9 ht9 hW9 => ⟨⟨_, (), rfl, Or.inr (Or.inr ⟨by have := zB_eq hw_10 c_13; omega, ⟨zB_ne hw_49 c_52, by have := zB_ne hw_60 c_63; unfold zser; omega⟩, rfl⟩), by rw [ht9]; exact hP, va_K.moved hW9.alike hK, hD⟩, hS.F ht9⟩) hS.2.2 dX7_old_85
  · have i_13 : ¬ (r_10.toInt = 0) := fun q9 => c_13 (zi_eq.mpr q9)
    refine lv_lload_n hx hb dX7_old_16 rfl (lv_at hl 1 rfl) ?_
    refine lv_ldc2 hx hb hown k_7 dX7_old_17 ?_
    refine lv_ldiv hx hb dX7_old_20 (by decide) ?_
    refine lv_lconst (v := 1) hx hb dX7_old_21 (by decide) ?_
    refine lv_ladd hx hb dX7_old_22 ?_
    refine lv_ldc2 hx hb hown k_3 dX7_old_23 ?_
    refine lv_lmul hx hb dX7_old_26 ?_
    refine lv_ldc2 hx hb hown k_4 dX7_old_27 ?_
    refine lv_ladd hx hb dX7_old_30 ?_
    refine lv_lload_n hx hb dX7_old_31 rfl (lv_at hl 1 rfl) ?_
    refine lv_ldc2 hx hb hown k_7 dX7_old_32 ?_
    refine lv_lrem hx hb dX7_old_35 (by decide) ?_
    refine lv_ladd hx hb dX7_old_36 ?_
    exact W.lret (v := (((((p0 / 1000000000) + 1) * 27512614111) + 20000000000) + (p0 - p0 / 1000000000 * 1000000000))) hx hb hr (fun t9 ht9 hW9 => ⟨⟨_, (), rfl, Or.inl ⟨by have := zB_ne hw_10 c_13; omega, rfl⟩, by rw [ht9]; exact hP, va_K.moved hW9.alike hK, hD⟩, hS.F ht9⟩) hS.2.2 dX7_old_37

set_option maxHeartbeats 4000000 in
set_option maxRecDepth 100000 in
theorem mx_named (l : Launch) (D : va_G) (z : zG) (sz : Nat) (mo : Nat) (ma1 : Nat) (ma2 : Nat) (ma3 : Nat) (mb1 : Nat) (mb2 : Nat) (mg1 : Nat) (mg2 : Nat) (mt1 : Nat) (mn1 : Nat) (mn2 : Nat) (mn3 : Nat) (ml1 : Nat) (mw1 : Nat) (th : Int32) (nb : Nat) (nq : Nat) (ng : Nat) (nt : Nat) (nn : Nat) (jn1 : ClassId) (sd : Nat → Int32) (jn2 : ClassId) (rf : Nat → Int64) (jn3 : ClassId) (nm : Nat → Int64) (p0 : Int32) (p1 : Int64) (hn : nn ≤ 300) : Met l yX7_named wsX7_named ({ frames := 0, cells := 0, slots := 0, locals := 0 }) (zPre D z [.ref mo, .int p0, .long p1] sz [(mo, .inr (7, [.int th, .int (nI nb), .ref ma1, .ref ma2, .ref ma3, .int (nI nq), .ref mb1, .ref mb2, .int (nI ng), .ref mg1, .ref mg2, .int (nI nt), .ref mt1, .int (nI nn), .ref mn1, .ref mn2, .ref mn3, .ref ml1, .ref mw1])), (mn1, .inl (jn1, 300, .inl sd)), (mn2, .inl (jn2, 300, .inr (.inl rf))), (mn3, .inl (jn3, 300, .inr (.inl nm)))] [(jn1, .int), (jn2, .long), (jn3, .long)] (va_A [(mo, .inr (7, [.int th, .int (nI nb), .ref ma1, .ref ma2, .ref ma3, .int (nI nq), .ref mb1, .ref mb2, .int (nI ng), .ref mg1, .ref mg2, .int (nI nt), .ref mt1, .int (nI nn), .ref mn1, .ref mn2, .ref mn3, .ref ml1, .ref mw1])), (mn1, .inl (jn1, 300, .inl sd)), (mn2, .inl (jn2, 300, .inr (.inl rf))), (mn3, .inl (jn3, 300, .inr (.inl nm)))] sz)) (va_Ql (fun (r : Int64) (u : Unit) => zFnd nn sd rf nm p0 p1 r) (zAt D [(jn1, .int), (jn2, .long), (jn3, .long)] (va_A [(mo, .inr (7, [.int th, .int (nI nb), .ref ma1, .ref ma2, .ref ma3, .int (nI nq), .ref mb1, .ref mb2, .int (nI ng), .ref mg1, .ref mg2, .int (nI nt), .ref mt1, .int (nI nn), .ref mn1, .ref mn2, .ref mn3, .ref ml1, .ref mw1])), (mn1, .inl (jn1, 300, .inl sd)), (mn2, .inl (jn2, 300, .inr (.inl rf))), (mn3, .inl (jn3, 300, .inr (.inl nm)))] sz) (fun u : Unit => [(mo, .inr (7, [.int 0, .int (nI nb), .ref ma1, .ref ma2, .ref ma3, .int (nI nq), .ref mb1, .ref mb2, .int (nI ng), .ref mg1, .ref mg2, .int (nI nt), .ref mt1, .int (nI nn), .ref mn1, .ref mn2, .ref mn3, .ref ml1, .ref mw1])), (mn1, .inl (jn1, 300, .inl sd)), (mn2, .inl (jn2, 300, .inr (.inl rf))), (mn3, .inl (jn3, 300, .inr (.inl nm)))])) (va_A [(mo, .inr (7, [.int th, .int (nI nb), .ref ma1, .ref ma2, .ref ma3, .int (nI nq), .ref mb1, .ref mb2, .int (nI ng), .ref mg1, .ref mg2, .int (nI nt), .ref mt1, .int (nI nn), .ref mn1, .ref mn2, .ref mn3, .ref ml1, .ref mw1])), (mn1, .inl (jn1, 300, .inl sd)), (mn2, .inl (jn2, 300, .inr (.inl rf))), (mn3, .inl (jn3, 300, .inr (.inl nm)))] sz)) 0 0 (va_A [(mo, .inr (7, [.int th, .int (nI nb), .ref ma1, .ref ma2, .ref ma3, .int (nI nq), .ref mb1, .ref mb2, .int (nI ng), .ref mg1, .ref mg2, .int (nI nt), .ref mt1, .int (nI nn), .ref mn1, .ref mn2, .ref mn3, .ref ml1, .ref mw1])), (mn1, .inl (jn1, 300, .inl sd)), (mn2, .inl (jn2, 300, .inr (.inl rf))), (mn3, .inl (jn3, 300, .inr (.inl nm)))] sz) := by
  refine Met.ofW (cc := cX7_named) (maxL := 5) (ret := (some .long)) (by decide) rfl ?_
  intro p e s m args below meth c s₁ B hml hv
  obtain ⟨rfl, hsz, hP, hK, hD, hC⟩ := hv
  have hx := B.exec
  have hb := B.bytes
  have hr := B.returns
  have hts := atoms_spec (ws := wsX7_named) B.pre
  have hown : s.vm.findClass RX7 = some m.cls := findClass_of_methodNamed B.named
  have hlocks := B.notSynchronized
  subst hsz
  have hD := hD.self (sz := s.heap.size)
  generalize hAe : va_A [(mo, .inr (7, [.int th, .int (nI nb), .ref ma1, .ref ma2, .ref ma3, .int (nI nq), .ref mb1, .ref mb2, .int (nI ng), .ref mg1, .ref mg2, .int (nI nt), .ref mt1, .int (nI nn), .ref mn1, .ref mn2, .ref mn3, .ref ml1, .ref mw1])), (mn1, .inl (jn1, 300, .inl sd)), (mn2, .inl (jn2, 300, .inr (.inl rf))), (mn3, .inl (jn3, 300, .inr (.inl nm)))] s.heap.size = A at hC hD ⊢
  have hA : ∀ q : Nat, s.heap.size ≤ q → A q := fun q h => by rw [← hAe]; exact Or.inr h
  have hS : va_S A s.heap s.heap [] := va_S.rf
  have hP : va_P D vwCl [(mo, .inr (7, [.int th, .int (nI nb), .ref ma1, .ref ma2, .ref ma3, .int (nI nq), .ref mb1, .ref mb2, .int (nI ng), .ref mg1, .ref mg2, .int (nI nt), .ref mt1, .int (nI nn), .ref mn1, .ref mn2, .ref mn3, .ref ml1, .ref mw1])), (mn1, .inl (jn1, 300, .inl sd)), (mn2, .inl (jn2, 300, .inr (.inl rf))), (mn3, .inl (jn3, 300, .inr (.inl nm)))] s.heap := hP
  have hl := lv_entry ([.ref mo, .int p0, .long p1]) (n := 5) (Nat.le_of_ble_eq_true rfl)
  rw [lg_entry_eq]
  generalize (lg_sl ([.ref mo, .int p0, .long p1]) ++ List.replicate (5 - (lg_sl ([.ref mo, .int p0, .long p1])).length) Slot.unset).toArray = ls at hl ⊢
  have hl : lv_has ls 5 [(0, .ref mo), (1, .int p0), (2, .long p1)] := hl
  refine zNameH (D := D) (A := A) (ws := [(mo, .inr (7, [.int th, .int (nI nb), .ref ma1, .ref ma2, .ref ma3, .int (nI nq), .ref mb1, .ref mb2, .int (nI ng), .ref mg1, .ref mg2, .int (nI nt), .ref mt1, .int (nI nn), .ref mn1, .ref mn2, .ref mn3, .ref ml1, .ref mw1])), (mn1, .inl (jn1, 300, .inl sd)), (mn2, .inl (jn2, 300, .inr (.inl rf))), (mn3, .inl (jn3, 300, .inr (.inl nm)))]) (fun H locs hP hS => ?_) hP hS
  have k_0 := hts (.fieldLink RX7 55 "NumberRows2Model" "thrown" "I") (by decide +kernel)
  have k_1 : ∀ w ∈ wsX70, w ∈ wsX7_named := by decide +kernel
  have k_2 := hts (.fieldLink RX7 126 "NumberRows2Model" "names" "I") (by decide +kernel)
  have k_3 := hts (.constantLong RX7 129 (-101)) (by decide +kernel)
  have k_4 := hts (.fieldLink RX7 36 "NumberRows2Model" "senders" "[I") (by decide +kernel)
  have k_5 := hts (.fieldLink RX7 39 "NumberRows2Model" "references" "[J") (by decide +kernel)
  have k_6 := hts (.fieldLink RX7 42 "NumberRows2Model" "named" "[J") (by decide +kernel)
  refine lv_aload_n hx hb dX7_named_0 rfl (lv_at hl 0 rfl) ?_
  refine lv_iconst (v := 0) hx hb dX7_named_1 (by decide) ?_
  refine va_put (D := D) (ci := 7) (v := .int 0) (ty := .int) (C := RX7) (T := TX7) (N := 19) hx hb hts k_1 tyX7 tyX7_ok nmX7 hown hK hP hD hS 0 rfl rfl 0 (by decide) k_0 (fun _ h9 => h9) rfl (by decide +kernel) rfl rfl (Nat.le_of_ble_eq_true rfl) dX7_named_2 (fun H locs hP hD hS => ?_)
  have hP : va_P D vwCl [(mo, .inr (7, [.int 0, .int (nI nb), .ref ma1, .ref ma2, .ref ma3, .int (nI nq), .ref mb1, .ref mb2, .int (nI ng), .ref mg1, .ref mg2, .int (nI nt), .ref mt1, .int (nI nn), .ref mn1, .ref mn2, .ref mn3, .ref ml1, .ref mw1])), (mn1, .inl (jn1, 300, .inl sd)), (mn2, .inl (jn2, 300, .inr (.inl rf))), (mn3, .inl (jn3, 300, .inr (.inl nm)))] H := hP
  have hD : va_D A [(mo, .inr (7, [.int 0, .int (nI nb), .ref ma1, .ref ma2, .ref ma3, .int (nI nq), .ref mb1, .ref mb2, .int (nI ng), .ref mg1, .ref mg2, .int (nI nt), .ref mt1, .int (nI nn), .ref mn1, .ref mn2, .ref mn3, .ref ml1, .ref mw1])), (mn1, .inl (jn1, 300, .inl sd)), (mn2, .inl (jn2, 300, .inr (.inl rf))), (mn3, .inl (jn3, 300, .inr (.inl nm)))] := hD
  refine lv_iconst (v := 0) hx hb dX7_named_5 (by decide) ?_
  refine lv_istore (lv' := [(4, .int 0), (0, .ref mo), (1, .int p0), (2, .long p1)]) hx hb dX7_named_6 hl (by decide) rfl (fun ls hl => ?_)
  refine zLoop (σ := Nat) (nL := 5) (μ := fun (i : Nat) => nn - i) (lv := fun (i : Nat) => [(4, .int (nI i)), (0, .ref mo), (1, .int p0), (2, .long p1)]) (wf := fun (i : Nat) => [(mo, .inr (7, [.int 0, .int (nI nb), .ref ma1, .ref ma2, .ref ma3, .int (nI nq), .ref mb1, .ref mb2, .int (nI ng), .ref mg1, .ref mg2, .int (nI nt), .ref mt1, .int (nI nn), .ref mn1, .ref mn2, .ref mn3, .ref ml1, .ref mw1])), (mn1, .inl (jn1, 300, .inl sd)), (mn2, .inl (jn2, 300, .inr (.inl rf))), (mn3, .inl (jn3, 300, .inr (.inl nm)))]) (I := fun (i : Nat) => i ≤ nn ∧ ∀ j, j < i → ¬ (sd j = p0 ∧ rf j = p1)) (fun x H locs ls hI hP hD hS hl ih => ?_) 0 ⟨Nat.zero_le _, fun j hj => absurd hj (Nat.not_lt_zero j)⟩ hP hD hS (lv_sub hl [0, 1, 2, 3] rfl)
  obtain ⟨i, rfl⟩ : ∃ y9, y9 = x := ⟨_, rfl⟩
  have hI : i ≤ nn ∧ ∀ j, j < i → ¬ (sd j = p0 ∧ rf j = p1) := hI
  have hl : lv_has ls 5 [(4, .int (nI i)), (0, .ref mo), (1, .int p0), (2, .long p1)] := hl
  have hP : va_P D vwCl [(mo, .inr (7, [.int 0, .int (nI nb), .ref ma1, .ref ma2, .ref ma3, .int (nI nq), .ref mb1, .ref mb2, .int (nI ng), .ref mg1, .ref mg2, .int (nI nt), .ref mt1, .int (nI nn), .ref mn1, .ref mn2, .ref mn3, .ref ml1, .ref mw1])), (mn1, .inl (jn1, 300, .inl sd)), (mn2, .inl (jn2, 300, .inr (.inl rf))), (mn3, .inl (jn3, 300, .inr (.inl nm)))] H := hP
  have hD : va_D A [(mo, .inr (7, [.int 0, .int (nI nb), .ref ma1, .ref ma2, .ref ma3, .int (nI nq), .ref mb1, .ref mb2, .int (nI ng), .ref mg1, .ref mg2, .int (nI nt), .ref mt1, .int (nI nn), .ref mn1, .ref mn2, .ref mn3, .ref ml1, .ref mw1])), (mn1, .inl (jn1, 300, .inl sd)), (mn2, .inl (jn2, 300, .inr (.inl rf))), (mn3, .inl (jn3, 300, .inr (.inl nm)))] := hD
  refine lv_iload hx hb dX7_named_8 (lv_at hl 0 rfl) ?_
  refine lv_aload_n hx hb dX7_named_10 rfl (lv_at hl 1 rfl) ?_
  refine va_get (D := D) (ci := 7) (v := .int (nI nn)) (C := RX7) (T := TX7) (N := 19) hx hb hts k_1 hown hK hP 0 rfl rfl 13 (by decide) k_2 (fun _ h9 => h9) rfl dX7_named_11 ?_
  refine lv_icmp_ge (tgt := 54) hx hb dX7_named_14 (by decide) (fun c_14 => ?_) (fun c_14 => ?_)
  · have c_14 : nn ≤ i := (nI_leI (a := nn) (b := i) (by omega) (by omega)).mp c_14
    refine lv_ldc2 hx hb hown k_3 dX7_named_54 ?_
    exact W.lret (v := (-101)) hx hb hr (fun t9 ht9 hW9 => ⟨⟨_, (), rfl, Or.inr ⟨fun j hj => hI.2 j (by omega), rfl⟩, by rw [ht9]; exact hP, va_K.moved hW9.alike hK, hD⟩, hS.F ht9⟩) hS.2.2 dX7_named_57
  · have c_14 : ¬ (nn ≤ i) := fun q9 => c_14 ((nI_leI (a := nn) (b := i) (by omega) (by omega)).mpr q9)
    refine lv_aload_n hx hb dX7_named_17 rfl (lv_at hl 1 rfl) ?_
    refine va_get (D := D) (ci := 7) (v := .ref mn1) (C := RX7) (T := TX7) (N := 19) hx hb hts k_1 hown hK hP 0 rfl rfl 14 (by decide) k_4 (fun _ h9 => h9) rfl dX7_named_18 ?_
    refine lv_iload hx hb dX7_named_21 (lv_at hl 0 rfl) ?_
    refine z_iald (k := i) hx hb hK hP 1 0 rfl rfl (by omega) (by decide) dX7_named_23 ?_
    refine lv_iload_n hx hb dX7_named_24 rfl (lv_at hl 2 rfl) ?_
    refine lv_icmp_ne (tgt := 48) hx hb dX7_named_25 (by decide) (fun c_25 => ?_) (fun c_25 => ?_)
    · have i_25 : ¬ ((sd i).toInt = p0.toInt) := fun q9 => c_25 (zi_eq.mpr q9)
      refine lv_iinc (v := (nI (i + 1))) (lv' := [(4, .int (nI (i + 1))), (0, .ref mo), (1, .int p0), (2, .long p1)]) hx hb dX7_named_48 hl (k := 0) rfl (by first | exact nI_1 _ | rfl) (by decide) rfl (fun ls hl => ?_)
      refine lv_goto (tgt := 8) hx hb dX7_named_51 (by decide) ?_
      exact ih (i + 1) _ _ _ (show nn - (i + 1) < nn - i from (by omega)) ⟨by omega, lt_s hI.2 (fun q => c_25 q.1)⟩ hP hD hS (lv_sub hl [0, 1, 2, 3] rfl)
    · have i_25 : (sd i).toInt = p0.toInt := zi_eq.mp c_25
      refine lv_aload_n hx hb dX7_named_28 rfl (lv_at hl 1 rfl) ?_
      refine va_get (D := D) (ci := 7) (v := .ref mn2) (C := RX7) (T := TX7) (N := 19) hx hb hts k_1 hown hK hP 0 rfl rfl 15 (by decide) k_5 (fun _ h9 => h9) rfl dX7_named_29 ?_
      refine lv_iload hx hb dX7_named_32 (lv_at hl 0 rfl) ?_
      refine z_lald (k := i) hx hb hK hP 2 1 rfl rfl (by omega) (by decide) dX7_named_34 ?_
      refine lv_lload_n hx hb dX7_named_35 rfl (lv_at hl 3 rfl) ?_
      refine W.lcmp hx hb dX7_named_36 ?_
      refine lv_if_ne (tgt := 48) hx hb dX7_named_37 (by decide) (fun c_37 => ?_) (fun c_37 => ?_)
      · have c_37 : ¬ ((rf i) = p1) := fun q9 => c_37 ((lg_cmp_eq _ _).mpr q9)
        have i_37 : ¬ ((rf i).toInt = p1.toInt) := fun q9 => c_37 (zl_eq.mpr q9)
        refine lv_iinc (v := (nI (i + 1))) (lv' := [(4, .int (nI (i + 1))), (0, .ref mo), (1, .int p0), (2, .long p1)]) hx hb dX7_named_48 hl (k := 0) rfl (by first | exact nI_1 _ | rfl) (by decide) rfl (fun ls hl => ?_)
        refine lv_goto (tgt := 8) hx hb dX7_named_51 (by decide) ?_
        exact ih (i + 1) _ _ _ (show nn - (i + 1) < nn - i from (by omega)) ⟨by omega, lt_s hI.2 (fun q => c_37 q.2)⟩ hP hD hS (lv_sub hl [0, 1, 2, 3] rfl)
      · have c_37 : (rf i) = p1 := (lg_cmp_eq _ _).mp c_37
        have i_37 : (rf i).toInt = p1.toInt := zl_eq.mp c_37
        refine lv_aload_n hx hb dX7_named_40 rfl (lv_at hl 1 rfl) ?_
        refine va_get (D := D) (ci := 7) (v := .ref mn3) (C := RX7) (T := TX7) (N := 19) hx hb hts k_1 hown hK hP 0 rfl rfl 16 (by decide) k_6 (fun _ h9 => h9) rfl dX7_named_41 ?_
        refine lv_iload hx hb dX7_named_44 (lv_at hl 0 rfl) ?_
        refine z_lald (k := i) hx hb hK hP 3 2 rfl rfl (by omega) (by decide) dX7_named_46 ?_
        exact W.lret (v := (nm i)) hx hb hr (fun t9 ht9 hW9 => ⟨⟨_, (), rfl, Or.inl ⟨i, by omega, c_25, c_37, rfl⟩, by rw [ht9]; exact hP, va_K.moved hW9.alike hK, hD⟩, hS.F ht9⟩) hS.2.2 dX7_named_47
end
section
set_option maxHeartbeats 4000000 in
set_option maxRecDepth 100000 in
theorem mx_map (l : Launch) (D : va_G) (z : zG) (sz : Nat) (mo : Nat) (ma1 : Nat) (ma2 : Nat) (ma3 : Nat) (mb1 : Nat) (mb2 : Nat) (mg1 : Nat) (mg2 : Nat) (mt1 : Nat) (mn1 : Nat) (mn2 : Nat) (mn3 : Nat) (ml1 : Nat) (mw1 : Nat) (th : Int32) (nb : Nat) (nq : Nat) (ng : Nat) (nt : Nat) (nn : Nat) (jg1 : ClassId) (gn : Nat → Int64) (jg2 : ClassId) (gg : Nat → Int32) (jn1 : ClassId) (sd : Nat → Int32) (jn2 : ClassId) (rf : Nat → Int64) (jn3 : ClassId) (nm : Nat → Int64) (p0 : Int32) (p1 : Int64) (p2 : Int64) (hg : ng ≤ 4200) (hn : nn ≤ 300) : Met l yX7_map wsX7_map ({ frames := 1, cells := 0, slots := 0, locals := 25 }) (zPre D z [.ref mo, .int p0, .long p1, .long p2] sz [(mo, .inr (7, [.int th, .int (nI nb), .ref ma1, .ref ma2, .ref ma3, .int (nI nq), .ref mb1, .ref mb2, .int (nI ng), .ref mg1, .ref mg2, .int (nI nt), .ref mt1, .int (nI nn), .ref mn1, .ref mn2, .ref mn3, .ref ml1, .ref mw1])), (mg1, .inl (jg1, 4200, .inr (.inl gn))), (mg2, .inl (jg2, 4200, .inl gg)), (mn1, .inl (jn1, 300, .inl sd)), (mn2, .inl (jn2, 300, .inr (.inl rf))), (mn3, .inl (jn3, 300, .inr (.inl nm)))] [(jg1, .long), (jg2, .boolean), (jn1, .int), (jn2, .long), (jn3, .long)] (va_A [(mo, .inr (7, [.int th, .int (nI nb), .ref ma1, .ref ma2, .ref ma3, .int (nI nq), .ref mb1, .ref mb2, .int (nI ng), .ref mg1, .ref mg2, .int (nI nt), .ref mt1, .int (nI nn), .ref mn1, .ref mn2, .ref mn3, .ref ml1, .ref mw1])), (mg1, .inl (jg1, 4200, .inr (.inl gn))), (mg2, .inl (jg2, 4200, .inl gg)), (mn1, .inl (jn1, 300, .inl sd)), (mn2, .inl (jn2, 300, .inr (.inl rf))), (mn3, .inl (jn3, 300, .inr (.inl nm)))] sz)) (va_Qi (fun (r : Int32) (u : Nat × (Nat → Int32) × (Nat → Int64) × (Nat → Int64)) => (¬ zGiv ng gn gg p2 ∧ r = -101 ∧ u.1 = nn ∧ u.2.1 = sd ∧ u.2.2.1 = rf ∧ u.2.2.2 = nm) ∨ (zGiv ng gn gg p2 ∧ ((¬ (0 ≤ p0.toInt ∧ p0.toInt < 100 ∧ 0 ≤ p1.toInt) ∧ r = -102 ∧ u.1 = nn ∧ u.2.1 = sd ∧ u.2.2.1 = rf ∧ u.2.2.2 = nm) ∨ ((0 ≤ p0.toInt ∧ p0.toInt < 100 ∧ 0 ≤ p1.toInt) ∧ ((∃ j, j < nn ∧ (sd j = p0 ∧ rf j = p1) ∧ ((nm j = p2 ∧ r = 0) ∨ (¬ nm j = p2 ∧ r = -103)) ∧ u.1 = nn ∧ u.2.1 = sd ∧ u.2.2.1 = rf ∧ u.2.2.2 = nm) ∨ ((∀ j, j < nn → ¬ (sd j = p0 ∧ rf j = p1)) ∧ ((∃ j, j < nn ∧ (sd j = p0 ∧ nm j = p2) ∧ r = 2 ∧ u.1 = nn ∧ u.2.1 = sd ∧ u.2.2.1 = vp_updL rf j p1 ∧ u.2.2.2 = nm) ∨ ((∀ j, j < nn → ¬ (sd j = p0 ∧ nm j = p2)) ∧ ((nn = 300 ∧ r = -104 ∧ u.1 = nn ∧ u.2.1 = sd ∧ u.2.2.1 = rf ∧ u.2.2.2 = nm) ∨ (¬ nn = 300 ∧ r = 1 ∧ u.1 = nn + 1 ∧ u.2.1 = upd sd nn p0 ∧ u.2.2.1 = vp_updL rf nn p1 ∧ u.2.2.2 = vp_updL nm nn p2)))))))))) (zAt D [(jg1, .long), (jg2, .boolean), (jn1, .int), (jn2, .long), (jn3, .long)] (va_A [(mo, .inr (7, [.int th, .int (nI nb), .ref ma1, .ref ma2, .ref ma3, .int (nI nq), .ref mb1, .ref mb2, .int (nI ng), .ref mg1, .ref mg2, .int (nI nt), .ref mt1, .int (nI nn), .ref mn1, .ref mn2, .ref mn3, .ref ml1, .ref mw1])), (mg1, .inl (jg1, 4200, .inr (.inl gn))), (mg2, .inl (jg2, 4200, .inl gg)), (mn1, .inl (jn1, 300, .inl sd)), (mn2, .inl (jn2, 300, .inr (.inl rf))), (mn3, .inl (jn3, 300, .inr (.inl nm)))] sz) (fun u : Nat × (Nat → Int32) × (Nat → Int64) × (Nat → Int64) => [(mo, .inr (7, [.int 0, .int (nI nb), .ref ma1, .ref ma2, .ref ma3, .int (nI nq), .ref mb1, .ref mb2, .int (nI ng), .ref mg1, .ref mg2, .int (nI nt), .ref mt1, .int (nI u.1), .ref mn1, .ref mn2, .ref mn3, .ref ml1, .ref mw1])), (mg1, .inl (jg1, 4200, .inr (.inl gn))), (mg2, .inl (jg2, 4200, .inl gg)), (mn1, .inl (jn1, 300, .inl u.2.1)), (mn2, .inl (jn2, 300, .inr (.inl u.2.2.1))), (mn3, .inl (jn3, 300, .inr (.inl u.2.2.2)))])) (va_A [(mo, .inr (7, [.int th, .int (nI nb), .ref ma1, .ref ma2, .ref ma3, .int (nI nq), .ref mb1, .ref mb2, .int (nI ng), .ref mg1, .ref mg2, .int (nI nt), .ref mt1, .int (nI nn), .ref mn1, .ref mn2, .ref mn3, .ref ml1, .ref mw1])), (mg1, .inl (jg1, 4200, .inr (.inl gn))), (mg2, .inl (jg2, 4200, .inl gg)), (mn1, .inl (jn1, 300, .inl sd)), (mn2, .inl (jn2, 300, .inr (.inl rf))), (mn3, .inl (jn3, 300, .inr (.inl nm)))] sz)) 0 0 (va_A [(mo, .inr (7, [.int th, .int (nI nb), .ref ma1, .ref ma2, .ref ma3, .int (nI nq), .ref mb1, .ref mb2, .int (nI ng), .ref mg1, .ref mg2, .int (nI nt), .ref mt1, .int (nI nn), .ref mn1, .ref mn2, .ref mn3, .ref ml1, .ref mw1])), (mg1, .inl (jg1, 4200, .inr (.inl gn))), (mg2, .inl (jg2, 4200, .inl gg)), (mn1, .inl (jn1, 300, .inl sd)), (mn2, .inl (jn2, 300, .inr (.inl rf))), (mn3, .inl (jn3, 300, .inr (.inl nm)))] sz) := by
  refine Met.ofW (cc := cX7_map) (maxL := 9) (ret := (some .int)) (by decide) rfl ?_
  intro p e s m args below meth c s₁ B hml hv
  obtain ⟨rfl, hsz, hP, hK, hD, hC⟩ := hv
  have hx := B.exec
  have hb := B.bytes
  have hr := B.returns
  have hts := atoms_spec (ws := wsX7_map) B.pre
  have hown : s.vm.findClass RX7 = some m.cls := findClass_of_methodNamed B.named
  have hlocks := B.notSynchronized
  subst hsz
  have hD := hD.self (sz := s.heap.size)
  generalize hAe : va_A [(mo, .inr (7, [.int th, .int (nI nb), .ref ma1, .ref ma2, .ref ma3, .int (nI nq), .ref mb1, .ref mb2, .int (nI ng), .ref mg1, .ref mg2, .int (nI nt), .ref mt1, .int (nI nn), .ref mn1, .ref mn2, .ref mn3, .ref ml1, .ref mw1])), (mg1, .inl (jg1, 4200, .inr (.inl gn))), (mg2, .inl (jg2, 4200, .inl gg)), (mn1, .inl (jn1, 300, .inl sd)), (mn2, .inl (jn2, 300, .inr (.inl rf))), (mn3, .inl (jn3, 300, .inr (.inl nm)))] s.heap.size = A at hC hD ⊢
  have hA : ∀ q : Nat, s.heap.size ≤ q → A q := fun q h => by rw [← hAe]; exact Or.inr h
  have hS : va_S A s.heap s.heap [] := va_S.rf
  have hP : va_P D vwCl [(mo, .inr (7, [.int th, .int (nI nb), .ref ma1, .ref ma2, .ref ma3, .int (nI nq), .ref mb1, .ref mb2, .int (nI ng), .ref mg1, .ref mg2, .int (nI nt), .ref mt1, .int (nI nn), .ref mn1, .ref mn2, .ref mn3, .ref ml1, .ref mw1])), (mg1, .inl (jg1, 4200, .inr (.inl gn))), (mg2, .inl (jg2, 4200, .inl gg)), (mn1, .inl (jn1, 300, .inl sd)), (mn2, .inl (jn2, 300, .inr (.inl rf))), (mn3, .inl (jn3, 300, .inr (.inl nm)))] s.heap := hP
  have hl := lv_entry ([.ref mo, .int p0, .long p1, .long p2]) (n := 9) (Nat.le_of_ble_eq_true rfl)
  rw [lg_entry_eq]
  generalize (lg_sl ([.ref mo, .int p0, .long p1, .long p2]) ++ List.replicate (9 - (lg_sl ([.ref mo, .int p0, .long p1, .long p2])).length) Slot.unset).toArray = ls at hl ⊢
  have hl : lv_has ls 9 [(0, .ref mo), (1, .int p0), (2, .long p1), (4, .long p2)] := hl
  refine zNameH (D := D) (A := A) (ws := [(mo, .inr (7, [.int th, .int (nI nb), .ref ma1, .ref ma2, .ref ma3, .int (nI nq), .ref mb1, .ref mb2, .int (nI ng), .ref mg1, .ref mg2, .int (nI nt), .ref mt1, .int (nI nn), .ref mn1, .ref mn2, .ref mn3, .ref ml1, .ref mw1])), (mg1, .inl (jg1, 4200, .inr (.inl gn))), (mg2, .inl (jg2, 4200, .inl gg)), (mn1, .inl (jn1, 300, .inl sd)), (mn2, .inl (jn2, 300, .inr (.inl rf))), (mn3, .inl (jn3, 300, .inr (.inl nm)))]) (fun H locs hP hS => ?_) hP hS
  have k_0 := hts (.fieldLink RX7 55 "NumberRows2Model" "thrown" "I") (by decide +kernel)
  have k_1 : ∀ w ∈ wsX70, w ∈ wsX7_map := by decide +kernel
  have k_2 := hts (.constantLong RX7 58 (99)) (by decide +kernel)
  have k_3 := hts (.fieldLink RX7 126 "NumberRows2Model" "names" "I") (by decide +kernel)
  have k_4 := hts (.fieldLink RX7 36 "NumberRows2Model" "senders" "[I") (by decide +kernel)
  have k_5 := hts (.fieldLink RX7 39 "NumberRows2Model" "references" "[J") (by decide +kernel)
  have k_6 := hts (.fieldLink RX7 42 "NumberRows2Model" "named" "[J") (by decide +kernel)
  refine lv_aload_n hx hb dX7_map_0 rfl (lv_at hl 0 rfl) ?_
  refine lv_iconst (v := 0) hx hb dX7_map_1 (by decide) ?_
  refine va_put (D := D) (ci := 7) (v := .int 0) (ty := .int) (C := RX7) (T := TX7) (N := 19) hx hb hts k_1 tyX7 tyX7_ok nmX7 hown hK hP hD hS 0 rfl rfl 0 (by decide) k_0 (fun _ h9 => h9) rfl (by decide +kernel) rfl rfl (Nat.le_of_ble_eq_true rfl) dX7_map_2 (fun H locs hP hD hS => ?_)
  have hP : va_P D vwCl [(mo, .inr (7, [.int 0, .int (nI nb), .ref ma1, .ref ma2, .ref ma3, .int (nI nq), .ref mb1, .ref mb2, .int (nI ng), .ref mg1, .ref mg2, .int (nI nt), .ref mt1, .int (nI nn), .ref mn1, .ref mn2, .ref mn3, .ref ml1, .ref mw1])), (mg1, .inl (jg1, 4200, .inr (.inl gn))), (mg2, .inl (jg2, 4200, .inl gg)), (mn1, .inl (jn1, 300, .inl sd)), (mn2, .inl (jn2, 300, .inr (.inl rf))), (mn3, .inl (jn3, 300, .inr (.inl nm)))] H := hP
  have hD : va_D A [(mo, .inr (7, [.int 0, .int (nI nb), .ref ma1, .ref ma2, .ref ma3, .int (nI nq), .ref mb1, .ref mb2, .int (nI ng), .ref mg1, .ref mg2, .int (nI nt), .ref mt1, .int (nI nn), .ref mn1, .ref mn2, .ref mn3, .ref ml1, .ref mw1])), (mg1, .inl (jg1, 4200, .inr (.inl gn))), (mg2, .inl (jg2, 4200, .inl gg)), (mn1, .inl (jn1, 300, .inl sd)), (mn2, .inl (jn2, 300, .inr (.inl rf))), (mn3, .inl (jn3, 300, .inr (.inl nm)))] := hD
  refine lv_aload_n hx hb dX7_map_5 rfl (lv_at hl 0 rfl) ?_
  refine lv_lload hx hb dX7_map_6 (lv_at hl 3 rfl) ?_
  refine zRo_i (va_runV (As := [.long p2]) (rest := []) ⟨hx, hb, hml, hown, hts⟩ (mx_find l D z H.size mo ma1 ma2 ma3 mb1 mb2 mg1 mg2 mt1 mn1 mn2 mn3 ml1 mw1 (0 : Int32) nb nq ng nt nn jg1 gn jg2 gg p2 (by omega)) (cwV 1 hts gX7_map_X7_find rfl rfl rfl (by decide +kernel) ⟨Nat.le_of_ble_eq_true rfl, Nat.le_of_ble_eq_true rfl⟩) ⟨zPre_blind, va_recv hK hP (ci := 7) (q0 := 0) rfl rfl, (zPre_mk (wc := [(mo, .inr (7, [.int (0 : Int32), .int (nI nb), .ref ma1, .ref ma2, .ref ma3, .int (nI nq), .ref mb1, .ref mb2, .int (nI ng), .ref mg1, .ref mg2, .int (nI nt), .ref mt1, .int (nI nn), .ref mn1, .ref mn2, .ref mn3, .ref ml1, .ref mw1])), (mg1, .inl (jg1, 4200, .inr (.inl gn))), (mg2, .inl (jg2, 4200, .inl gg))]) (tc := [(jg1, .long), (jg2, .boolean)]) hP hK hD hC hS [0, 1, 2] (by decide) rfl rfl [0, 1] rfl (zro_free hS hA))⟩ rfl rfl hl.1 rfl (lv_room (Nat.le_of_ble_eq_true rfl)) dX7_map_8 ⟨Nat.zero_le _, Nat.zero_le _⟩) hS hA hP (fun r_8 H locs hw hP hS => ?_)
  have hw_8 : (∃ k, k < ng ∧ gn k = p2 ∧ gg k = 0 ∧ r_8 = nI k) ∨ ((∀ k, k < ng → ¬ (gn k = p2 ∧ gg k = 0)) ∧ r_8 = -1) := hw
  refine lv_if_ge (tgt := 17) hx hb dX7_map_11 (by decide) (fun c_11 => ?_) (fun c_11 => ?_)
  · have i_11 : 0 ≤ r_8.toInt := zi_le.mp c_11
    have hgv : zGiv ng gn gg p2 := by rcases zfnd hw_8 hg with q | q; exact q.2; exact absurd q.1 (by omega)
    refine lv_iload_n hx hb dX7_map_17 rfl (lv_at hl 1 rfl) ?_
    refine lv_i2l (v := p0.toInt64) hx hb dX7_map_18 rfl ?_
    refine lv_lconst (v := 0) hx hb dX7_map_19 (by decide) ?_
    refine lv_ldc2 hx hb hown k_2 dX7_map_20 ?_
    refine zRo_i (va_runS (As := [.long p0.toInt64, .long 0, .long 99]) (rest := []) ⟨hx, hb, hml, hown, hts⟩ (mx_isIn l D z H.size p0.toInt64 (0 : Int64) (99 : Int64) ) (va_cwS 3 hts gX7_map_X7_isIn rfl rfl rfl (by decide +kernel) ⟨Nat.le_of_ble_eq_true rfl, Nat.le_of_ble_eq_true rfl⟩) ⟨zPre_blind, (zPre_mk (wc := []) (tc := []) hP hK hD hC hS [] (by decide) rfl rfl [] rfl (zro_free hS hA))⟩ rfl rfl hl.1 rfl (lv_room (Nat.le_of_ble_eq_true rfl)) dX7_map_23 ⟨Nat.zero_le _, Nat.zero_le _⟩) hS hA hP (fun r_23 H locs hw hP hS => ?_)
    have hw_23 : zB r_23 (0 ≤ p0.toInt64.toInt ∧ p0.toInt64.toInt ≤ 99) := hw
    rw [zi_l] at hw_23
    refine lv_if_eq (tgt := 35) hx hb dX7_map_26 (by decide) (fun c_26 => ?_) (fun c_26 => ?_)
    · have i_26 : r_23.toInt = 0 := zi_eq.mp c_26
      refine lv_bipush (v := -102) hx hb dX7_map_35 (by decide) ?_
      exact W.iret (v := (-102)) hx hb hr (fun t9 ht9 hW9 => ⟨⟨_, (nn, sd, rf, nm), rfl, Or.inr ⟨hgv, Or.inl ⟨fun q => zB_eq hw_23 c_26 (by omega), rfl, rfl, rfl, rfl, rfl⟩⟩, by rw [ht9]; exact hP, va_K.moved hW9.alike hK, hD⟩, hS.F ht9⟩) hS.2.2 dX7_map_37
    · have i_26 : ¬ (r_23.toInt = 0) := fun q9 => c_26 (zi_eq.mpr q9)
      refine lv_lload_n hx hb dX7_map_29 rfl (lv_at hl 2 rfl) ?_
      refine lv_lconst (v := 0) hx hb dX7_map_30 (by decide) ?_
      refine W.lcmp hx hb dX7_map_31 ?_
      refine lv_if_ge (tgt := 38) hx hb dX7_map_32 (by decide) (fun c_32 => ?_) (fun c_32 => ?_)
      · have c_32 : 0 ≤ p1 := (lg_cmp_ge _ _).mp c_32
        have i_32 : 0 ≤ p1.toInt := zl_le.mp c_32
        have hok : 0 ≤ p0.toInt ∧ p0.toInt < 100 ∧ 0 ≤ p1.toInt := by have := zB_ne hw_23 c_26; omega
        refine lv_iconst (v := -1) hx hb dX7_map_38 (by decide) ?_
        refine lv_istore (lv' := [(6, .int (-1)), (0, .ref mo), (1, .int p0), (2, .long p1), (4, .long p2)]) hx hb dX7_map_39 hl (by decide) rfl (fun ls hl => ?_)
        refine lv_iconst (v := -1) hx hb dX7_map_41 (by decide) ?_
        refine lv_istore (lv' := [(7, .int (-1)), (6, .int (-1)), (0, .ref mo), (1, .int p0), (2, .long p1), (4, .long p2)]) hx hb dX7_map_42 hl (by decide) rfl (fun ls hl => ?_)
        refine lv_iconst (v := 0) hx hb dX7_map_44 (by decide) ?_
        refine lv_istore (lv' := [(8, .int 0), (7, .int (-1)), (6, .int (-1)), (0, .ref mo), (1, .int p0), (2, .long p1), (4, .long p2)]) hx hb dX7_map_45 hl (by decide) rfl (fun ls hl => ?_)
        refine zLoop (σ := Nat × Int32 × Int32) (nL := 9) (μ := fun (x : Nat × Int32 × Int32) => match x with | (i, x6, x7) => nn - i) (lv := fun (x : Nat × Int32 × Int32) => match x with | (i, x6, x7) => [(8, .int (nI i)), (0, .ref mo), (1, .int p0), (2, .long p1), (4, .long p2), (6, .int x6), (7, .int x7)]) (wf := fun (x : Nat × Int32 × Int32) => match x with | (i, x6, x7) => [(mo, .inr (7, [.int 0, .int (nI nb), .ref ma1, .ref ma2, .ref ma3, .int (nI nq), .ref mb1, .ref mb2, .int (nI ng), .ref mg1, .ref mg2, .int (nI nt), .ref mt1, .int (nI nn), .ref mn1, .ref mn2, .ref mn3, .ref ml1, .ref mw1])), (mg1, .inl (jg1, 4200, .inr (.inl gn))), (mg2, .inl (jg2, 4200, .inl gg)), (mn1, .inl (jn1, 300, .inl sd)), (mn2, .inl (jn2, 300, .inr (.inl rf))), (mn3, .inl (jn3, 300, .inr (.inl nm)))]) (I := fun (x : Nat × Int32 × Int32) => match x with | (i, x6, x7) => i ≤ nn ∧ zLs (fun j => sd j = p0 ∧ rf j = p1) i x6 ∧ zLs (fun j => sd j = p0 ∧ nm j = p2) i x7) (fun x H locs ls hI hP hD hS hl ih => ?_) (0, (-1), (-1)) ⟨Nat.zero_le _, zLs_0, zLs_0⟩ hP hD hS (lv_sub hl [0, 3, 4, 5, 6, 2, 1] rfl)
        obtain ⟨i, x6, x7⟩ := x
        have hI : i ≤ nn ∧ zLs (fun j => sd j = p0 ∧ rf j = p1) i x6 ∧ zLs (fun j => sd j = p0 ∧ nm j = p2) i x7 := hI
        have hl : lv_has ls 9 [(8, .int (nI i)), (0, .ref mo), (1, .int p0), (2, .long p1), (4, .long p2), (6, .int x6), (7, .int x7)] := hl
        have hP : va_P D vwCl [(mo, .inr (7, [.int 0, .int (nI nb), .ref ma1, .ref ma2, .ref ma3, .int (nI nq), .ref mb1, .ref mb2, .int (nI ng), .ref mg1, .ref mg2, .int (nI nt), .ref mt1, .int (nI nn), .ref mn1, .ref mn2, .ref mn3, .ref ml1, .ref mw1])), (mg1, .inl (jg1, 4200, .inr (.inl gn))), (mg2, .inl (jg2, 4200, .inl gg)), (mn1, .inl (jn1, 300, .inl sd)), (mn2, .inl (jn2, 300, .inr (.inl rf))), (mn3, .inl (jn3, 300, .inr (.inl nm)))] H := hP
        have hD : va_D A [(mo, .inr (7, [.int 0, .int (nI nb), .ref ma1, .ref ma2, .ref ma3, .int (nI nq), .ref mb1, .ref mb2, .int (nI ng), .ref mg1, .ref mg2, .int (nI nt), .ref mt1, .int (nI nn), .ref mn1, .ref mn2, .ref mn3, .ref ml1, .ref mw1])), (mg1, .inl (jg1, 4200, .inr (.inl gn))), (mg2, .inl (jg2, 4200, .inl gg)), (mn1, .inl (jn1, 300, .inl sd)), (mn2, .inl (jn2, 300, .inr (.inl rf))), (mn3, .inl (jn3, 300, .inr (.inl nm)))] := hD
        have h1 := hI.1
        refine lv_iload hx hb dX7_map_47 (lv_at hl 0 rfl) ?_
        refine lv_aload_n hx hb dX7_map_49 rfl (lv_at hl 1 rfl) ?_
        refine va_get (D := D) (ci := 7) (v := .int (nI nn)) (C := RX7) (T := TX7) (N := 19) hx hb hts k_1 hown hK hP 0 rfl rfl 13 (by decide) k_3 (fun _ h9 => h9) rfl dX7_map_50 ?_
        refine lv_icmp_ge (tgt := 116) hx hb dX7_map_53 (by decide) (fun c_53 => ?_) (fun c_53 => ?_)
        · have c_53 : nn ≤ i := (nI_leI (a := nn) (b := i) (by omega) (by omega)).mp c_53
          refine lv_iload hx hb dX7_map_116 (lv_at hl 5 rfl) ?_
          refine lv_if_lt (tgt := 141) hx hb dX7_map_118 (by decide) (fun c_118 => ?_) (fun c_118 => ?_)
          · have i_118 : x6.toInt < 0 := zi_lt.mp c_118
            have e9 : nn = i := (by omega)
            subst e9
            have hno := zLs_neg hI.2.1 (by omega) i_118
            refine lv_iload hx hb dX7_map_141 (lv_at hl 6 rfl) ?_
            refine lv_if_lt (tgt := 156) hx hb dX7_map_143 (by decide) (fun c_143 => ?_) (fun c_143 => ?_)
            · have i_143 : x7.toInt < 0 := zi_lt.mp c_143
              have hns := zLs_neg hI.2.2 (by omega) i_143
              refine lv_aload_n hx hb dX7_map_156 rfl (lv_at hl 1 rfl) ?_
              refine va_get (D := D) (ci := 7) (v := .int (nI nn)) (C := RX7) (T := TX7) (N := 19) hx hb hts k_1 hown hK hP 0 rfl rfl 13 (by decide) k_3 (fun _ h9 => h9) rfl dX7_map_157 ?_
              refine lv_sipush (v := 300) hx hb dX7_map_160 (by decide) ?_
              refine lv_icmp_ne (tgt := 169) hx hb dX7_map_163 (by decide) (fun c_163 => ?_) (fun c_163 => ?_)
              · have c_163 : ¬ (nn = 300) := fun q9 => c_163 ((nI_eq (a := nn) (b := 300) (by omega) (by omega)).mpr q9)
                refine lv_aload_n hx hb dX7_map_169 rfl (lv_at hl 1 rfl) ?_
                refine va_get (D := D) (ci := 7) (v := .ref mn1) (C := RX7) (T := TX7) (N := 19) hx hb hts k_1 hown hK hP 0 rfl rfl 14 (by decide) k_4 (fun _ h9 => h9) rfl dX7_map_170 ?_
                refine lv_aload_n hx hb dX7_map_173 rfl (lv_at hl 1 rfl) ?_
                refine va_get (D := D) (ci := 7) (v := .int (nI nn)) (C := RX7) (T := TX7) (N := 19) hx hb hts k_1 hown hK hP 0 rfl rfl 13 (by decide) k_3 (fun _ h9 => h9) rfl dX7_map_174 ?_
                refine lv_iload_n hx hb dX7_map_177 rfl (lv_at hl 2 rfl) ?_
                refine z_iast (k := nn) hx hb hK hP hD hS 3 2 rfl rfl (by omega) (by decide) dX7_map_178 (fun H locs hP hD hS => ?_)
                have hP : va_P D vwCl [(mo, .inr (7, [.int 0, .int (nI nb), .ref ma1, .ref ma2, .ref ma3, .int (nI nq), .ref mb1, .ref mb2, .int (nI ng), .ref mg1, .ref mg2, .int (nI nt), .ref mt1, .int (nI nn), .ref mn1, .ref mn2, .ref mn3, .ref ml1, .ref mw1])), (mg1, .inl (jg1, 4200, .inr (.inl gn))), (mg2, .inl (jg2, 4200, .inl gg)), (mn1, .inl (jn1, 300, .inl (upd sd nn p0))), (mn2, .inl (jn2, 300, .inr (.inl rf))), (mn3, .inl (jn3, 300, .inr (.inl nm)))] H := hP
                have hD : va_D A [(mo, .inr (7, [.int 0, .int (nI nb), .ref ma1, .ref ma2, .ref ma3, .int (nI nq), .ref mb1, .ref mb2, .int (nI ng), .ref mg1, .ref mg2, .int (nI nt), .ref mt1, .int (nI nn), .ref mn1, .ref mn2, .ref mn3, .ref ml1, .ref mw1])), (mg1, .inl (jg1, 4200, .inr (.inl gn))), (mg2, .inl (jg2, 4200, .inl gg)), (mn1, .inl (jn1, 300, .inl (upd sd nn p0))), (mn2, .inl (jn2, 300, .inr (.inl rf))), (mn3, .inl (jn3, 300, .inr (.inl nm)))] := hD
                refine lv_aload_n hx hb dX7_map_179 rfl (lv_at hl 1 rfl) ?_
                refine va_get (D := D) (ci := 7) (v := .ref mn2) (C := RX7) (T := TX7) (N := 19) hx hb hts k_1 hown hK hP 0 rfl rfl 15 (by decide) k_5 (fun _ h9 => h9) rfl dX7_map_180 ?_
                refine lv_aload_n hx hb dX7_map_183 rfl (lv_at hl 1 rfl) ?_
                refine va_get (D := D) (ci := 7) (v := .int (nI nn)) (C := RX7) (T := TX7) (N := 19) hx hb hts k_1 hown hK hP 0 rfl rfl 13 (by decide) k_3 (fun _ h9 => h9) rfl dX7_map_184 ?_
                refine lv_lload_n hx hb dX7_map_187 rfl (lv_at hl 3 rfl) ?_
                refine z_last (k := nn) hx hb hK hP hD hS 4 3 rfl rfl (by omega) (by decide) dX7_map_188 (fun H locs hP hD hS => ?_)
                have hP : va_P D vwCl [(mo, .inr (7, [.int 0, .int (nI nb), .ref ma1, .ref ma2, .ref ma3, .int (nI nq), .ref mb1, .ref mb2, .int (nI ng), .ref mg1, .ref mg2, .int (nI nt), .ref mt1, .int (nI nn), .ref mn1, .ref mn2, .ref mn3, .ref ml1, .ref mw1])), (mg1, .inl (jg1, 4200, .inr (.inl gn))), (mg2, .inl (jg2, 4200, .inl gg)), (mn1, .inl (jn1, 300, .inl (upd sd nn p0))), (mn2, .inl (jn2, 300, .inr (.inl (vp_updL rf nn p1)))), (mn3, .inl (jn3, 300, .inr (.inl nm)))] H := hP
                have hD : va_D A [(mo, .inr (7, [.int 0, .int (nI nb), .ref ma1, .ref ma2, .ref ma3, .int (nI nq), .ref mb1, .ref mb2, .int (nI ng), .ref mg1, .ref mg2, .int (nI nt), .ref mt1, .int (nI nn), .ref mn1, .ref mn2, .ref mn3, .ref ml1, .ref mw1])), (mg1, .inl (jg1, 4200, .inr (.inl gn))), (mg2, .inl (jg2, 4200, .inl gg)), (mn1, .inl (jn1, 300, .inl (upd sd nn p0))), (mn2, .inl (jn2, 300, .inr (.inl (vp_updL rf nn p1)))), (mn3, .inl (jn3, 300, .inr (.inl nm)))] := hD
                refine lv_aload_n hx hb dX7_map_189 rfl (lv_at hl 1 rfl) ?_
                refine va_get (D := D) (ci := 7) (v := .ref mn3) (C := RX7) (T := TX7) (N := 19) hx hb hts k_1 hown hK hP 0 rfl rfl 16 (by decide) k_6 (fun _ h9 => h9) rfl dX7_map_190 ?_
                refine lv_aload_n hx hb dX7_map_193 rfl (lv_at hl 1 rfl) ?_
                refine va_get (D := D) (ci := 7) (v := .int (nI nn)) (C := RX7) (T := TX7) (N := 19) hx hb hts k_1 hown hK hP 0 rfl rfl 13 (by decide) k_3 (fun _ h9 => h9) rfl dX7_map_194 ?_
                refine lv_lload hx hb dX7_map_197 (lv_at hl 4 rfl) ?_
                refine z_last (k := nn) hx hb hK hP hD hS 5 4 rfl rfl (by omega) (by decide) dX7_map_199 (fun H locs hP hD hS => ?_)
                have hP : va_P D vwCl [(mo, .inr (7, [.int 0, .int (nI nb), .ref ma1, .ref ma2, .ref ma3, .int (nI nq), .ref mb1, .ref mb2, .int (nI ng), .ref mg1, .ref mg2, .int (nI nt), .ref mt1, .int (nI nn), .ref mn1, .ref mn2, .ref mn3, .ref ml1, .ref mw1])), (mg1, .inl (jg1, 4200, .inr (.inl gn))), (mg2, .inl (jg2, 4200, .inl gg)), (mn1, .inl (jn1, 300, .inl (upd sd nn p0))), (mn2, .inl (jn2, 300, .inr (.inl (vp_updL rf nn p1)))), (mn3, .inl (jn3, 300, .inr (.inl (vp_updL nm nn p2))))] H := hP
                have hD : va_D A [(mo, .inr (7, [.int 0, .int (nI nb), .ref ma1, .ref ma2, .ref ma3, .int (nI nq), .ref mb1, .ref mb2, .int (nI ng), .ref mg1, .ref mg2, .int (nI nt), .ref mt1, .int (nI nn), .ref mn1, .ref mn2, .ref mn3, .ref ml1, .ref mw1])), (mg1, .inl (jg1, 4200, .inr (.inl gn))), (mg2, .inl (jg2, 4200, .inl gg)), (mn1, .inl (jn1, 300, .inl (upd sd nn p0))), (mn2, .inl (jn2, 300, .inr (.inl (vp_updL rf nn p1)))), (mn3, .inl (jn3, 300, .inr (.inl (vp_updL nm nn p2))))] := hD
                refine lv_aload_n hx hb dX7_map_200 rfl (lv_at hl 1 rfl) ?_
                refine lv_dup hx hb dX7_map_201 rfl ?_
                refine va_get (D := D) (ci := 7) (v := .int (nI nn)) (C := RX7) (T := TX7) (N := 19) hx hb hts k_1 hown hK hP 0 rfl rfl 13 (by decide) k_3 (fun _ h9 => h9) rfl dX7_map_202 ?_
                refine lv_iconst (v := 1) hx hb dX7_map_205 (by decide) ?_
                refine lv_iadd hx hb dX7_map_206 ?_
                refine lv_topi (fun y_1 e_1 => ?_)
                obtain rfl : y_1 = nI (nn + 1) := e_1.trans (by first | exact nI_1 _ | exact nI_add _ 1)
                refine va_put (D := D) (ci := 7) (v := .int (nI (nn + 1))) (ty := .int) (C := RX7) (T := TX7) (N := 19) hx hb hts k_1 tyX7 tyX7_ok nmX7 hown hK hP hD hS 0 rfl rfl 13 (by decide) k_3 (fun _ h9 => h9) rfl (by decide +kernel) rfl rfl (Nat.le_of_ble_eq_true rfl) dX7_map_207 (fun H locs hP hD hS => ?_)
                have hP : va_P D vwCl [(mo, .inr (7, [.int 0, .int (nI nb), .ref ma1, .ref ma2, .ref ma3, .int (nI nq), .ref mb1, .ref mb2, .int (nI ng), .ref mg1, .ref mg2, .int (nI nt), .ref mt1, .int (nI (nn + 1)), .ref mn1, .ref mn2, .ref mn3, .ref ml1, .ref mw1])), (mg1, .inl (jg1, 4200, .inr (.inl gn))), (mg2, .inl (jg2, 4200, .inl gg)), (mn1, .inl (jn1, 300, .inl (upd sd nn p0))), (mn2, .inl (jn2, 300, .inr (.inl (vp_updL rf nn p1)))), (mn3, .inl (jn3, 300, .inr (.inl (vp_updL nm nn p2))))] H := hP
                have hD : va_D A [(mo, .inr (7, [.int 0, .int (nI nb), .ref ma1, .ref ma2, .ref ma3, .int (nI nq), .ref mb1, .ref mb2, .int (nI ng), .ref mg1, .ref mg2, .int (nI nt), .ref mt1, .int (nI (nn + 1)), .ref mn1, .ref mn2, .ref mn3, .ref ml1, .ref mw1])), (mg1, .inl (jg1, 4200, .inr (.inl gn))), (mg2, .inl (jg2, 4200, .inl gg)), (mn1, .inl (jn1, 300, .inl (upd sd nn p0))), (mn2, .inl (jn2, 300, .inr (.inl (vp_updL rf nn p1)))), (mn3, .inl (jn3, 300, .inr (.inl (vp_updL nm nn p2))))] := hD
                refine lv_iconst (v := 1) hx hb dX7_map_210 (by decide) ?_
                exact W.iret (v := 1) hx hb hr (fun t9 ht9 hW9 => ⟨⟨_, ((nn + 1), (upd sd nn p0), (vp_updL rf nn p1), (vp_updL nm nn p2)), rfl, Or.inr ⟨hgv, Or.inr ⟨hok, Or.inr ⟨hno, Or.inr ⟨hns, Or.inr ⟨c_163, rfl, rfl, rfl, rfl, rfl⟩⟩⟩⟩⟩, by rw [ht9]; exact hP, va_K.moved hW9.alike hK, hD⟩, hS.F ht9⟩) hS.2.2 dX7_map_211
              · have c_163 : nn = 300 := (nI_eq (a := nn) (b := 300) (by omega) (by omega)).mp c_163
                refine lv_bipush (v := -104) hx hb dX7_map_166 (by decide) ?_
                exact W.iret (v := (-104)) hx hb hr (fun t9 ht9 hW9 => ⟨⟨_, (nn, sd, rf, nm), rfl, Or.inr ⟨hgv, Or.inr ⟨hok, Or.inr ⟨hno, Or.inr ⟨hns, Or.inl ⟨c_163, rfl, rfl, rfl, rfl, rfl⟩⟩⟩⟩⟩, by rw [ht9]; exact hP, va_K.moved hW9.alike hK, hD⟩, hS.F ht9⟩) hS.2.2 dX7_map_168
            · have i_143 : ¬ (x7.toInt < 0) := fun q9 => c_143 (zi_lt.mpr q9)
              obtain ⟨j7, hj7, hp7, rfl⟩ := zLs_pos hI.2.2 i_143
              have hl : lv_has ls 9 [(8, .int (nI nn)), (0, .ref mo), (1, .int p0), (2, .long p1), (4, .long p2), (6, .int x6), (7, .int (nI j7))] := hl
              refine lv_aload_n hx hb dX7_map_146 rfl (lv_at hl 1 rfl) ?_
              refine va_get (D := D) (ci := 7) (v := .ref mn2) (C := RX7) (T := TX7) (N := 19) hx hb hts k_1 hown hK hP 0 rfl rfl 15 (by decide) k_5 (fun _ h9 => h9) rfl dX7_map_147 ?_
              refine lv_iload hx hb dX7_map_150 (lv_at hl 6 rfl) ?_
              refine lv_lload_n hx hb dX7_map_152 rfl (lv_at hl 3 rfl) ?_
              refine z_last (k := j7) hx hb hK hP hD hS 4 3 rfl rfl (by omega) (by decide) dX7_map_153 (fun H locs hP hD hS => ?_)
              have hP : va_P D vwCl [(mo, .inr (7, [.int 0, .int (nI nb), .ref ma1, .ref ma2, .ref ma3, .int (nI nq), .ref mb1, .ref mb2, .int (nI ng), .ref mg1, .ref mg2, .int (nI nt), .ref mt1, .int (nI nn), .ref mn1, .ref mn2, .ref mn3, .ref ml1, .ref mw1])), (mg1, .inl (jg1, 4200, .inr (.inl gn))), (mg2, .inl (jg2, 4200, .inl gg)), (mn1, .inl (jn1, 300, .inl sd)), (mn2, .inl (jn2, 300, .inr (.inl (vp_updL rf j7 p1)))), (mn3, .inl (jn3, 300, .inr (.inl nm)))] H := hP
              have hD : va_D A [(mo, .inr (7, [.int 0, .int (nI nb), .ref ma1, .ref ma2, .ref ma3, .int (nI nq), .ref mb1, .ref mb2, .int (nI ng), .ref mg1, .ref mg2, .int (nI nt), .ref mt1, .int (nI nn), .ref mn1, .ref mn2, .ref mn3, .ref ml1, .ref mw1])), (mg1, .inl (jg1, 4200, .inr (.inl gn))), (mg2, .inl (jg2, 4200, .inl gg)), (mn1, .inl (jn1, 300, .inl sd)), (mn2, .inl (jn2, 300, .inr (.inl (vp_updL rf j7 p1)))), (mn3, .inl (jn3, 300, .inr (.inl nm)))] := hD
              refine lv_iconst (v := 2) hx hb dX7_map_154 (by decide) ?_
              exact W.iret (v := 2) hx hb hr (fun t9 ht9 hW9 => ⟨⟨_, (nn, sd, (vp_updL rf j7 p1), nm), rfl, Or.inr ⟨hgv, Or.inr ⟨hok, Or.inr ⟨hno, Or.inl ⟨j7, by omega, hp7, rfl, rfl, rfl, rfl, rfl⟩⟩⟩⟩, by rw [ht9]; exact hP, va_K.moved hW9.alike hK, hD⟩, hS.F ht9⟩) hS.2.2 dX7_map_155
          · have i_118 : ¬ (x6.toInt < 0) := fun q9 => c_118 (zi_lt.mpr q9)
            obtain ⟨j6, hj6, hp6, rfl⟩ := zLs_pos hI.2.1 i_118
            have hl : lv_has ls 9 [(8, .int (nI i)), (0, .ref mo), (1, .int p0), (2, .long p1), (4, .long p2), (6, .int (nI j6)), (7, .int x7)] := hl
            have e9 : nn = i := (by omega)
            subst e9
            refine lv_aload_n hx hb dX7_map_121 rfl (lv_at hl 1 rfl) ?_
            refine va_get (D := D) (ci := 7) (v := .ref mn3) (C := RX7) (T := TX7) (N := 19) hx hb hts k_1 hown hK hP 0 rfl rfl 16 (by decide) k_6 (fun _ h9 => h9) rfl dX7_map_122 ?_
            refine lv_iload hx hb dX7_map_125 (lv_at hl 5 rfl) ?_
            refine z_lald (k := j6) hx hb hK hP 5 4 rfl rfl (by omega) (by decide) dX7_map_127 ?_
            refine lv_lload hx hb dX7_map_128 (lv_at hl 4 rfl) ?_
            refine W.lcmp hx hb dX7_map_130 ?_
            refine lv_if_ne (tgt := 138) hx hb dX7_map_131 (by decide) (fun c_131 => ?_) (fun c_131 => ?_)
            · have c_131 : ¬ ((nm j6) = p2) := fun q9 => c_131 ((lg_cmp_eq _ _).mpr q9)
              have i_131 : ¬ ((nm j6).toInt = p2.toInt) := fun q9 => c_131 (zl_eq.mpr q9)
              refine lv_bipush (v := -103) hx hb dX7_map_138 (by decide) ?_
              exact W.iret (v := (-103)) hx hb hr (fun t9 ht9 hW9 => ⟨⟨_, (nn, sd, rf, nm), rfl, Or.inr ⟨hgv, Or.inr ⟨hok, Or.inl ⟨j6, by omega, hp6, Or.inr ⟨c_131, rfl⟩, rfl, rfl, rfl, rfl⟩⟩⟩, by rw [ht9]; exact hP, va_K.moved hW9.alike hK, hD⟩, hS.F ht9⟩) hS.2.2 dX7_map_140
            · have c_131 : (nm j6) = p2 := (lg_cmp_eq _ _).mp c_131
              have i_131 : (nm j6).toInt = p2.toInt := zl_eq.mp c_131
              refine lv_iconst (v := 0) hx hb dX7_map_134 (by decide) ?_
              refine lv_goto (tgt := 140) hx hb dX7_map_135 (by decide) ?_
              exact W.iret (v := 0) hx hb hr (fun t9 ht9 hW9 => ⟨⟨_, (nn, sd, rf, nm), rfl, Or.inr ⟨hgv, Or.inr ⟨hok, Or.inl ⟨j6, by omega, hp6, Or.inl ⟨c_131, rfl⟩, rfl, rfl, rfl, rfl⟩⟩⟩, by rw [ht9]; exact hP, va_K.moved hW9.alike hK, hD⟩, hS.F ht9⟩) hS.2.2 dX7_map_140
        · have c_53 : ¬ (nn ≤ i) := fun q9 => c_53 ((nI_leI (a := nn) (b := i) (by omega) (by omega)).mpr q9)
          refine lv_aload_n hx hb dX7_map_56 rfl (lv_at hl 1 rfl) ?_
          refine va_get (D := D) (ci := 7) (v := .ref mn1) (C := RX7) (T := TX7) (N := 19) hx hb hts k_1 hown hK hP 0 rfl rfl 14 (by decide) k_4 (fun _ h9 => h9) rfl dX7_map_57 ?_
          refine lv_iload hx hb dX7_map_60 (lv_at hl 0 rfl) ?_
          refine z_iald (k := i) hx hb hK hP 3 2 rfl rfl (by omega) (by decide) dX7_map_62 ?_
          refine lv_iload_n hx hb dX7_map_63 rfl (lv_at hl 2 rfl) ?_
          refine lv_icmp_ne (tgt := 110) hx hb dX7_map_64 (by decide) (fun c_64 => ?_) (fun c_64 => ?_)
          · have i_64 : ¬ ((sd i).toInt = p0.toInt) := fun q9 => c_64 (zi_eq.mpr q9)
            refine lv_iinc (v := (nI (i + 1))) (lv' := [(8, .int (nI (i + 1))), (0, .ref mo), (1, .int p0), (2, .long p1), (4, .long p2), (6, .int x6), (7, .int x7)]) hx hb dX7_map_110 hl (k := 0) rfl (by first | exact nI_1 _ | rfl) (by decide) rfl (fun ls hl => ?_)
            refine lv_goto (tgt := 47) hx hb dX7_map_113 (by decide) ?_
            exact ih (i + 1, x6, x7) _ _ _ (show nn - (i + 1) < nn - i from (by omega)) ⟨by omega, zLs_no hI.2.1 (fun q => c_64 q.1), zLs_no hI.2.2 (fun q => c_64 q.1)⟩ hP hD hS (lv_sub hl [0, 1, 2, 3, 4, 5, 6] rfl)
          · have i_64 : (sd i).toInt = p0.toInt := zi_eq.mp c_64
            refine lv_aload_n hx hb dX7_map_67 rfl (lv_at hl 1 rfl) ?_
            refine va_get (D := D) (ci := 7) (v := .ref mn2) (C := RX7) (T := TX7) (N := 19) hx hb hts k_1 hown hK hP 0 rfl rfl 15 (by decide) k_5 (fun _ h9 => h9) rfl dX7_map_68 ?_
            refine lv_iload hx hb dX7_map_71 (lv_at hl 0 rfl) ?_
            refine z_lald (k := i) hx hb hK hP 4 3 rfl rfl (by omega) (by decide) dX7_map_73 ?_
            refine lv_lload_n hx hb dX7_map_74 rfl (lv_at hl 3 rfl) ?_
            refine W.lcmp hx hb dX7_map_75 ?_
            refine lv_if_ne (tgt := 84) hx hb dX7_map_76 (by decide) (fun c_76 => ?_) (fun c_76 => ?_)
            · have c_76 : ¬ ((rf i) = p1) := fun q9 => c_76 ((lg_cmp_eq _ _).mpr q9)
              have i_76 : ¬ ((rf i).toInt = p1.toInt) := fun q9 => c_76 (zl_eq.mpr q9)
              refine lv_iload hx hb dX7_map_84 (lv_at hl 5 rfl) ?_
              refine lv_istore (lv' := [(6, .int x6), (8, .int (nI i)), (0, .ref mo), (1, .int p0), (2, .long p1), (4, .long p2), (7, .int x7)]) hx hb dX7_map_86 hl (by decide) rfl (fun ls hl => ?_)
              refine lv_aload_n hx hb dX7_map_88 rfl (lv_at hl 2 rfl) ?_
              refine va_get (D := D) (ci := 7) (v := .ref mn3) (C := RX7) (T := TX7) (N := 19) hx hb hts k_1 hown hK hP 0 rfl rfl 16 (by decide) k_6 (fun _ h9 => h9) rfl dX7_map_89 ?_
              refine lv_iload hx hb dX7_map_92 (lv_at hl 1 rfl) ?_
              refine z_lald (k := i) hx hb hK hP 5 4 rfl rfl (by omega) (by decide) dX7_map_94 ?_
              refine lv_lload hx hb dX7_map_95 (lv_at hl 5 rfl) ?_
              refine W.lcmp hx hb dX7_map_97 ?_
              refine lv_if_ne (tgt := 106) hx hb dX7_map_98 (by decide) (fun c_98 => ?_) (fun c_98 => ?_)
              · have c_98 : ¬ ((nm i) = p2) := fun q9 => c_98 ((lg_cmp_eq _ _).mpr q9)
                have i_98 : ¬ ((nm i).toInt = p2.toInt) := fun q9 => c_98 (zl_eq.mpr q9)
                refine lv_iload hx hb dX7_map_106 (lv_at hl 6 rfl) ?_
                refine lv_istore (lv' := [(7, .int x7), (6, .int x6), (8, .int (nI i)), (0, .ref mo), (1, .int p0), (2, .long p1), (4, .long p2)]) hx hb dX7_map_108 hl (by decide) rfl (fun ls hl => ?_)
                refine lv_iinc (v := (nI (i + 1))) (lv' := [(8, .int (nI (i + 1))), (7, .int x7), (6, .int x6), (0, .ref mo), (1, .int p0), (2, .long p1), (4, .long p2)]) hx hb dX7_map_110 hl (k := 2) rfl (by first | exact nI_1 _ | rfl) (by decide) rfl (fun ls hl => ?_)
                refine lv_goto (tgt := 47) hx hb dX7_map_113 (by decide) ?_
                exact ih (i + 1, x6, x7) _ _ _ (show nn - (i + 1) < nn - i from (by omega)) ⟨by omega, zLs_no hI.2.1 (fun q => c_76 q.2), zLs_no hI.2.2 (fun q => c_98 q.2)⟩ hP hD hS (lv_sub hl [0, 3, 4, 5, 6, 2, 1] rfl)
              · have c_98 : (nm i) = p2 := (lg_cmp_eq _ _).mp c_98
                have i_98 : (nm i).toInt = p2.toInt := zl_eq.mp c_98
                refine lv_iload hx hb dX7_map_101 (lv_at hl 1 rfl) ?_
                refine lv_goto (tgt := 108) hx hb dX7_map_103 (by decide) ?_
                refine lv_istore (lv' := [(7, .int (nI i)), (6, .int x6), (8, .int (nI i)), (0, .ref mo), (1, .int p0), (2, .long p1), (4, .long p2)]) hx hb dX7_map_108 hl (by decide) rfl (fun ls hl => ?_)
                refine lv_iinc (v := (nI (i + 1))) (lv' := [(8, .int (nI (i + 1))), (7, .int (nI i)), (6, .int x6), (0, .ref mo), (1, .int p0), (2, .long p1), (4, .long p2)]) hx hb dX7_map_110 hl (k := 2) rfl (by first | exact nI_1 _ | rfl) (by decide) rfl (fun ls hl => ?_)
                refine lv_goto (tgt := 47) hx hb dX7_map_113 (by decide) ?_
                exact ih (i + 1, x6, nI i) _ _ _ (show nn - (i + 1) < nn - i from (by omega)) ⟨by omega, zLs_no hI.2.1 (fun q => c_76 q.2), zLs_hit ⟨c_64, c_98⟩⟩ hP hD hS (lv_sub hl [0, 3, 4, 5, 6, 2, 1] rfl)
            · have c_76 : (rf i) = p1 := (lg_cmp_eq _ _).mp c_76
              have i_76 : (rf i).toInt = p1.toInt := zl_eq.mp c_76
              refine lv_iload hx hb dX7_map_79 (lv_at hl 0 rfl) ?_
              refine lv_goto (tgt := 86) hx hb dX7_map_81 (by decide) ?_
              refine lv_istore (lv' := [(6, .int (nI i)), (8, .int (nI i)), (0, .ref mo), (1, .int p0), (2, .long p1), (4, .long p2), (7, .int x7)]) hx hb dX7_map_86 hl (by decide) rfl (fun ls hl => ?_)
              refine lv_aload_n hx hb dX7_map_88 rfl (lv_at hl 2 rfl) ?_
              refine va_get (D := D) (ci := 7) (v := .ref mn3) (C := RX7) (T := TX7) (N := 19) hx hb hts k_1 hown hK hP 0 rfl rfl 16 (by decide) k_6 (fun _ h9 => h9) rfl dX7_map_89 ?_
              refine lv_iload hx hb dX7_map_92 (lv_at hl 1 rfl) ?_
              refine z_lald (k := i) hx hb hK hP 5 4 rfl rfl (by omega) (by decide) dX7_map_94 ?_
              refine lv_lload hx hb dX7_map_95 (lv_at hl 5 rfl) ?_
              refine W.lcmp hx hb dX7_map_97 ?_
              refine lv_if_ne (tgt := 106) hx hb dX7_map_98 (by decide) (fun c_98 => ?_) (fun c_98 => ?_)
              · have c_98 : ¬ ((nm i) = p2) := fun q9 => c_98 ((lg_cmp_eq _ _).mpr q9)
                have i_98 : ¬ ((nm i).toInt = p2.toInt) := fun q9 => c_98 (zl_eq.mpr q9)
                refine lv_iload hx hb dX7_map_106 (lv_at hl 6 rfl) ?_
                refine lv_istore (lv' := [(7, .int x7), (6, .int (nI i)), (8, .int (nI i)), (0, .ref mo), (1, .int p0), (2, .long p1), (4, .long p2)]) hx hb dX7_map_108 hl (by decide) rfl (fun ls hl => ?_)
                refine lv_iinc (v := (nI (i + 1))) (lv' := [(8, .int (nI (i + 1))), (7, .int x7), (6, .int (nI i)), (0, .ref mo), (1, .int p0), (2, .long p1), (4, .long p2)]) hx hb dX7_map_110 hl (k := 2) rfl (by first | exact nI_1 _ | rfl) (by decide) rfl (fun ls hl => ?_)
                refine lv_goto (tgt := 47) hx hb dX7_map_113 (by decide) ?_
                exact ih (i + 1, nI i, x7) _ _ _ (show nn - (i + 1) < nn - i from (by omega)) ⟨by omega, zLs_hit ⟨c_64, c_76⟩, zLs_no hI.2.2 (fun q => c_98 q.2)⟩ hP hD hS (lv_sub hl [0, 3, 4, 5, 6, 2, 1] rfl)
              · have c_98 : (nm i) = p2 := (lg_cmp_eq _ _).mp c_98
                have i_98 : (nm i).toInt = p2.toInt := zl_eq.mp c_98
                refine lv_iload hx hb dX7_map_101 (lv_at hl 1 rfl) ?_
                refine lv_goto (tgt := 108) hx hb dX7_map_103 (by decide) ?_
                refine lv_istore (lv' := [(7, .int (nI i)), (6, .int (nI i)), (8, .int (nI i)), (0, .ref mo), (1, .int p0), (2, .long p1), (4, .long p2)]) hx hb dX7_map_108 hl (by decide) rfl (fun ls hl => ?_)
                refine lv_iinc (v := (nI (i + 1))) (lv' := [(8, .int (nI (i + 1))), (7, .int (nI i)), (6, .int (nI i)), (0, .ref mo), (1, .int p0), (2, .long p1), (4, .long p2)]) hx hb dX7_map_110 hl (k := 2) rfl (by first | exact nI_1 _ | rfl) (by decide) rfl (fun ls hl => ?_)
                refine lv_goto (tgt := 47) hx hb dX7_map_113 (by decide) ?_
                exact ih (i + 1, nI i, nI i) _ _ _ (show nn - (i + 1) < nn - i from (by omega)) ⟨by omega, zLs_hit ⟨c_64, c_76⟩, zLs_hit ⟨c_64, c_98⟩⟩ hP hD hS (lv_sub hl [0, 3, 4, 5, 6, 2, 1] rfl)
      · have c_32 : ¬ (0 ≤ p1) := fun q9 => c_32 ((lg_cmp_ge _ _).mpr q9)
        have i_32 : ¬ (0 ≤ p1.toInt) := fun q9 => c_32 (zl_le.mpr q9)
        refine lv_bipush (v := -102) hx hb dX7_map_35 (by decide) ?_
        exact W.iret (v := (-102)) hx hb hr (fun t9 ht9 hW9 => ⟨⟨_, (nn, sd, rf, nm), rfl, Or.inr ⟨hgv, Or.inl ⟨by omega, rfl, rfl, rfl, rfl, rfl⟩⟩, by rw [ht9]; exact hP, va_K.moved hW9.alike hK, hD⟩, hS.F ht9⟩) hS.2.2 dX7_map_37
  · have i_11 : ¬ (0 ≤ r_8.toInt) := fun q9 => c_11 (zi_le.mpr q9)
    refine lv_bipush (v := -101) hx hb dX7_map_14 (by decide) ?_
    exact W.iret (v := (-101)) hx hb hr (fun t9 ht9 hW9 => ⟨⟨_, (nn, sd, rf, nm), rfl, Or.inl ⟨by rcases zfnd hw_8 hg with q | q; exact absurd q.1 (by omega); exact q.2, rfl, rfl, rfl, rfl, rfl⟩, by rw [ht9]; exact hP, va_K.moved hW9.alike hK, hD⟩, hS.F ht9⟩) hS.2.2 dX7_map_16
end
